/-- far -/
def mo_f0 (N : Nat → Nat → Nat) : Nat → Nat
  | 0 => 0
  | p + 1 => mo_f0 N p ||| N 7 p * 2 ^ p
theorem mo_f0_lt (N : Nat → Nat → Nat) (h : ∀ j, j < 12 → N 7 j < 2) : ∀ p, p ≤ 12 → mo_f0 N p < 2 ^ 12 := by
  intro p
  induction p with
  | zero => intro _; exact Nat.two_pow_pos 12
  | succ p ih =>
    intro hp
    have h1 := h p (by omega)
    have h3 : 2 ^ p ≤ 2 ^ 11 := Nat.pow_le_pow_right (by decide) (by omega)
    have h4 : N 7 p * 2 ^ p ≤ 1 * 2 ^ 11 := Nat.mul_le_mul (by omega) h3
    rw [mo_f0]
    exact Nat.or_lt_two_pow (ih (by omega)) (by omega)
theorem bf_m2 {x p : Nat} (h : x < 2) (hp : p < 12) : x * 2 ^ p < 2 ^ 32 := by
  have h3 : 2 ^ p ≤ 2 ^ 11 := Nat.pow_le_pow_right (by decide) (by omega)
  have h4 : x * 2 ^ p ≤ 1 * 2 ^ 11 := Nat.mul_le_mul (by omega) h3
  omega
def mo_f1s (N : Nat → Nat → Nat) : Nat → Nat
  | 0 => 0
  | k + 1 => 3 * mo_f1s N k + N 5 (7 - 1 - k)
theorem mo_f1s_lt (N : Nat → Nat → Nat) (h : ∀ j, j < 8 → N 5 j < 3) : ∀ k, k ≤ 7 → mo_f1s N k < 3 ^ k := by
  intro k
  induction k with
  | zero => intro _; show 0 < 1; decide
  | succ k ih => intro hk; have := ih (by omega); have := h (7 - 1 - k) (by omega); rw [mo_f1s, Nat.pow_succ]; omega
def mo_f1m (N : Nat → Nat → Nat) : Nat → Nat
  | 0 => 0
  | p + 1 => mo_f1m N p ||| (if 7 < N 6 p then 1 * 2 ^ p else 0)
def mo_f2m (N : Nat → Nat → Nat) : Nat → Nat
  | 0 => 0
  | p + 1 => mo_f2m N p ||| (if N 6 p < 4 then 1 * 2 ^ p else 0)
theorem mo_f1m_lt (N : Nat → Nat → Nat) : ∀ p, mo_f1m N p < 2 ^ p := by
  intro p
  induction p with
  | zero => show 0 < 1; decide
  | succ p ih =>
    have h1 : 2 ^ (p + 1) = 2 ^ p * 2 := Nat.pow_succ ..
    have h2 := Nat.two_pow_pos p
    rw [mo_f1m]
    refine Nat.or_lt_two_pow (by omega) ?_
    split <;> omega
theorem mo_f2m_lt (N : Nat → Nat → Nat) : ∀ p, mo_f2m N p < 2 ^ p := by
  intro p
  induction p with
  | zero => show 0 < 1; decide
  | succ p ih =>
    have h1 : 2 ^ (p + 1) = 2 ^ p * 2 := Nat.pow_succ ..
    have h2 := Nat.two_pow_pos p
    rw [mo_f2m]
    refine Nat.or_lt_two_pow (by omega) ?_
    split <;> omega
def mo_rc : Nat → (Nat → Nat → Nat) → Nat → Nat → Nat
  | 0, N => N
  | p + 1, N => mo_up (mo_rc p N) 36 p (mo_rc p N 4 p)
theorem mo_rc_k {k : Nat} (h : k ≠ 36) (N : Nat → Nat → Nat) : ∀ p, mo_rc p N k = N k := by
  intro p
  induction p with
  | zero => rfl
  | succ p ih => funext j; simp [mo_rc, mo_up, h, ih]
theorem mo_rc_v (N : Nat → Nat → Nat) : ∀ p j, j < p → mo_rc p N 36 j = N 4 j := by
  intro p
  induction p with
  | zero => intro j h; omega
  | succ p ih =>
    intro j h
    rw [mo_rc]
    by_cases e : j = p
    · subst e; simp [mo_up, mo_rc_k (k := 4) (by decide)]
    · simp [mo_up, e, ih j (by omega)]
def mo_fr (sl : Nat) : Nat → (Nat → Nat → Nat) → Nat → Nat → Nat
  | 0, N => N
  | p + 1, N => mo_up (mo_fr sl p N) 36 p (mo_fr sl p N 6 (4 * sl + p) - 4 * sl)
theorem mo_fr_k {k : Nat} (h : k ≠ 36) (sl : Nat) (N : Nat → Nat → Nat) : ∀ p, mo_fr sl p N k = N k := by
  intro p
  induction p with
  | zero => rfl
  | succ p ih => funext j; simp [mo_fr, mo_up, h, ih]
theorem mo_fr_v (sl : Nat) (N : Nat → Nat → Nat) : ∀ p j, j < p → mo_fr sl p N 36 j = N 6 (4 * sl + j) - 4 * sl := by
  intro p
  induction p with
  | zero => intro j h; omega
  | succ p ih =>
    intro j h
    rw [mo_fr]
    by_cases e : j = p
    · subst e; simp [mo_up, mo_fr_k (k := 6) (by decide)]
    · simp [mo_up, e, ih j (by omega)]
def mo_f3 (N : Nat → Nat → Nat) (k0 : Nat) : Nat → (Nat → Nat → Nat) × Nat
  | 0 => (N, k0)
  | sl + 1 => (mo_fr sl 4 (mo_f3 N k0 sl).1, 24 * (mo_f3 N k0 sl).2 + mo_rk (mo_fr sl 4 (mo_f3 N k0 sl).1 36) 4 4)
theorem mo_f3_k {k : Nat} (h : k ≠ 36) (N : Nat → Nat → Nat) (k0 : Nat) : ∀ sl, (mo_f3 N k0 sl).1 k = N k := by
  intro sl
  induction sl with
  | zero => rfl
  | succ sl ih => rw [mo_f3]; dsimp only; rw [mo_fr_k h, ih]
def mo_far0 (N : Nat → Nat → Nat) : Nat := N 20 (mo_f0 N 12)
def mo_far1 (N : Nat → Nat → Nat) : Nat := N 21 (495 * mo_f1s N 7 + N 24 (mo_f1m N 12))
def mo_far2 (N : Nat → Nat → Nat) : Nat := N 22 (70 * N 28 (mo_rk (mo_rc 8 N 36) 8 8) + N 26 (mo_f2m N 8))
def mo_far3W (N : Nat → Nat → Nat) : (Nat → Nat → Nat) × Nat := mo_f3 (mo_rc 8 N) (N 30 (mo_rk (mo_rc 8 N 36) 8 8)) 3
def mo_far3 (N : Nat → Nat → Nat) : Nat := N 23 (mo_far3W N).2
theorem in_X11_far : ∀ w ∈ wsX110, w ∈ wsX11_far := fun _ h => List.mem_cons_of_mem _ (List.mem_append_right _ h)
theorem lk_X11_far_31 : Cond.fieldLink RX11 31 "StageCubeModel" "fl" "[I" ∈ wsX11_far := by decide +kernel
theorem lk_X11_far_58 : Cond.fieldLink RX11 58 "StageCubeModel" "near1" "[B" ∈ wsX11_far := by decide +kernel
set_option maxHeartbeats 4000000 in
set_option maxRecDepth 100000 in
theorem c_far0 (l : Launch) (D : va_G) (cI cB cS cJ cF cG : ClassId) (zz : (Nat → Prop) → State → Heap → Prop) (hz : gw_zT zz) (o : Nat) (ad : Nat → Nat) (N : Nat → Nat → Nat) (h7 : ∀ j, j < 12 → N 7 j < 2) : gw_CI l yX11_far wsX11_far 1 25 0 0 D (mo_ty cI cB cS cJ cF cG) zz (mo_ws o ad cI cB cS N) [.ref o, iN 0] (fun r N' => r = nI (mo_far0 N) ∧ N' = N) (fun N' => mo_ws o ad cI cB cS N') := by
  refine gw_CI.of (cc := cX11_far) (maxL := 6) (rt := .int) hz (by decide) rfl (Nat.le_of_ble_eq_true rfl) ?_
  intro K C hkl hkn hkR hkD hmn ret
  have C : gw_x K cX11_far RX11 wsX11_far (mo_ty cI cB cS cJ cF cG) zz := C
  subst hkl hkD
  refine gw_iload_n C 1 dX11_far_0 rfl rfl ?_
  refine gw_if_ne C 38 dX11_far_1 (by decide) (by omega) (fun h61 => ?_) (fun h61 => ?_)
  ·
    exact absurd rfl h61
  ·
    refine gw_iconst C 0 dX11_far_4 (by decide) ?_
    refine gw_istore_n C (lv2 := [(2, iN (0)), (0, .ref (o)), (1, iN (0))]) dX11_far_5 rfl (by omega) rfl ?_
    refine gw_iconst C 0 dX11_far_6 (by decide) ?_
    refine gw_istore_n C (lv2 := [(3, iN (0)), (2, iN (0)), (0, .ref (o)), (1, iN (0))]) dX11_far_7 rfl (by omega) rfl ?_
    have lp : ∀ np p : Nat, p + np = 12 → gw_G K (mo_ws o ad cI cB cS (N)) 0 0 8 [(3, iN (p)), (2, iN (mo_f0 N p)), (0, .ref (o)), (1, iN (0))] [] := by
      intro np
      induction np with
      | zero =>
        intro p hip
        refine gw_iload_n C 0 dX11_far_8 rfl rfl ?_
        refine gw_bipush C 12 dX11_far_9 (by decide) ?_
        refine gw_icmp_ge C 31 dX11_far_11 (by decide) (by omega) (by omega) (fun h62 => ?_) (fun h62 => ?_)
        ·
          rw [show p = 12 by omega]
          have c := mo_f0_lt N h7 12 (Nat.le_refl _)
          refine gw_aload_n C 2 dX11_far_31 rfl rfl ?_
          refine gw_get C 0 20 in_X11_far dX11_far_32 lk_X11_far_58 rfl rfl (by decide) rfl rfl ?_
          refine gw_iload_n C 1 dX11_far_35 rfl rfl ?_
          refine gw_bld C (v := nI (N 20 (mo_f0 N 12))) 17 1 dX11_far_36 rfl rfl (by decide) (by omega) (by first | rfl | simp [mo_up]) ?_
          exact ret N dX11_far_37 rfl ⟨rfl, rfl⟩ rfl (Nat.le_refl 0) (Nat.le_refl 0)
        ·
          exact absurd h62 (by omega)
      | succ np ihp =>
        intro p hip
        refine gw_iload_n C 0 dX11_far_8 rfl rfl ?_
        refine gw_bipush C 12 dX11_far_9 (by decide) ?_
        refine gw_icmp_ge C 31 dX11_far_11 (by decide) (by omega) (by omega) (fun h63 => ?_) (fun h63 => ?_)
        ·
          exact absurd h63 (by omega)
        ·
          have c := h7 p (by omega)
          refine gw_iload_n C 1 dX11_far_14 rfl rfl ?_
          refine gw_aload_n C 2 dX11_far_15 rfl rfl ?_
          refine gw_get C 0 7 in_X11_far dX11_far_16 lk_X11_far_31 rfl rfl (by decide) rfl rfl ?_
          refine gw_iload_n C 0 dX11_far_19 rfl rfl ?_
          refine gw_ild C (v := nI (N 7 (p))) 8 0 dX11_far_20 rfl rfl (by decide) (by omega) (by first | rfl | simp [mo_up]) ?_
          refine gw_iload_n C 0 dX11_far_21 rfl rfl ?_
          refine gw_ishl C dX11_far_22 (by omega) (by exact bf_m2 c (by omega)) ?_
          refine gw_ior C dX11_far_23 ?_
          refine gw_istore_n C (lv2 := [(2, iN ((mo_f0 N p) ||| ((N 7 (p)) * 2 ^ (p)))), (3, iN (p)), (0, .ref (o)), (1, iN (0))]) dX11_far_24 rfl (by omega) rfl ?_
          refine gw_iinc C (v := nI (p + 1)) (lv2 := [(3, iN (p + 1)), (2, iN ((mo_f0 N p) ||| ((N 7 (p)) * 2 ^ (p)))), (0, .ref (o)), (1, iN (0))]) 1 dX11_far_25 rfl (nI_add _ _) (by omega) rfl ?_
          refine gw_goto C 8 dX11_far_28 (by decide) ?_
          refine gw_lv (lv2 := [(3, iN (p + 1)), (2, iN ((mo_f0 N p) ||| ((N 7 (p)) * 2 ^ (p)))), (0, .ref (o)), (1, iN (0))]) [0, 1, 2, 3] rfl ?_
          exact ihp (p + 1) (by omega)
    refine gw_lv (lv2 := [(3, iN (0)), (2, iN (0)), (0, .ref (o)), (1, iN (0))]) [0, 1, 2, 3] rfl ?_
    exact lp (12 - 0) 0 (by omega)
theorem lk_X11_far_25 : Cond.fieldLink RX11 25 "StageCubeModel" "tw" "[I" ∈ wsX11_far := by decide +kernel
theorem lk_X11_far_28 : Cond.fieldLink RX11 28 "StageCubeModel" "e" "[I" ∈ wsX11_far := by decide +kernel
theorem lk_X11_far_63 : Cond.fieldLink RX11 63 "StageCubeModel" "near2" "[B" ∈ wsX11_far := by decide +kernel
theorem lk_X11_far_73 : Cond.fieldLink RX11 73 "StageCubeModel" "maskOf" "[S" ∈ wsX11_far := by decide +kernel
set_option maxHeartbeats 4000000 in
set_option maxRecDepth 100000 in
theorem c_far1 (l : Launch) (D : va_G) (cI cB cS cJ cF cG : ClassId) (zz : (Nat → Prop) → State → Heap → Prop) (hz : gw_zT zz) (o : Nat) (ad : Nat → Nat) (N : Nat → Nat → Nat) (h5 : ∀ j, j < 8 → N 5 j < 3) (h6 : ∀ j, j < 12 → N 6 j < 12) (h24 : ∀ j, j < 4096 → N 24 j < 495) : gw_CI l yX11_far wsX11_far 1 25 0 0 D (mo_ty cI cB cS cJ cF cG) zz (mo_ws o ad cI cB cS N) [.ref o, iN 1] (fun r N' => r = nI (mo_far1 N) ∧ N' = N) (fun N' => mo_ws o ad cI cB cS N') := by
  refine gw_CI.of (cc := cX11_far) (maxL := 6) (rt := .int) hz (by decide) rfl (Nat.le_of_ble_eq_true rfl) ?_
  intro K C hkl hkn hkR hkD hmn ret
  have C : gw_x K cX11_far RX11 wsX11_far (mo_ty cI cB cS cJ cF cG) zz := C
  subst hkl hkD
  refine gw_iload_n C 1 dX11_far_0 rfl rfl ?_
  refine gw_if_ne C 38 dX11_far_1 (by decide) (by omega) (fun h64 => ?_) (fun h64 => ?_)
  ·
    refine gw_iload_n C 1 dX11_far_38 rfl rfl ?_
    refine gw_iconst C 1 dX11_far_39 (by decide) ?_
    refine gw_icmp_ne C 128 dX11_far_40 (by decide) (by omega) (by omega) (fun h65 => ?_) (fun h65 => ?_)
    ·
      exact absurd rfl h65
    ·
      refine gw_iconst C 0 dX11_far_43 (by decide) ?_
      refine gw_istore_n C (lv2 := [(2, iN (0)), (0, .ref (o)), (1, iN (1))]) dX11_far_44 rfl (by omega) rfl ?_
      refine gw_bipush C 6 dX11_far_45 (by decide) ?_
      refine gw_istore_n C (lv2 := [(3, iN (6)), (2, iN (0)), (0, .ref (o)), (1, iN (1))]) dX11_far_47 rfl (by omega) rfl ?_
      refine gw_lv (lv2 := [(3, iN (mo_dn 7 0)), (2, iN (mo_f1s N 0)), (0, .ref o), (1, iN 1)]) [0, 1, 2, 3] rfl ?_
      have lp : ∀ nk k : Nat, k + nk = 7 → gw_G K (mo_ws o ad cI cB cS (N)) 0 0 48 [(3, iN (mo_dn 7 k)), (2, iN (mo_f1s N k)), (0, .ref (o)), (1, iN (1))] [] := by
        intro nk
        induction nk with
        | zero =>
          intro k hik
          have d32 := mo_dn_32 (n := 7) (t := k) (by omega)
          have d33 : k < 7 → mo_dn 7 k = 7 - 1 - k := mo_dn_lt
          have d34 : ¬ k < 7 → mo_dn 7 k = 4294967295 := mo_dn_ge
          refine gw_iload_n C 0 dX11_far_48 rfl rfl ?_
          refine gw_if_lt32 C 69 dX11_far_49 (by decide) (by omega) (fun h66 => ?_) (fun h66 => ?_)
          ·
            rw [show k = 7 by omega]
            have c3 := mo_f1s_lt N h5 7 (Nat.le_refl _)
            refine gw_iconst C 0 dX11_far_69 (by decide) ?_
            refine gw_istore_n C (lv2 := [(3, iN (0)), (2, iN (mo_f1s N 7)), (0, .ref (o)), (1, iN (1))]) dX11_far_70 rfl (by omega) rfl ?_
            refine gw_iconst C 0 dX11_far_71 (by decide) ?_
            refine gw_istore C (lv2 := [(4, iN (0)), (3, iN (0)), (2, iN (mo_f1s N 7)), (0, .ref (o)), (1, iN (1))]) dX11_far_72 (by omega) rfl ?_
            have lp2 : ∀ np p : Nat, p + np = 12 → gw_G K (mo_ws o ad cI cB cS (N)) 0 0 74 [(4, iN (p)), (3, iN (mo_f1m N p)), (2, iN (mo_f1s N 7)), (0, .ref (o)), (1, iN (1))] [] := by
              intro np
              induction np with
              | zero =>
                intro p hip
                refine gw_iload C 0 dX11_far_74 rfl ?_
                refine gw_bipush C 12 dX11_far_76 (by decide) ?_
                refine gw_icmp_ge C 110 dX11_far_78 (by decide) (by omega) (by omega) (fun h67 => ?_) (fun h67 => ?_)
                ·
                  rw [show p = 12 by omega]
                  have c4 := mo_f1m_lt N 12
                  have c5 := h24 (mo_f1m N 12) (by omega)
                  refine gw_aload_n C 3 dX11_far_110 rfl rfl ?_
                  refine gw_get C 0 21 in_X11_far dX11_far_111 lk_X11_far_63 rfl rfl (by decide) rfl rfl ?_
                  refine gw_sipush C 495 dX11_far_114 (by decide) ?_
                  refine gw_iload_n C 2 dX11_far_117 rfl rfl ?_
                  refine gw_imul C dX11_far_118 ?_
                  refine gw_aload_n C 3 dX11_far_119 rfl rfl ?_
                  refine gw_get C 0 24 in_X11_far dX11_far_120 lk_X11_far_73 rfl rfl (by decide) rfl rfl ?_
                  refine gw_iload_n C 1 dX11_far_123 rfl rfl ?_
                  refine gw_sld C (v := nI (N 24 (mo_f1m N 12))) 21 2 dX11_far_124 rfl rfl (by decide) (by omega) (by first | rfl | simp [mo_up]) ?_
                  refine gw_iadd C dX11_far_125 ?_
                  refine gw_bld C (v := nI (N 21 (((495) * (mo_f1s N 7)) + (N 24 (mo_f1m N 12))))) 18 1 dX11_far_126 rfl rfl (by decide) (by omega) (by first | rfl | simp [mo_up]) ?_
                  exact ret N dX11_far_127 rfl ⟨rfl, rfl⟩ rfl (Nat.le_refl 0) (Nat.le_refl 0)
                ·
                  exact absurd h67 (by omega)
              | succ np ihp =>
                intro p hip
                refine gw_iload C 0 dX11_far_74 rfl ?_
                refine gw_bipush C 12 dX11_far_76 (by decide) ?_
                refine gw_icmp_ge C 110 dX11_far_78 (by decide) (by omega) (by omega) (fun h68 => ?_) (fun h68 => ?_)
                ·
                  exact absurd h68 (by omega)
                ·
                  have c := h6 p (by omega)
                  refine gw_iload_n C 1 dX11_far_81 rfl rfl ?_
                  refine gw_aload_n C 3 dX11_far_82 rfl rfl ?_
                  refine gw_get C 0 6 in_X11_far dX11_far_83 lk_X11_far_28 rfl rfl (by decide) rfl rfl ?_
                  refine gw_iload C 0 dX11_far_86 rfl ?_
                  refine gw_ild C (v := nI (N 6 (p))) 7 0 dX11_far_88 rfl rfl (by decide) (by omega) (by first | rfl | simp [mo_up]) ?_
                  refine gw_bipush C 7 dX11_far_89 (by decide) ?_
                  refine gw_icmp_le C 101 dX11_far_91 (by decide) (by omega) (by omega) (fun h69 => ?_) (fun h69 => ?_)
                  ·
                    refine gw_iconst C 0 dX11_far_101 (by decide) ?_
                    refine gw_ior C dX11_far_102 ?_
                    refine gw_istore_n C (lv2 := [(3, iN ((mo_f1m N p) ||| (0))), (4, iN (p)), (2, iN (mo_f1s N 7)), (0, .ref (o)), (1, iN (1))]) dX11_far_103 rfl (by omega) rfl ?_
                    refine gw_iinc C (v := nI (p + 1)) (lv2 := [(4, iN (p + 1)), (3, iN ((mo_f1m N p) ||| (0))), (2, iN (mo_f1s N 7)), (0, .ref (o)), (1, iN (1))]) 1 dX11_far_104 rfl (nI_add _ _) (by omega) rfl ?_
                    refine gw_goto C 74 dX11_far_107 (by decide) ?_
                    refine gw_lv (lv2 := [(4, iN (p + 1)), (3, iN ((mo_f1m N p) ||| (0))), (2, iN (mo_f1s N 7)), (0, .ref (o)), (1, iN (1))]) [0, 1, 2, 3, 4] rfl ?_
                    have q := ihp (p + 1) (by omega)
                    rw [mo_f1m, if_neg (by omega)] at q
                    exact q
                  ·
                    refine gw_iconst C 1 dX11_far_94 (by decide) ?_
                    refine gw_iload C 0 dX11_far_95 rfl ?_
                    refine gw_ishl C dX11_far_97 (by omega) (by exact gw_p2 (by omega)) ?_
                    refine gw_goto C 102 dX11_far_98 (by decide) ?_
                    refine gw_ior C dX11_far_102 ?_
                    refine gw_istore_n C (lv2 := [(3, iN ((mo_f1m N p) ||| ((1) * 2 ^ (p)))), (4, iN (p)), (2, iN (mo_f1s N 7)), (0, .ref (o)), (1, iN (1))]) dX11_far_103 rfl (by omega) rfl ?_
                    refine gw_iinc C (v := nI (p + 1)) (lv2 := [(4, iN (p + 1)), (3, iN ((mo_f1m N p) ||| ((1) * 2 ^ (p)))), (2, iN (mo_f1s N 7)), (0, .ref (o)), (1, iN (1))]) 1 dX11_far_104 rfl (nI_add _ _) (by omega) rfl ?_
                    refine gw_goto C 74 dX11_far_107 (by decide) ?_
                    refine gw_lv (lv2 := [(4, iN (p + 1)), (3, iN ((mo_f1m N p) ||| ((1) * 2 ^ (p)))), (2, iN (mo_f1s N 7)), (0, .ref (o)), (1, iN (1))]) [0, 1, 2, 3, 4] rfl ?_
                    have q := ihp (p + 1) (by omega)
                    rw [mo_f1m, if_pos (by omega)] at q
                    exact q
            refine gw_lv (lv2 := [(4, iN (0)), (3, iN (0)), (2, iN (mo_f1s N 7)), (0, .ref (o)), (1, iN (1))]) [0, 1, 2, 3, 4] rfl ?_
            exact lp2 (12 - 0) 0 (by omega)
          ·
            exact absurd h66 (by omega)
        | succ nk ihk =>
          intro k hik
          have d32 := mo_dn_32 (n := 7) (t := k) (by omega)
          have d33 : k < 7 → mo_dn 7 k = 7 - 1 - k := mo_dn_lt
          have d34 : ¬ k < 7 → mo_dn 7 k = 4294967295 := mo_dn_ge
          refine gw_iload_n C 0 dX11_far_48 rfl rfl ?_
          refine gw_if_lt32 C 69 dX11_far_49 (by decide) (by omega) (fun h70 => ?_) (fun h70 => ?_)
          ·
            exact absurd h70 (by omega)
          ·
            rw [mo_dn_lt (show k < 7 by omega)]
            refine gw_iconst C 3 dX11_far_52 (by decide) ?_
            refine gw_iload_n C 1 dX11_far_53 rfl rfl ?_
            refine gw_imul C dX11_far_54 ?_
            refine gw_aload_n C 2 dX11_far_55 rfl rfl ?_
            refine gw_get C 0 5 in_X11_far dX11_far_56 lk_X11_far_25 rfl rfl (by decide) rfl rfl ?_
            refine gw_iload_n C 0 dX11_far_59 rfl rfl ?_
            refine gw_ild C (v := nI (N 5 (7 - 1 - k))) 6 0 dX11_far_60 rfl rfl (by decide) (by omega) (by first | rfl | simp [mo_up]) ?_
            refine gw_iadd C dX11_far_61 ?_
            refine gw_istore_n C (lv2 := [(2, iN (((3) * (mo_f1s N k)) + (N 5 (7 - 1 - k)))), (3, iN (7 - 1 - k)), (0, .ref (o)), (1, iN (1))]) dX11_far_62 rfl (by omega) rfl ?_
            refine gw_iinc C (v := nI (mo_dn 7 (k + 1))) (lv2 := [(3, iN (mo_dn 7 (k + 1))), (2, iN (((3) * (mo_f1s N k)) + (N 5 (7 - 1 - k)))), (0, .ref (o)), (1, iN (1))]) 1 dX11_far_63 rfl (mo_dn_dec (by omega)) (by omega) rfl ?_
            refine gw_goto C 48 dX11_far_66 (by decide) ?_
            refine gw_lv (lv2 := [(3, iN (mo_dn 7 (k + 1))), (2, iN (((3) * (mo_f1s N k)) + (N 5 (7 - 1 - k)))), (0, .ref (o)), (1, iN (1))]) [0, 1, 2, 3] rfl ?_
            exact ihk (k + 1) (by omega)
      refine gw_lv (lv2 := [(3, iN (mo_dn 7 0)), (2, iN (mo_f1s N 0)), (0, .ref (o)), (1, iN (1))]) [0, 1, 2, 3] rfl ?_
      exact lp (7 - 0) 0 (by omega)
  ·
    exact absurd h64 (by omega)
theorem lk_X11_far_22 : Cond.fieldLink RX11 22 "StageCubeModel" "c" "[I" ∈ wsX11_far := by decide +kernel
theorem lk_X11_far_66 : Cond.fieldLink RX11 66 "StageCubeModel" "near3" "[B" ∈ wsX11_far := by decide +kernel
theorem lk_X11_far_80 : Cond.fieldLink RX11 80 "StageCubeModel" "halfOf" "[S" ∈ wsX11_far := by decide +kernel
theorem lk_X11_far_87 : Cond.fieldLink RX11 87 "StageCubeModel" "kindOf" "[S" ∈ wsX11_far := by decide +kernel
theorem lk_X11_far_112 : Cond.fieldLink RX11 112 "StageCubeModel" "row" "[I" ∈ wsX11_far := by decide +kernel
set_option maxHeartbeats 4000000 in
set_option maxRecDepth 100000 in
theorem c_far2 (l : Launch) (D : va_G) (cI cB cS cJ cF cG : ClassId) (zz : (Nat → Prop) → State → Heap → Prop) (hz : gw_zT zz) (o : Nat) (ad : Nat → Nat) (N : Nat → Nat → Nat) (h4 : ∀ j, j < 8 → N 4 j < 8) (h6 : ∀ j, j < 12 → N 6 j < 12) (h28 : N 28 (mo_rk (mo_rc 8 N 36) 8 8) < 420) (h26 : ∀ j, j < 256 → N 26 j < 70) : gw_CI l yX11_far wsX11_far 1 25 0 0 D (mo_ty cI cB cS cJ cF cG) zz (mo_ws o ad cI cB cS N) [.ref o, iN 2] (fun r N' => r = nI (mo_far2 N) ∧ N' = mo_rc 8 N) (fun N' => mo_ws o ad cI cB cS N') := by
  refine gw_CI.of (cc := cX11_far) (maxL := 6) (rt := .int) hz (by decide) rfl (Nat.le_of_ble_eq_true rfl) ?_
  intro K C hkl hkn hkR hkD hmn ret
  have C : gw_x K cX11_far RX11 wsX11_far (mo_ty cI cB cS cJ cF cG) zz := C
  subst hkl hkD
  refine gw_iload_n C 1 dX11_far_0 rfl rfl ?_
  refine gw_if_ne C 38 dX11_far_1 (by decide) (by omega) (fun h71 => ?_) (fun h71 => ?_)
  ·
    refine gw_iload_n C 1 dX11_far_38 rfl rfl ?_
    refine gw_iconst C 1 dX11_far_39 (by decide) ?_
    refine gw_icmp_ne C 128 dX11_far_40 (by decide) (by omega) (by omega) (fun h72 => ?_) (fun h72 => ?_)
    ·
      refine gw_iconst C 0 dX11_far_128 (by decide) ?_
      refine gw_istore_n C (lv2 := [(2, iN (0)), (0, .ref (o)), (1, iN (2))]) dX11_far_129 rfl (by omega) rfl ?_
      have lp : ∀ ni i : Nat, i + ni = 8 → gw_G K (mo_ws o ad cI cB cS (mo_rc i N)) 0 0 130 [(2, iN (i)), (0, .ref (o)), (1, iN (2))] [] := by
        intro ni
        induction ni with
        | zero =>
          intro i hii
          refine gw_iload_n C 0 dX11_far_130 rfl rfl ?_
          refine gw_bipush C 8 dX11_far_131 (by decide) ?_
          refine gw_icmp_ge C 154 dX11_far_133 (by decide) (by omega) (by omega) (fun h73 => ?_) (fun h73 => ?_)
          ·
            rw [show i = 8 by omega]
            have kb : ∀ j, j < 8 → mo_rc 8 N 36 j < 100 := fun j hj => by rw [mo_rc_v _ _ _ hj]; have := h4 j hj; omega
            have kr := mo_rk_lt8 (mo_rc 8 N 36)
            have kall : ∀ k, k ≠ 36 → mo_rc 8 N k = N k := fun k hk => mo_rc_k hk N 8
            obtain ⟨B, eB⟩ : ∃ B, B = mo_rc 8 N := ⟨_, rfl⟩
            rw [← eB] at kb kr kall h28
            rw [← eB]
            refine gw_aload_n C 1 dX11_far_154 rfl rfl ?_
            refine gw_bipush C 8 dX11_far_155 (by decide) ?_
            refine gw_allVI (n := 1) C (c_rank (kl K) (kD K) cI cB cS cJ cF cG zz hz o ad (B) 8 (by omega) (kb)) 0 rfl rfl rfl gX11_far_X11_rank rfl (by decide +kernel) dX11_far_157 (by rw [hkR]; decide) (by rw [hkR]; decide) rfl (Nat.le_of_ble_eq_true rfl) rfl (fun rv3 v3 hv3 => ?_)
            obtain ⟨rfl, rfl⟩ := hv3
            obtain ⟨r, er⟩ : ∃ r, r = mo_rk (v3 36) 8 8 := ⟨_, rfl⟩
            rw [← er] at kr h28
            rw [← er]
            refine gw_istore_n C (lv2 := [(2, iN (r)), (0, .ref (o)), (1, iN (2))]) dX11_far_160 rfl (by omega) rfl ?_
            refine gw_iload_n C 2 dX11_far_161 rfl rfl ?_
            refine gw_iconst C 2 dX11_far_162 (by decide) ?_
            refine gw_icmp_ne C 228 dX11_far_163 (by decide) (by omega) (by omega) (fun h74 => ?_) (fun h74 => ?_)
            ·
              exact absurd rfl h74
            ·
              have e6 : v3 6 = N 6 := kall 6 (by decide)
              have e28 : v3 28 = N 28 := kall 28 (by decide)
              have e26 : v3 26 = N 26 := kall 26 (by decide)
              have e22 : v3 22 = N 22 := kall 22 (by decide)
              refine gw_iconst C 0 dX11_far_166 (by decide) ?_
              refine gw_istore_n C (lv2 := [(3, iN (0)), (2, iN (r)), (0, .ref (o)), (1, iN (2))]) dX11_far_167 rfl (by omega) rfl ?_
              refine gw_iconst C 0 dX11_far_168 (by decide) ?_
              refine gw_istore C (lv2 := [(4, iN (0)), (3, iN (0)), (2, iN (r)), (0, .ref (o)), (1, iN (2))]) dX11_far_169 (by omega) rfl ?_
              rw [← e28] at h28
              have lp2 : ∀ np p : Nat, p + np = 8 → gw_G K (mo_ws o ad cI cB cS (v3)) 0 0 171 [(4, iN (p)), (3, iN (mo_f2m v3 p)), (2, iN (r)), (0, .ref (o)), (1, iN (2))] [] := by
                intro np
                induction np with
                | zero =>
                  intro p hip
                  refine gw_iload C 0 dX11_far_171 rfl ?_
                  refine gw_bipush C 8 dX11_far_173 (by decide) ?_
                  refine gw_icmp_ge C 206 dX11_far_175 (by decide) (by omega) (by omega) (fun h75 => ?_) (fun h75 => ?_)
                  ·
                    rw [show p = 8 by omega]
                    have c4 := mo_f2m_lt v3 8
                    have c5 := h26 (mo_f2m v3 8) (by omega)
                    rw [← e26] at c5
                    have em : mo_f2m v3 8 = mo_f2m N 8 := by simp only [mo_f2m, e6]
                    refine gw_aload_n C 3 dX11_far_206 rfl rfl ?_
                    refine gw_get C 0 22 in_X11_far dX11_far_207 lk_X11_far_66 rfl rfl (by decide) rfl rfl ?_
                    refine gw_bipush C 70 dX11_far_210 (by decide) ?_
                    refine gw_aload_n C 3 dX11_far_212 rfl rfl ?_
                    refine gw_get C 0 28 in_X11_far dX11_far_213 lk_X11_far_87 rfl rfl (by decide) rfl rfl ?_
                    refine gw_iload_n C 2 dX11_far_216 rfl rfl ?_
                    refine gw_sld C (v := nI (v3 28 (r))) 25 2 dX11_far_217 rfl rfl (by decide) (by omega) (by first | rfl | simp [mo_up]) ?_
                    refine gw_imul C dX11_far_218 ?_
                    refine gw_aload_n C 3 dX11_far_219 rfl rfl ?_
                    refine gw_get C 0 26 in_X11_far dX11_far_220 lk_X11_far_80 rfl rfl (by decide) rfl rfl ?_
                    refine gw_iload_n C 1 dX11_far_223 rfl rfl ?_
                    refine gw_sld C (v := nI (v3 26 (mo_f2m v3 8))) 23 2 dX11_far_224 rfl rfl (by decide) (by omega) (by first | rfl | simp [mo_up]) ?_
                    refine gw_iadd C dX11_far_225 ?_
                    refine gw_bld C (v := nI (v3 22 (((70) * (v3 28 (r))) + (v3 26 (mo_f2m v3 8))))) 19 1 dX11_far_226 rfl rfl (by decide) (by omega) (by first | rfl | simp [mo_up]) ?_
                    exact ret v3 dX11_far_227 rfl ⟨by rw [mo_far2, ← eB, ← er, ← e28, ← e26, ← e22, ← em], eB⟩ rfl (Nat.le_refl 0) (Nat.le_refl 0)
                  ·
                    exact absurd h75 (by omega)
                | succ np ihp =>
                  intro p hip
                  refine gw_iload C 0 dX11_far_171 rfl ?_
                  refine gw_bipush C 8 dX11_far_173 (by decide) ?_
                  refine gw_icmp_ge C 206 dX11_far_175 (by decide) (by omega) (by omega) (fun h76 => ?_) (fun h76 => ?_)
                  ·
                    exact absurd h76 (by omega)
                  ·
                    have c := h6 p (by omega)
                    rw [← e6] at c
                    refine gw_iload_n C 1 dX11_far_178 rfl rfl ?_
                    refine gw_aload_n C 3 dX11_far_179 rfl rfl ?_
                    refine gw_get C 0 6 in_X11_far dX11_far_180 lk_X11_far_28 rfl rfl (by decide) rfl rfl ?_
                    refine gw_iload C 0 dX11_far_183 rfl ?_
                    refine gw_ild C (v := nI (v3 6 (p))) 7 0 dX11_far_185 rfl rfl (by decide) (by omega) (by first | rfl | simp [mo_up]) ?_
                    refine gw_iconst C 4 dX11_far_186 (by decide) ?_
                    refine gw_icmp_ge C 197 dX11_far_187 (by decide) (by omega) (by omega) (fun h77 => ?_) (fun h77 => ?_)
                    ·
                      refine gw_iconst C 0 dX11_far_197 (by decide) ?_
                      refine gw_ior C dX11_far_198 ?_
                      refine gw_istore_n C (lv2 := [(3, iN ((mo_f2m v3 p) ||| (0))), (4, iN (p)), (2, iN (r)), (0, .ref (o)), (1, iN (2))]) dX11_far_199 rfl (by omega) rfl ?_
                      refine gw_iinc C (v := nI (p + 1)) (lv2 := [(4, iN (p + 1)), (3, iN ((mo_f2m v3 p) ||| (0))), (2, iN (r)), (0, .ref (o)), (1, iN (2))]) 1 dX11_far_200 rfl (nI_add _ _) (by omega) rfl ?_
                      refine gw_goto C 171 dX11_far_203 (by decide) ?_
                      refine gw_lv (lv2 := [(4, iN (p + 1)), (3, iN ((mo_f2m v3 p) ||| (0))), (2, iN (r)), (0, .ref (o)), (1, iN (2))]) [0, 1, 2, 3, 4] rfl ?_
                      have q := ihp (p + 1) (by omega)
                      rw [mo_f2m, if_neg (by omega)] at q
                      exact q
                    ·
                      refine gw_iconst C 1 dX11_far_190 (by decide) ?_
                      refine gw_iload C 0 dX11_far_191 rfl ?_
                      refine gw_ishl C dX11_far_193 (by omega) (by exact gw_p2 (by omega)) ?_
                      refine gw_goto C 198 dX11_far_194 (by decide) ?_
                      refine gw_ior C dX11_far_198 ?_
                      refine gw_istore_n C (lv2 := [(3, iN ((mo_f2m v3 p) ||| ((1) * 2 ^ (p)))), (4, iN (p)), (2, iN (r)), (0, .ref (o)), (1, iN (2))]) dX11_far_199 rfl (by omega) rfl ?_
                      refine gw_iinc C (v := nI (p + 1)) (lv2 := [(4, iN (p + 1)), (3, iN ((mo_f2m v3 p) ||| ((1) * 2 ^ (p)))), (2, iN (r)), (0, .ref (o)), (1, iN (2))]) 1 dX11_far_200 rfl (nI_add _ _) (by omega) rfl ?_
                      refine gw_goto C 171 dX11_far_203 (by decide) ?_
                      refine gw_lv (lv2 := [(4, iN (p + 1)), (3, iN ((mo_f2m v3 p) ||| ((1) * 2 ^ (p)))), (2, iN (r)), (0, .ref (o)), (1, iN (2))]) [0, 1, 2, 3, 4] rfl ?_
                      have q := ihp (p + 1) (by omega)
                      rw [mo_f2m, if_pos (by omega)] at q
                      exact q
              refine gw_lv (lv2 := [(4, iN (0)), (3, iN (0)), (2, iN (r)), (0, .ref (o)), (1, iN (2))]) [0, 1, 2, 3, 4] rfl ?_
              exact lp2 (8 - 0) 0 (by omega)
          ·
            exact absurd h73 (by omega)
        | succ ni ihi =>
          intro i hii
          refine gw_iload_n C 0 dX11_far_130 rfl rfl ?_
          refine gw_bipush C 8 dX11_far_131 (by decide) ?_
          refine gw_icmp_ge C 154 dX11_far_133 (by decide) (by omega) (by omega) (fun h78 => ?_) (fun h78 => ?_)
          ·
            exact absurd h78 (by omega)
          ·
            refine gw_aload_n C 1 dX11_far_136 rfl rfl ?_
            refine gw_get C 0 36 in_X11_far dX11_far_137 lk_X11_far_112 rfl rfl (by decide) rfl rfl ?_
            refine gw_iload_n C 0 dX11_far_140 rfl rfl ?_
            refine gw_aload_n C 1 dX11_far_141 rfl rfl ?_
            refine gw_get C 0 4 in_X11_far dX11_far_142 lk_X11_far_22 rfl rfl (by decide) rfl rfl ?_
            refine gw_iload_n C 0 dX11_far_145 rfl rfl ?_
            refine gw_ild C (v := nI ((mo_rc i N) 4 (i))) 5 0 dX11_far_146 rfl rfl (by decide) (by omega) (by first | rfl | simp [mo_up]) ?_
            refine gw_ist C 33 0 dX11_far_147 rfl rfl (by decide) (by omega) mo_st36 ?_
            refine gw_iinc C (v := nI (i + 1)) (lv2 := [(2, iN (i + 1)), (0, .ref (o)), (1, iN (2))]) 0 dX11_far_148 rfl (nI_add _ _) (by omega) rfl ?_
            refine gw_goto C 130 dX11_far_151 (by decide) ?_
            refine gw_lv (lv2 := [(2, iN (i + 1)), (0, .ref (o)), (1, iN (2))]) [0, 1, 2] rfl ?_
            exact gw_ws (congrArg (mo_ws o ad cI cB cS) (by rfl)) (ihi (i + 1) (by omega))
      refine gw_lv (lv2 := [(2, iN (0)), (0, .ref (o)), (1, iN (2))]) [0, 1, 2] rfl ?_
      exact lp (8 - 0) 0 (by omega)
    ·
      exact absurd h72 (by omega)
  ·
    exact absurd h71 (by omega)
theorem lk_X11_far_70 : Cond.fieldLink RX11 70 "StageCubeModel" "near4" "[B" ∈ wsX11_far := by decide +kernel
theorem lk_X11_far_93 : Cond.fieldLink RX11 93 "StageCubeModel" "squareOf" "[S" ∈ wsX11_far := by decide +kernel
set_option maxHeartbeats 4000000 in
set_option maxRecDepth 100000 in
theorem c_far3 (l : Launch) (D : va_G) (cI cB cS cJ cF cG : ClassId) (zz : (Nat → Prop) → State → Heap → Prop) (hz : gw_zT zz) (o : Nat) (ad : Nat → Nat) (N : Nat → Nat → Nat) (h4 : ∀ j, j < 8 → N 4 j < 8) (h6 : ∀ sl p, sl < 3 → p < 4 → 4 * sl ≤ N 6 (4 * sl + p) ∧ N 6 (4 * sl + p) < 4 * sl + 4) (h30 : N 30 (mo_rk (mo_rc 8 N 36) 8 8) < 96) : gw_CI l yX11_far wsX11_far 1 25 0 0 D (mo_ty cI cB cS cJ cF cG) zz (mo_ws o ad cI cB cS N) [.ref o, iN 3] (fun r N' => r = nI (mo_far3 N) ∧ N' = (mo_far3W N).1) (fun N' => mo_ws o ad cI cB cS N') := by
  refine gw_CI.of (cc := cX11_far) (maxL := 6) (rt := .int) hz (by decide) rfl (Nat.le_of_ble_eq_true rfl) ?_
  intro K C hkl hkn hkR hkD hmn ret
  have C : gw_x K cX11_far RX11 wsX11_far (mo_ty cI cB cS cJ cF cG) zz := C
  subst hkl hkD
  refine gw_iload_n C 1 dX11_far_0 rfl rfl ?_
  refine gw_if_ne C 38 dX11_far_1 (by decide) (by omega) (fun h79 => ?_) (fun h79 => ?_)
  ·
    refine gw_iload_n C 1 dX11_far_38 rfl rfl ?_
    refine gw_iconst C 1 dX11_far_39 (by decide) ?_
    refine gw_icmp_ne C 128 dX11_far_40 (by decide) (by omega) (by omega) (fun h80 => ?_) (fun h80 => ?_)
    ·
      refine gw_iconst C 0 dX11_far_128 (by decide) ?_
      refine gw_istore_n C (lv2 := [(2, iN (0)), (0, .ref (o)), (1, iN (3))]) dX11_far_129 rfl (by omega) rfl ?_
      have lp : ∀ ni i : Nat, i + ni = 8 → gw_G K (mo_ws o ad cI cB cS (mo_rc i N)) 0 0 130 [(2, iN (i)), (0, .ref (o)), (1, iN (3))] [] := by
        intro ni
        induction ni with
        | zero =>
          intro i hii
          refine gw_iload_n C 0 dX11_far_130 rfl rfl ?_
          refine gw_bipush C 8 dX11_far_131 (by decide) ?_
          refine gw_icmp_ge C 154 dX11_far_133 (by decide) (by omega) (by omega) (fun h81 => ?_) (fun h81 => ?_)
          ·
            rw [show i = 8 by omega]
            have kb : ∀ j, j < 8 → mo_rc 8 N 36 j < 100 := fun j hj => by rw [mo_rc_v _ _ _ hj]; have := h4 j hj; omega
            have kr := mo_rk_lt8 (mo_rc 8 N 36)
            have kall : ∀ k, k ≠ 36 → mo_rc 8 N k = N k := fun k hk => mo_rc_k hk N 8
            obtain ⟨B, eB⟩ : ∃ B, B = mo_rc 8 N := ⟨_, rfl⟩
            rw [← eB] at kb kr kall h30
            rw [← eB]
            refine gw_aload_n C 1 dX11_far_154 rfl rfl ?_
            refine gw_bipush C 8 dX11_far_155 (by decide) ?_
            refine gw_allVI (n := 1) C (c_rank (kl K) (kD K) cI cB cS cJ cF cG zz hz o ad (B) 8 (by omega) (kb)) 0 rfl rfl rfl gX11_far_X11_rank rfl (by decide +kernel) dX11_far_157 (by rw [hkR]; decide) (by rw [hkR]; decide) rfl (Nat.le_of_ble_eq_true rfl) rfl (fun rv3 v3 hv3 => ?_)
            obtain ⟨rfl, rfl⟩ := hv3
            obtain ⟨r, er⟩ : ∃ r, r = mo_rk (v3 36) 8 8 := ⟨_, rfl⟩
            rw [← er] at kr h30
            rw [← er]
            refine gw_istore_n C (lv2 := [(2, iN (r)), (0, .ref (o)), (1, iN (3))]) dX11_far_160 rfl (by omega) rfl ?_
            refine gw_iload_n C 2 dX11_far_161 rfl rfl ?_
            refine gw_iconst C 2 dX11_far_162 (by decide) ?_
            refine gw_icmp_ne C 228 dX11_far_163 (by decide) (by omega) (by omega) (fun h82 => ?_) (fun h82 => ?_)
            ·
              have e6 : v3 6 = N 6 := kall 6 (by decide)
              have e30 : v3 30 = N 30 := kall 30 (by decide)
              rw [← e30] at h30
              refine gw_aload_n C 1 dX11_far_228 rfl rfl ?_
              refine gw_get C 0 30 in_X11_far dX11_far_229 lk_X11_far_93 rfl rfl (by decide) rfl rfl ?_
              refine gw_iload_n C 0 dX11_far_232 rfl rfl ?_
              refine gw_sld C (v := nI (v3 30 (r))) 27 2 dX11_far_233 rfl rfl (by decide) (by omega) (by first | rfl | simp [mo_up]) ?_
              refine gw_istore_n C (lv2 := [(3, iN (v3 30 (r))), (2, iN (r)), (0, .ref (o)), (1, iN (3))]) dX11_far_234 rfl (by omega) rfl ?_
              refine gw_iconst C 0 dX11_far_235 (by decide) ?_
              refine gw_istore C (lv2 := [(4, iN (0)), (3, iN (v3 30 (r))), (2, iN (r)), (0, .ref (o)), (1, iN (3))]) dX11_far_236 (by omega) rfl ?_
              refine gw_ws (ws2 := mo_ws o ad cI cB cS (mo_f3 v3 (v3 30 r) 0).1) rfl ?_
              refine gw_lv (lv2 := [(4, iN 0), (3, iN (mo_f3 v3 (v3 30 r) 0).2), (0, .ref o), (1, iN 3)]) [0, 1, 3, 4] rfl ?_
              have lim : ∀ sl, sl ≤ 3 → (mo_f3 v3 (v3 30 r) sl).2 < 96 * 24 ^ sl := by
                intro sl
                induction sl with
                | zero => intro _; exact h30
                | succ sl ih =>
                  intro hs
                  have a1 := ih (by omega)
                  have a2 := mo_rk_lt4 (mo_fr sl 4 (mo_f3 v3 (v3 30 r) sl).1 36)
                  rw [mo_f3, Nat.pow_succ]
                  dsimp only
                  omega
              have lp3 : ∀ nsl sl : Nat, sl + nsl = 3 → gw_G K (mo_ws o ad cI cB cS ((mo_f3 v3 (v3 30 r) sl).1)) 0 0 238 [(4, iN (sl)), (3, iN ((mo_f3 v3 (v3 30 r) sl).2)), (0, .ref (o)), (1, iN (3))] [] := by
                intro nsl
                induction nsl with
                | zero =>
                  intro sl hisl
                  refine gw_iload C 0 dX11_far_238 rfl ?_
                  refine gw_iconst C 3 dX11_far_240 (by decide) ?_
                  refine gw_icmp_ge C 300 dX11_far_241 (by decide) (by omega) (by omega) (fun h83 => ?_) (fun h83 => ?_)
                  ·
                    rw [show sl = 3 by omega]
                    have ls := lim 3 (Nat.le_refl _)
                    have e23 : (mo_f3 v3 (v3 30 r) 3).1 23 = N 23 := by rw [mo_f3_k (by decide)]; exact kall 23 (by decide)
                    have eW : mo_far3W N = mo_f3 v3 (v3 30 r) 3 := by rw [mo_far3W, ← eB, ← er, e30]
                    rw [← eW] at ls e23
                    rw [← eW]
                    refine gw_aload_n C 2 dX11_far_300 rfl rfl ?_
                    refine gw_get C 0 23 in_X11_far dX11_far_301 lk_X11_far_70 rfl rfl (by decide) rfl rfl ?_
                    refine gw_iload_n C 1 dX11_far_304 rfl rfl ?_
                    refine gw_bld C (v := nI (((mo_far3W N).1) 23 ((mo_far3W N).2))) 20 1 dX11_far_305 rfl rfl (by decide) (by omega) (by first | rfl | simp [mo_up]) ?_
                    exact ret _ dX11_far_306 rfl ⟨by rw [mo_far3, e23], rfl⟩ rfl (Nat.le_refl 0) (Nat.le_refl 0)
                  ·
                    exact absurd h83 (by omega)
                | succ nsl ihsl =>
                  intro sl hisl
                  refine gw_iload C 0 dX11_far_238 rfl ?_
                  refine gw_iconst C 3 dX11_far_240 (by decide) ?_
                  refine gw_icmp_ge C 300 dX11_far_241 (by decide) (by omega) (by omega) (fun h84 => ?_) (fun h84 => ?_)
                  ·
                    exact absurd h84 (by omega)
                  ·
                    have s6 : (mo_f3 v3 (v3 30 r) sl).1 6 = N 6 := by rw [mo_f3_k (by decide)]; exact e6
                    have ls := lim sl (by omega)
                    obtain ⟨S, eS⟩ : ∃ S, S = mo_f3 v3 (v3 30 r) sl := ⟨_, rfl⟩
                    rw [← eS] at s6 ls
                    rw [← eS]
                    refine gw_iconst C 0 dX11_far_244 (by decide) ?_
                    refine gw_istore C (lv2 := [(5, iN (0)), (4, iN (sl)), (3, iN (S.2)), (0, .ref (o)), (1, iN (3))]) dX11_far_245 (by omega) rfl ?_
                    have lp4 : ∀ nu u : Nat, u + nu = 4 → gw_G K (mo_ws o ad cI cB cS (mo_fr sl u S.1)) 0 0 247 [(5, iN (u)), (4, iN (sl)), (3, iN (S.2)), (0, .ref (o)), (1, iN (3))] [] := by
                      intro nu
                      induction nu with
                      | zero =>
                        intro u hiu
                        refine gw_iload C 0 dX11_far_247 rfl ?_
                        refine gw_iconst C 4 dX11_far_249 (by decide) ?_
                        refine gw_icmp_ge C 283 dX11_far_250 (by decide) (by omega) (by omega) (fun h85 => ?_) (fun h85 => ?_)
                        ·
                          rw [show u = 4 by omega]
                          have kb2 : ∀ j, j < 4 → mo_fr sl 4 S.1 36 j < 100 := fun j hj => by rw [mo_fr_v _ _ _ _ hj, s6]; have := h6 sl j (by omega) hj; omega
                          obtain ⟨Q, eQ⟩ : ∃ Q, Q = mo_fr sl 4 S.1 := ⟨_, rfl⟩
                          rw [← eQ] at kb2
                          rw [← eQ]
                          refine gw_bipush C 24 dX11_far_283 (by decide) ?_
                          refine gw_iload_n C 2 dX11_far_285 rfl rfl ?_
                          refine gw_imul C dX11_far_286 ?_
                          refine gw_aload_n C 3 dX11_far_287 rfl rfl ?_
                          refine gw_iconst C 4 dX11_far_288 (by decide) ?_
                          refine gw_allVI (n := 1) C (c_rank (kl K) (kD K) cI cB cS cJ cF cG zz hz o ad (Q) 4 (by omega) (kb2)) 0 rfl rfl rfl gX11_far_X11_rank rfl (by decide +kernel) dX11_far_289 (by rw [hkR]; decide) (by rw [hkR]; decide) rfl (Nat.le_of_ble_eq_true rfl) rfl (fun rv6 v6 hv6 => ?_)
                          obtain ⟨rfl, rfl⟩ := hv6
                          refine gw_iadd C dX11_far_292 ?_
                          refine gw_istore_n C (lv2 := [(3, iN (((24) * (S.2)) + (mo_rk (v6 36) 4 4))), (5, iN (4)), (4, iN (sl)), (0, .ref (o)), (1, iN (3))]) dX11_far_293 rfl (by omega) rfl ?_
                          refine gw_iinc C (v := nI (sl + 1)) (lv2 := [(4, iN (sl + 1)), (3, iN (((24) * (S.2)) + (mo_rk (v6 36) 4 4))), (5, iN (4)), (0, .ref (o)), (1, iN (3))]) 2 dX11_far_294 rfl (nI_add _ _) (by omega) rfl ?_
                          refine gw_goto C 238 dX11_far_297 (by decide) ?_
                          refine gw_lv (lv2 := [(4, iN (sl + 1)), (3, iN (((24) * (S.2)) + (mo_rk (v6 36) 4 4))), (0, .ref (o)), (1, iN (3))]) [0, 1, 3, 4] rfl ?_
                          have q := ihsl (sl + 1) (by omega)
                          rw [mo_f3, ← eS, ← eQ] at q
                          exact q
                        ·
                          exact absurd h85 (by omega)
                      | succ nu ihu =>
                        intro u hiu
                        refine gw_iload C 0 dX11_far_247 rfl ?_
                        refine gw_iconst C 4 dX11_far_249 (by decide) ?_
                        refine gw_icmp_ge C 283 dX11_far_250 (by decide) (by omega) (by omega) (fun h86 => ?_) (fun h86 => ?_)
                        ·
                          exact absurd h86 (by omega)
                        ·
                          have c := h6 sl u (by omega) (by omega)
                          have q6 : mo_fr sl u S.1 6 = N 6 := by rw [mo_fr_k (by decide)]; exact s6
                          rw [← q6] at c
                          refine gw_aload_n C 3 dX11_far_253 rfl rfl ?_
                          refine gw_get C 0 36 in_X11_far dX11_far_254 lk_X11_far_112 rfl rfl (by decide) rfl rfl ?_
                          refine gw_iload C 0 dX11_far_257 rfl ?_
                          refine gw_aload_n C 3 dX11_far_259 rfl rfl ?_
                          refine gw_get C 0 6 in_X11_far dX11_far_260 lk_X11_far_28 rfl rfl (by decide) rfl rfl ?_
                          refine gw_iconst C 4 dX11_far_263 (by decide) ?_
                          refine gw_iload C 1 dX11_far_264 rfl ?_
                          refine gw_imul C dX11_far_266 ?_
                          refine gw_iload C 0 dX11_far_267 rfl ?_
                          refine gw_iadd C dX11_far_269 ?_
                          refine gw_ild C (v := nI ((mo_fr sl u S.1) 6 (((4) * (sl)) + (u)))) 7 0 dX11_far_270 rfl rfl (by decide) (by omega) (by first | rfl | simp [mo_up]) ?_
                          refine gw_iconst C 4 dX11_far_271 (by decide) ?_
                          refine gw_iload C 1 dX11_far_272 rfl ?_
                          refine gw_imul C dX11_far_274 ?_
                          refine gw_isub C dX11_far_275 (by omega) ?_
                          refine gw_ist C 33 0 dX11_far_276 rfl rfl (by decide) (by omega) mo_st36 ?_
                          refine gw_iinc C (v := nI (u + 1)) (lv2 := [(5, iN (u + 1)), (4, iN (sl)), (3, iN (S.2)), (0, .ref (o)), (1, iN (3))]) 0 dX11_far_277 rfl (nI_add _ _) (by omega) rfl ?_
                          refine gw_goto C 247 dX11_far_280 (by decide) ?_
                          refine gw_lv (lv2 := [(5, iN (u + 1)), (4, iN (sl)), (3, iN (S.2)), (0, .ref (o)), (1, iN (3))]) [0, 1, 2, 3, 4] rfl ?_
                          exact gw_ws (congrArg (mo_ws o ad cI cB cS) (by rfl)) (ihu (u + 1) (by omega))
                    refine gw_lv (lv2 := [(5, iN (0)), (4, iN (sl)), (3, iN (S.2)), (0, .ref (o)), (1, iN (3))]) [0, 1, 2, 3, 4] rfl ?_
                    exact lp4 (4 - 0) 0 (by omega)
              refine gw_lv (lv2 := [(4, iN (0)), (3, iN ((mo_f3 v3 (v3 30 r) 0).2)), (0, .ref (o)), (1, iN (3))]) [0, 1, 2, 3] rfl ?_
              exact lp3 (3 - 0) 0 (by omega)
            ·
              exact absurd h82 (by omega)
          ·
            exact absurd h81 (by omega)
        | succ ni ihi =>
          intro i hii
          refine gw_iload_n C 0 dX11_far_130 rfl rfl ?_
          refine gw_bipush C 8 dX11_far_131 (by decide) ?_
          refine gw_icmp_ge C 154 dX11_far_133 (by decide) (by omega) (by omega) (fun h87 => ?_) (fun h87 => ?_)
          ·
            exact absurd h87 (by omega)
          ·
            refine gw_aload_n C 1 dX11_far_136 rfl rfl ?_
            refine gw_get C 0 36 in_X11_far dX11_far_137 lk_X11_far_112 rfl rfl (by decide) rfl rfl ?_
            refine gw_iload_n C 0 dX11_far_140 rfl rfl ?_
            refine gw_aload_n C 1 dX11_far_141 rfl rfl ?_
            refine gw_get C 0 4 in_X11_far dX11_far_142 lk_X11_far_22 rfl rfl (by decide) rfl rfl ?_
            refine gw_iload_n C 0 dX11_far_145 rfl rfl ?_
            refine gw_ild C (v := nI ((mo_rc i N) 4 (i))) 5 0 dX11_far_146 rfl rfl (by decide) (by omega) (by first | rfl | simp [mo_up]) ?_
            refine gw_ist C 33 0 dX11_far_147 rfl rfl (by decide) (by omega) mo_st36 ?_
            refine gw_iinc C (v := nI (i + 1)) (lv2 := [(2, iN (i + 1)), (0, .ref (o)), (1, iN (3))]) 0 dX11_far_148 rfl (nI_add _ _) (by omega) rfl ?_
            refine gw_goto C 130 dX11_far_151 (by decide) ?_
            refine gw_lv (lv2 := [(2, iN (i + 1)), (0, .ref (o)), (1, iN (3))]) [0, 1, 2] rfl ?_
            exact gw_ws (congrArg (mo_ws o ad cI cB cS) (by rfl)) (ihi (i + 1) (by omega))
      refine gw_lv (lv2 := [(2, iN (0)), (0, .ref (o)), (1, iN (3))]) [0, 1, 2] rfl ?_
      exact lp (8 - 0) 0 (by omega)
    ·
      exact absurd h80 (by omega)
  ·
    exact absurd h79 (by omega)
