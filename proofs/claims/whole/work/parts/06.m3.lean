/-- corner, edge: what is written, and the answer -/
def mo_put (P M n k a b c : Nat) (N : Nat → Nat → Nat) : Nat → Nat → Nat := if a < n ∧ b < n ∧ c < k then mo_up (mo_up N P a b) M a c else N
def mo_putR (n k a b c : Nat) : Nat := if a < n ∧ b < n ∧ c < k then 1 else 4294967295
theorem in_X11_corner : ∀ w ∈ wsX110, w ∈ wsX11_corner := fun _ h => List.mem_cons_of_mem _ (List.mem_append_right _ h)
theorem lk_X11_corner_7 : Cond.fieldLink RX11 7 "StageCubeModel" "corners" "[I" ∈ wsX11_corner := by decide +kernel
theorem lk_X11_corner_13 : Cond.fieldLink RX11 13 "StageCubeModel" "twists" "[I" ∈ wsX11_corner := by decide +kernel
set_option maxHeartbeats 4000000 in
set_option maxRecDepth 100000 in
theorem c_corner (l : Launch) (D : va_G) (cI cB cS cJ cF cG : ClassId) (zz : (Nat → Prop) → State → Heap → Prop) (hz : gw_zT zz) (o : Nat) (ad : Nat → Nat) (N : Nat → Nat → Nat) (a b c : Nat) (ha : a < 2 ^ 32) (hb : b < 2 ^ 32) (hc : c < 2 ^ 32) : gw_CI l yX11_corner wsX11_corner 0 0 0 0 D (mo_ty cI cB cS cJ cF cG) zz (mo_ws o ad cI cB cS N) [.ref o, iN a, iN b, iN c] (fun r N' => r = nI (mo_putR 8 3 a b c) ∧ N' = mo_put 0 1 8 3 a b c N) (fun N' => mo_ws o ad cI cB cS N') := by
  refine gw_CI.of (cc := cX11_corner) (maxL := 4) (rt := .int) hz (by decide) rfl (Nat.le_of_ble_eq_true rfl) ?_
  intro K C hkl hkn hkR hkD hmn ret
  have C : gw_x K cX11_corner RX11 wsX11_corner (mo_ty cI cB cS cJ cF cG) zz := C
  refine gw_iload_n C 1 dX11_corner_0 rfl rfl ?_
  refine gw_if_lt32 C 29 dX11_corner_1 (by decide) (by omega) (fun h1 => ?_) (fun h1 => ?_)
  ·
    refine gw_iconst C 4294967295 dX11_corner_29 (by decide) ?_
    exact ret (N) dX11_corner_30 rfl ⟨by rw [mo_putR, if_neg (by omega)], by rw [mo_put, if_neg (by omega)]⟩ rfl (Nat.le_refl 0) (Nat.le_refl 0)
  ·
    refine gw_iload_n C 1 dX11_corner_4 rfl rfl ?_
    refine gw_bipush C 7 dX11_corner_5 (by decide) ?_
    refine gw_icmp_gt C 29 dX11_corner_7 (by decide) (by omega) (by omega) (fun h2 => ?_) (fun h2 => ?_)
    ·
      refine gw_iconst C 4294967295 dX11_corner_29 (by decide) ?_
      exact ret (N) dX11_corner_30 rfl ⟨by rw [mo_putR, if_neg (by omega)], by rw [mo_put, if_neg (by omega)]⟩ rfl (Nat.le_refl 0) (Nat.le_refl 0)
    ·
      refine gw_iload_n C 2 dX11_corner_10 rfl rfl ?_
      refine gw_if_lt32 C 29 dX11_corner_11 (by decide) (by omega) (fun h3 => ?_) (fun h3 => ?_)
      ·
        refine gw_iconst C 4294967295 dX11_corner_29 (by decide) ?_
        exact ret (N) dX11_corner_30 rfl ⟨by rw [mo_putR, if_neg (by omega)], by rw [mo_put, if_neg (by omega)]⟩ rfl (Nat.le_refl 0) (Nat.le_refl 0)
      ·
        refine gw_iload_n C 2 dX11_corner_14 rfl rfl ?_
        refine gw_bipush C 7 dX11_corner_15 (by decide) ?_
        refine gw_icmp_gt C 29 dX11_corner_17 (by decide) (by omega) (by omega) (fun h4 => ?_) (fun h4 => ?_)
        ·
          refine gw_iconst C 4294967295 dX11_corner_29 (by decide) ?_
          exact ret (N) dX11_corner_30 rfl ⟨by rw [mo_putR, if_neg (by omega)], by rw [mo_put, if_neg (by omega)]⟩ rfl (Nat.le_refl 0) (Nat.le_refl 0)
        ·
          refine gw_iload_n C 3 dX11_corner_20 rfl rfl ?_
          refine gw_if_lt32 C 29 dX11_corner_21 (by decide) (by omega) (fun h5 => ?_) (fun h5 => ?_)
          ·
            refine gw_iconst C 4294967295 dX11_corner_29 (by decide) ?_
            exact ret (N) dX11_corner_30 rfl ⟨by rw [mo_putR, if_neg (by omega)], by rw [mo_put, if_neg (by omega)]⟩ rfl (Nat.le_refl 0) (Nat.le_refl 0)
          ·
            refine gw_iload_n C 3 dX11_corner_24 rfl rfl ?_
            refine gw_iconst C 2 dX11_corner_25 (by decide) ?_
            refine gw_icmp_le C 31 dX11_corner_26 (by decide) (by omega) (by omega) (fun h6 => ?_) (fun h6 => ?_)
            ·
              refine gw_aload_n C 0 dX11_corner_31 rfl rfl ?_
              refine gw_get C 0 0 in_X11_corner dX11_corner_32 lk_X11_corner_7 rfl rfl (by decide) rfl rfl ?_
              refine gw_iload_n C 1 dX11_corner_35 rfl rfl ?_
              refine gw_iload_n C 2 dX11_corner_36 rfl rfl ?_
              refine gw_ist C 1 0 dX11_corner_37 rfl rfl (by decide) (by omega) mo_st0 ?_
              refine gw_aload_n C 0 dX11_corner_38 rfl rfl ?_
              refine gw_get C 0 1 in_X11_corner dX11_corner_39 lk_X11_corner_13 rfl rfl (by decide) rfl rfl ?_
              refine gw_iload_n C 1 dX11_corner_42 rfl rfl ?_
              refine gw_iload_n C 3 dX11_corner_43 rfl rfl ?_
              refine gw_ist C 2 0 dX11_corner_44 rfl rfl (by decide) (by omega) mo_st1 ?_
              refine gw_iconst C 1 dX11_corner_45 (by decide) ?_
              exact ret (mo_up (mo_up (N) 0 (a) (b)) 1 (a) (c)) dX11_corner_46 rfl ⟨by rw [mo_putR, if_pos (by omega)], by rw [mo_put, if_pos (by omega)]⟩ rfl (Nat.le_refl 0) (Nat.le_refl 0)
            ·
              refine gw_iconst C 4294967295 dX11_corner_29 (by decide) ?_
              exact ret (N) dX11_corner_30 rfl ⟨by rw [mo_putR, if_neg (by omega)], by rw [mo_put, if_neg (by omega)]⟩ rfl (Nat.le_refl 0) (Nat.le_refl 0)
theorem in_X11_edge : ∀ w ∈ wsX110, w ∈ wsX11_edge := fun _ h => List.mem_cons_of_mem _ (List.mem_append_right _ h)
theorem lk_X11_edge_16 : Cond.fieldLink RX11 16 "StageCubeModel" "edges" "[I" ∈ wsX11_edge := by decide +kernel
theorem lk_X11_edge_19 : Cond.fieldLink RX11 19 "StageCubeModel" "flips" "[I" ∈ wsX11_edge := by decide +kernel
set_option maxHeartbeats 4000000 in
set_option maxRecDepth 100000 in
theorem c_edge (l : Launch) (D : va_G) (cI cB cS cJ cF cG : ClassId) (zz : (Nat → Prop) → State → Heap → Prop) (hz : gw_zT zz) (o : Nat) (ad : Nat → Nat) (N : Nat → Nat → Nat) (a b c : Nat) (ha : a < 2 ^ 32) (hb : b < 2 ^ 32) (hc : c < 2 ^ 32) : gw_CI l yX11_edge wsX11_edge 0 0 0 0 D (mo_ty cI cB cS cJ cF cG) zz (mo_ws o ad cI cB cS N) [.ref o, iN a, iN b, iN c] (fun r N' => r = nI (mo_putR 12 2 a b c) ∧ N' = mo_put 2 3 12 2 a b c N) (fun N' => mo_ws o ad cI cB cS N') := by
  refine gw_CI.of (cc := cX11_edge) (maxL := 4) (rt := .int) hz (by decide) rfl (Nat.le_of_ble_eq_true rfl) ?_
  intro K C hkl hkn hkR hkD hmn ret
  have C : gw_x K cX11_edge RX11 wsX11_edge (mo_ty cI cB cS cJ cF cG) zz := C
  refine gw_iload_n C 1 dX11_edge_0 rfl rfl ?_
  refine gw_if_lt32 C 29 dX11_edge_1 (by decide) (by omega) (fun h7 => ?_) (fun h7 => ?_)
  ·
    refine gw_iconst C 4294967295 dX11_edge_29 (by decide) ?_
    exact ret (N) dX11_edge_30 rfl ⟨by rw [mo_putR, if_neg (by omega)], by rw [mo_put, if_neg (by omega)]⟩ rfl (Nat.le_refl 0) (Nat.le_refl 0)
  ·
    refine gw_iload_n C 1 dX11_edge_4 rfl rfl ?_
    refine gw_bipush C 11 dX11_edge_5 (by decide) ?_
    refine gw_icmp_gt C 29 dX11_edge_7 (by decide) (by omega) (by omega) (fun h8 => ?_) (fun h8 => ?_)
    ·
      refine gw_iconst C 4294967295 dX11_edge_29 (by decide) ?_
      exact ret (N) dX11_edge_30 rfl ⟨by rw [mo_putR, if_neg (by omega)], by rw [mo_put, if_neg (by omega)]⟩ rfl (Nat.le_refl 0) (Nat.le_refl 0)
    ·
      refine gw_iload_n C 2 dX11_edge_10 rfl rfl ?_
      refine gw_if_lt32 C 29 dX11_edge_11 (by decide) (by omega) (fun h9 => ?_) (fun h9 => ?_)
      ·
        refine gw_iconst C 4294967295 dX11_edge_29 (by decide) ?_
        exact ret (N) dX11_edge_30 rfl ⟨by rw [mo_putR, if_neg (by omega)], by rw [mo_put, if_neg (by omega)]⟩ rfl (Nat.le_refl 0) (Nat.le_refl 0)
      ·
        refine gw_iload_n C 2 dX11_edge_14 rfl rfl ?_
        refine gw_bipush C 11 dX11_edge_15 (by decide) ?_
        refine gw_icmp_gt C 29 dX11_edge_17 (by decide) (by omega) (by omega) (fun h10 => ?_) (fun h10 => ?_)
        ·
          refine gw_iconst C 4294967295 dX11_edge_29 (by decide) ?_
          exact ret (N) dX11_edge_30 rfl ⟨by rw [mo_putR, if_neg (by omega)], by rw [mo_put, if_neg (by omega)]⟩ rfl (Nat.le_refl 0) (Nat.le_refl 0)
        ·
          refine gw_iload_n C 3 dX11_edge_20 rfl rfl ?_
          refine gw_if_lt32 C 29 dX11_edge_21 (by decide) (by omega) (fun h11 => ?_) (fun h11 => ?_)
          ·
            refine gw_iconst C 4294967295 dX11_edge_29 (by decide) ?_
            exact ret (N) dX11_edge_30 rfl ⟨by rw [mo_putR, if_neg (by omega)], by rw [mo_put, if_neg (by omega)]⟩ rfl (Nat.le_refl 0) (Nat.le_refl 0)
          ·
            refine gw_iload_n C 3 dX11_edge_24 rfl rfl ?_
            refine gw_iconst C 1 dX11_edge_25 (by decide) ?_
            refine gw_icmp_le C 31 dX11_edge_26 (by decide) (by omega) (by omega) (fun h12 => ?_) (fun h12 => ?_)
            ·
              refine gw_aload_n C 0 dX11_edge_31 rfl rfl ?_
              refine gw_get C 0 2 in_X11_edge dX11_edge_32 lk_X11_edge_16 rfl rfl (by decide) rfl rfl ?_
              refine gw_iload_n C 1 dX11_edge_35 rfl rfl ?_
              refine gw_iload_n C 2 dX11_edge_36 rfl rfl ?_
              refine gw_ist C 3 0 dX11_edge_37 rfl rfl (by decide) (by omega) mo_st2 ?_
              refine gw_aload_n C 0 dX11_edge_38 rfl rfl ?_
              refine gw_get C 0 3 in_X11_edge dX11_edge_39 lk_X11_edge_19 rfl rfl (by decide) rfl rfl ?_
              refine gw_iload_n C 1 dX11_edge_42 rfl rfl ?_
              refine gw_iload_n C 3 dX11_edge_43 rfl rfl ?_
              refine gw_ist C 4 0 dX11_edge_44 rfl rfl (by decide) (by omega) mo_st3 ?_
              refine gw_iconst C 1 dX11_edge_45 (by decide) ?_
              exact ret (mo_up (mo_up (N) 2 (a) (b)) 3 (a) (c)) dX11_edge_46 rfl ⟨by rw [mo_putR, if_pos (by omega)], by rw [mo_put, if_pos (by omega)]⟩ rfl (Nat.le_refl 0) (Nat.le_refl 0)
            ·
              refine gw_iconst C 4294967295 dX11_edge_29 (by decide) ?_
              exact ret (N) dX11_edge_30 rfl ⟨by rw [mo_putR, if_neg (by omega)], by rw [mo_put, if_neg (by omega)]⟩ rfl (Nat.le_refl 0) (Nat.le_refl 0)
def mo_atR (a b : Nat) (N : Nat → Nat → Nat) : Nat := if a = 0 ∧ b < 8 then 3 * N 0 b + N 1 b else if a = 1 ∧ b < 12 then 2 * N 2 b + N 3 b else 4294967295
theorem in_X11_at : ∀ w ∈ wsX110, w ∈ wsX11_at := fun _ h => List.mem_cons_of_mem _ (List.mem_append_right _ h)
theorem lk_X11_at_7 : Cond.fieldLink RX11 7 "StageCubeModel" "corners" "[I" ∈ wsX11_at := by decide +kernel
theorem lk_X11_at_13 : Cond.fieldLink RX11 13 "StageCubeModel" "twists" "[I" ∈ wsX11_at := by decide +kernel
theorem lk_X11_at_16 : Cond.fieldLink RX11 16 "StageCubeModel" "edges" "[I" ∈ wsX11_at := by decide +kernel
theorem lk_X11_at_19 : Cond.fieldLink RX11 19 "StageCubeModel" "flips" "[I" ∈ wsX11_at := by decide +kernel
set_option maxHeartbeats 4000000 in
set_option maxRecDepth 100000 in
theorem c_at (l : Launch) (D : va_G) (cI cB cS cJ cF cG : ClassId) (zz : (Nat → Prop) → State → Heap → Prop) (hz : gw_zT zz) (o : Nat) (ad : Nat → Nat) (N : Nat → Nat → Nat) (a b : Nat) (ha : a < 2 ^ 32) (hb : b < 2 ^ 32) : gw_CI l yX11_at wsX11_at 0 0 0 0 D (mo_ty cI cB cS cJ cF cG) zz (mo_ws o ad cI cB cS N) [.ref o, iN a, iN b] (fun r N' => r = nI (mo_atR a b N) ∧ N' = N) (fun N' => mo_ws o ad cI cB cS N') := by
  refine gw_CI.of (cc := cX11_at) (maxL := 3) (rt := .int) hz (by decide) rfl (Nat.le_of_ble_eq_true rfl) ?_
  intro K C hkl hkn hkR hkD hmn ret
  have C : gw_x K cX11_at RX11 wsX11_at (mo_ty cI cB cS cJ cF cG) zz := C
  refine gw_iload_n C 1 dX11_at_0 rfl rfl ?_
  refine gw_if_ne32 C 30 dX11_at_1 (by decide) (by omega) (fun h13 => ?_) (fun h13 => ?_)
  ·
    refine gw_iload_n C 1 dX11_at_30 rfl rfl ?_
    refine gw_iconst C 1 dX11_at_31 (by decide) ?_
    refine gw_icmp_ne32 C 63 dX11_at_32 (by decide) (by omega) (by omega) (fun h14 => ?_) (fun h14 => ?_)
    ·
      refine gw_iconst C 4294967295 dX11_at_63 (by decide) ?_
      exact ret N dX11_at_64 rfl ⟨by rw [mo_atR, if_neg (by omega), if_neg (by omega)], rfl⟩ rfl (Nat.le_refl 0) (Nat.le_refl 0)
    ·
      refine gw_iload_n C 2 dX11_at_35 rfl rfl ?_
      refine gw_if_lt32 C 63 dX11_at_36 (by decide) (by omega) (fun h15 => ?_) (fun h15 => ?_)
      ·
        refine gw_iconst C 4294967295 dX11_at_63 (by decide) ?_
        exact ret N dX11_at_64 rfl ⟨by rw [mo_atR, if_neg (by omega), if_neg (by omega)], rfl⟩ rfl (Nat.le_refl 0) (Nat.le_refl 0)
      ·
        refine gw_iload_n C 2 dX11_at_39 rfl rfl ?_
        refine gw_bipush C 12 dX11_at_40 (by decide) ?_
        refine gw_icmp_ge C 63 dX11_at_42 (by decide) (by omega) (by omega) (fun h16 => ?_) (fun h16 => ?_)
        ·
          refine gw_iconst C 4294967295 dX11_at_63 (by decide) ?_
          exact ret N dX11_at_64 rfl ⟨by rw [mo_atR, if_neg (by omega), if_neg (by omega)], rfl⟩ rfl (Nat.le_refl 0) (Nat.le_refl 0)
        ·
          refine gw_iconst C 2 dX11_at_45 (by decide) ?_
          refine gw_aload_n C 0 dX11_at_46 rfl rfl ?_
          refine gw_get C 0 2 in_X11_at dX11_at_47 lk_X11_at_16 rfl rfl (by decide) rfl rfl ?_
          refine gw_iload_n C 2 dX11_at_50 rfl rfl ?_
          refine gw_ild C (v := nI (N 2 (b))) 3 0 dX11_at_51 rfl rfl (by decide) (by omega) (by first | rfl | simp [mo_up]) ?_
          refine gw_imul C dX11_at_52 ?_
          refine gw_aload_n C 0 dX11_at_53 rfl rfl ?_
          refine gw_get C 0 3 in_X11_at dX11_at_54 lk_X11_at_19 rfl rfl (by decide) rfl rfl ?_
          refine gw_iload_n C 2 dX11_at_57 rfl rfl ?_
          refine gw_ild C (v := nI (N 3 (b))) 4 0 dX11_at_58 rfl rfl (by decide) (by omega) (by first | rfl | simp [mo_up]) ?_
          refine gw_iadd C dX11_at_59 ?_
          refine gw_goto C 64 dX11_at_60 (by decide) ?_
          exact ret N dX11_at_64 rfl ⟨by rw [mo_atR, if_neg (by omega), if_pos (by omega)], rfl⟩ rfl (Nat.le_refl 0) (Nat.le_refl 0)
  ·
    refine gw_iload_n C 2 dX11_at_4 rfl rfl ?_
    refine gw_if_lt32 C 30 dX11_at_5 (by decide) (by omega) (fun h17 => ?_) (fun h17 => ?_)
    ·
      refine gw_iload_n C 1 dX11_at_30 rfl rfl ?_
      refine gw_iconst C 1 dX11_at_31 (by decide) ?_
      refine gw_icmp_ne32 C 63 dX11_at_32 (by decide) (by omega) (by omega) (fun h18 => ?_) (fun h18 => ?_)
      ·
        refine gw_iconst C 4294967295 dX11_at_63 (by decide) ?_
        exact ret N dX11_at_64 rfl ⟨by rw [mo_atR, if_neg (by omega), if_neg (by omega)], rfl⟩ rfl (Nat.le_refl 0) (Nat.le_refl 0)
      ·
        refine gw_iload_n C 2 dX11_at_35 rfl rfl ?_
        refine gw_if_lt32 C 63 dX11_at_36 (by decide) (by omega) (fun h19 => ?_) (fun h19 => ?_)
        ·
          refine gw_iconst C 4294967295 dX11_at_63 (by decide) ?_
          exact ret N dX11_at_64 rfl ⟨by rw [mo_atR, if_neg (by omega), if_neg (by omega)], rfl⟩ rfl (Nat.le_refl 0) (Nat.le_refl 0)
        ·
          refine gw_iload_n C 2 dX11_at_39 rfl rfl ?_
          refine gw_bipush C 12 dX11_at_40 (by decide) ?_
          refine gw_icmp_ge C 63 dX11_at_42 (by decide) (by omega) (by omega) (fun h20 => ?_) (fun h20 => ?_)
          ·
            refine gw_iconst C 4294967295 dX11_at_63 (by decide) ?_
            exact ret N dX11_at_64 rfl ⟨by rw [mo_atR, if_neg (by omega), if_neg (by omega)], rfl⟩ rfl (Nat.le_refl 0) (Nat.le_refl 0)
          ·
            refine gw_iconst C 2 dX11_at_45 (by decide) ?_
            refine gw_aload_n C 0 dX11_at_46 rfl rfl ?_
            refine gw_get C 0 2 in_X11_at dX11_at_47 lk_X11_at_16 rfl rfl (by decide) rfl rfl ?_
            refine gw_iload_n C 2 dX11_at_50 rfl rfl ?_
            refine gw_ild C (v := nI (N 2 (b))) 3 0 dX11_at_51 rfl rfl (by decide) (by omega) (by first | rfl | simp [mo_up]) ?_
            refine gw_imul C dX11_at_52 ?_
            refine gw_aload_n C 0 dX11_at_53 rfl rfl ?_
            refine gw_get C 0 3 in_X11_at dX11_at_54 lk_X11_at_19 rfl rfl (by decide) rfl rfl ?_
            refine gw_iload_n C 2 dX11_at_57 rfl rfl ?_
            refine gw_ild C (v := nI (N 3 (b))) 4 0 dX11_at_58 rfl rfl (by decide) (by omega) (by first | rfl | simp [mo_up]) ?_
            refine gw_iadd C dX11_at_59 ?_
            refine gw_goto C 64 dX11_at_60 (by decide) ?_
            exact ret N dX11_at_64 rfl ⟨by rw [mo_atR, if_neg (by omega), if_pos (by omega)], rfl⟩ rfl (Nat.le_refl 0) (Nat.le_refl 0)
    ·
      refine gw_iload_n C 2 dX11_at_8 rfl rfl ?_
      refine gw_bipush C 8 dX11_at_9 (by decide) ?_
      refine gw_icmp_ge C 30 dX11_at_11 (by decide) (by omega) (by omega) (fun h21 => ?_) (fun h21 => ?_)
      ·
        refine gw_iload_n C 1 dX11_at_30 rfl rfl ?_
        refine gw_iconst C 1 dX11_at_31 (by decide) ?_
        refine gw_icmp_ne32 C 63 dX11_at_32 (by decide) (by omega) (by omega) (fun h22 => ?_) (fun h22 => ?_)
        ·
          refine gw_iconst C 4294967295 dX11_at_63 (by decide) ?_
          exact ret N dX11_at_64 rfl ⟨by rw [mo_atR, if_neg (by omega), if_neg (by omega)], rfl⟩ rfl (Nat.le_refl 0) (Nat.le_refl 0)
        ·
          refine gw_iload_n C 2 dX11_at_35 rfl rfl ?_
          refine gw_if_lt C 63 dX11_at_36 (by decide) (by omega) (fun h23 => ?_) (fun h23 => ?_)
          ·
            refine gw_iconst C 4294967295 dX11_at_63 (by decide) ?_
            exact ret N dX11_at_64 rfl ⟨by rw [mo_atR, if_neg (by omega), if_neg (by omega)], rfl⟩ rfl (Nat.le_refl 0) (Nat.le_refl 0)
          ·
            refine gw_iload_n C 2 dX11_at_39 rfl rfl ?_
            refine gw_bipush C 12 dX11_at_40 (by decide) ?_
            refine gw_icmp_ge C 63 dX11_at_42 (by decide) (by omega) (by omega) (fun h24 => ?_) (fun h24 => ?_)
            ·
              refine gw_iconst C 4294967295 dX11_at_63 (by decide) ?_
              exact ret N dX11_at_64 rfl ⟨by rw [mo_atR, if_neg (by omega), if_neg (by omega)], rfl⟩ rfl (Nat.le_refl 0) (Nat.le_refl 0)
            ·
              refine gw_iconst C 2 dX11_at_45 (by decide) ?_
              refine gw_aload_n C 0 dX11_at_46 rfl rfl ?_
              refine gw_get C 0 2 in_X11_at dX11_at_47 lk_X11_at_16 rfl rfl (by decide) rfl rfl ?_
              refine gw_iload_n C 2 dX11_at_50 rfl rfl ?_
              refine gw_ild C (v := nI (N 2 (b))) 3 0 dX11_at_51 rfl rfl (by decide) (by omega) (by first | rfl | simp [mo_up]) ?_
              refine gw_imul C dX11_at_52 ?_
              refine gw_aload_n C 0 dX11_at_53 rfl rfl ?_
              refine gw_get C 0 3 in_X11_at dX11_at_54 lk_X11_at_19 rfl rfl (by decide) rfl rfl ?_
              refine gw_iload_n C 2 dX11_at_57 rfl rfl ?_
              refine gw_ild C (v := nI (N 3 (b))) 4 0 dX11_at_58 rfl rfl (by decide) (by omega) (by first | rfl | simp [mo_up]) ?_
              refine gw_iadd C dX11_at_59 ?_
              refine gw_goto C 64 dX11_at_60 (by decide) ?_
              exact ret N dX11_at_64 rfl ⟨by rw [mo_atR, if_neg (by omega), if_pos (by omega)], rfl⟩ rfl (Nat.le_refl 0) (Nat.le_refl 0)
      ·
        refine gw_iconst C 3 dX11_at_14 (by decide) ?_
        refine gw_aload_n C 0 dX11_at_15 rfl rfl ?_
        refine gw_get C 0 0 in_X11_at dX11_at_16 lk_X11_at_7 rfl rfl (by decide) rfl rfl ?_
        refine gw_iload_n C 2 dX11_at_19 rfl rfl ?_
        refine gw_ild C (v := nI (N 0 (b))) 1 0 dX11_at_20 rfl rfl (by decide) (by omega) (by first | rfl | simp [mo_up]) ?_
        refine gw_imul C dX11_at_21 ?_
        refine gw_aload_n C 0 dX11_at_22 rfl rfl ?_
        refine gw_get C 0 1 in_X11_at dX11_at_23 lk_X11_at_13 rfl rfl (by decide) rfl rfl ?_
        refine gw_iload_n C 2 dX11_at_26 rfl rfl ?_
        refine gw_ild C (v := nI (N 1 (b))) 2 0 dX11_at_27 rfl rfl (by decide) (by omega) (by first | rfl | simp [mo_up]) ?_
        refine gw_iadd C dX11_at_28 ?_
        exact ret N dX11_at_29 rfl ⟨by rw [mo_atR, if_pos (by omega)], rfl⟩ rfl (Nat.le_refl 0) (Nat.le_refl 0)
def mo_stageR (a : Nat) (N : Nat → Nat → Nat) : Nat := if a < 1 ∨ 4 < a then 4294967295 else if N 15 0 = 0 then 0 else N 18 (a - 1)
theorem in_X11_stage : ∀ w ∈ wsX110, w ∈ wsX11_stage := fun _ h => List.mem_cons_of_mem _ (List.mem_append_right _ h)
theorem lk_X11_stage_55 : Cond.fieldLink RX11 55 "StageCubeModel" "lengths" "[I" ∈ wsX11_stage := by decide +kernel
theorem lk_X11_stage_199 : Cond.fieldLink RX11 199 "StageCubeModel" "hasWay" "Z" ∈ wsX11_stage := by decide +kernel
set_option maxHeartbeats 4000000 in
set_option maxRecDepth 100000 in
theorem c_stage (l : Launch) (D : va_G) (cI cB cS cJ cF cG : ClassId) (zz : (Nat → Prop) → State → Heap → Prop) (hz : gw_zT zz) (o : Nat) (ad : Nat → Nat) (N : Nat → Nat → Nat) (a : Nat) (ha : a < 2 ^ 32) (hw : N 15 0 < 2) : gw_CI l yX11_stage wsX11_stage 0 0 0 0 D (mo_ty cI cB cS cJ cF cG) zz (mo_ws o ad cI cB cS N) [.ref o, iN a] (fun r N' => r = nI (mo_stageR a N) ∧ N' = N) (fun N' => mo_ws o ad cI cB cS N') := by
  refine gw_CI.of (cc := cX11_stage) (maxL := 2) (rt := .int) hz (by decide) rfl (Nat.le_of_ble_eq_true rfl) ?_
  intro K C hkl hkn hkR hkD hmn ret
  have C : gw_x K cX11_stage RX11 wsX11_stage (mo_ty cI cB cS cJ cF cG) zz := C
  refine gw_iload_n C 1 dX11_stage_0 rfl rfl ?_
  refine gw_iconst C 1 dX11_stage_1 (by decide) ?_
  refine gw_icmp_lt32 C 10 dX11_stage_2 (by decide) (by omega) (by omega) (fun h => ?_) (fun h => ?_)
  ·
    refine gw_iconst C 4294967295 dX11_stage_10 (by decide) ?_
    refine gw_goto C 33 dX11_stage_11 (by decide) ?_
    exact ret N dX11_stage_33 rfl ⟨by rw [mo_stageR, if_pos (by omega)], rfl⟩ rfl (Nat.le_refl 0) (Nat.le_refl 0)
  ·
    refine gw_iload_n C 1 dX11_stage_5 rfl rfl ?_
    refine gw_iconst C 4 dX11_stage_6 (by decide) ?_
    refine gw_icmp_le C 14 dX11_stage_7 (by decide) (by omega) (by omega) (fun h25 => ?_) (fun h25 => ?_)
    ·
      refine gw_aload_n C 0 dX11_stage_14 rfl rfl ?_
      refine gw_get (v := iN (N 15 (0))) C 0 15 in_X11_stage dX11_stage_15 lk_X11_stage_199 rfl rfl (by decide) rfl (by first | rfl | simp [mo_up]) ?_
      refine gw_if_eq C 32 dX11_stage_18 (by decide) (by omega) (fun h26 => ?_) (fun h26 => ?_)
      ·
        refine gw_iconst C 0 dX11_stage_32 (by decide) ?_
        exact ret N dX11_stage_33 rfl ⟨by rw [mo_stageR, if_neg (by omega), if_pos (by omega)], rfl⟩ rfl (Nat.le_refl 0) (Nat.le_refl 0)
      ·
        refine gw_aload_n C 0 dX11_stage_21 rfl rfl ?_
        refine gw_get C 0 18 in_X11_stage dX11_stage_22 lk_X11_stage_55 rfl rfl (by decide) rfl rfl ?_
        refine gw_iload_n C 1 dX11_stage_25 rfl rfl ?_
        refine gw_iconst C 1 dX11_stage_26 (by decide) ?_
        refine gw_isub C dX11_stage_27 (by omega) ?_
        refine gw_ild C (v := nI (N 18 ((a) - (1)))) 16 0 dX11_stage_28 rfl rfl (by decide) (by omega) (by first | rfl | simp [mo_up]) ?_
        refine gw_goto C 33 dX11_stage_29 (by decide) ?_
        exact ret N dX11_stage_33 rfl ⟨by rw [mo_stageR, if_neg (by omega), if_neg (by omega)], rfl⟩ rfl (Nat.le_refl 0) (Nat.le_refl 0)
    ·
      refine gw_iconst C 4294967295 dX11_stage_10 (by decide) ?_
      refine gw_goto C 33 dX11_stage_11 (by decide) ?_
      exact ret N dX11_stage_33 rfl ⟨by rw [mo_stageR, if_pos (by omega)], rfl⟩ rfl (Nat.le_refl 0) (Nat.le_refl 0)
def mo_stepR (a : Nat) (N : Nat → Nat → Nat) : Nat := if N 15 0 ≠ 0 ∧ a < N 16 0 then N 17 a else 4294967295
theorem in_X11_step : ∀ w ∈ wsX110, w ∈ wsX11_step := fun _ h => List.mem_cons_of_mem _ (List.mem_append_right _ h)
theorem lk_X11_step_52 : Cond.fieldLink RX11 52 "StageCubeModel" "way" "[I" ∈ wsX11_step := by decide +kernel
theorem lk_X11_step_196 : Cond.fieldLink RX11 196 "StageCubeModel" "steps" "I" ∈ wsX11_step := by decide +kernel
theorem lk_X11_step_199 : Cond.fieldLink RX11 199 "StageCubeModel" "hasWay" "Z" ∈ wsX11_step := by decide +kernel
set_option maxHeartbeats 4000000 in
set_option maxRecDepth 100000 in
theorem c_step (l : Launch) (D : va_G) (cI cB cS cJ cF cG : ClassId) (zz : (Nat → Prop) → State → Heap → Prop) (hz : gw_zT zz) (o : Nat) (ad : Nat → Nat) (N : Nat → Nat → Nat) (a : Nat) (ha : a < 2 ^ 32) (hw : N 15 0 < 2) (hs : N 16 0 ≤ 100) : gw_CI l yX11_step wsX11_step 0 0 0 0 D (mo_ty cI cB cS cJ cF cG) zz (mo_ws o ad cI cB cS N) [.ref o, iN a] (fun r N' => r = nI (mo_stepR a N) ∧ N' = N) (fun N' => mo_ws o ad cI cB cS N') := by
  refine gw_CI.of (cc := cX11_step) (maxL := 2) (rt := .int) hz (by decide) rfl (Nat.le_of_ble_eq_true rfl) ?_
  intro K C hkl hkn hkR hkD hmn ret
  have C : gw_x K cX11_step RX11 wsX11_step (mo_ty cI cB cS cJ cF cG) zz := C
  refine gw_aload_n C 0 dX11_step_0 rfl rfl ?_
  refine gw_get (v := iN (N 15 (0))) C 0 15 in_X11_step dX11_step_1 lk_X11_step_199 rfl rfl (by decide) rfl (by first | rfl | simp [mo_up]) ?_
  refine gw_if_eq C 28 dX11_step_4 (by decide) (by omega) (fun h27 => ?_) (fun h27 => ?_)
  ·
    refine gw_iconst C 4294967295 dX11_step_28 (by decide) ?_
    exact ret N dX11_step_29 rfl ⟨by rw [mo_stepR, if_neg (by omega)], rfl⟩ rfl (Nat.le_refl 0) (Nat.le_refl 0)
  ·
    refine gw_iload_n C 1 dX11_step_7 rfl rfl ?_
    refine gw_if_lt32 C 28 dX11_step_8 (by decide) (by omega) (fun h28 => ?_) (fun h28 => ?_)
    ·
      refine gw_iconst C 4294967295 dX11_step_28 (by decide) ?_
      exact ret N dX11_step_29 rfl ⟨by rw [mo_stepR, if_neg (by omega)], rfl⟩ rfl (Nat.le_refl 0) (Nat.le_refl 0)
    ·
      refine gw_iload_n C 1 dX11_step_11 rfl rfl ?_
      refine gw_aload_n C 0 dX11_step_12 rfl rfl ?_
      refine gw_get (v := iN (N 16 (0))) C 0 16 in_X11_step dX11_step_13 lk_X11_step_196 rfl rfl (by decide) rfl (by first | rfl | simp [mo_up]) ?_
      refine gw_icmp_ge C 28 dX11_step_16 (by decide) (by omega) (by omega) (fun h29 => ?_) (fun h29 => ?_)
      ·
        refine gw_iconst C 4294967295 dX11_step_28 (by decide) ?_
        exact ret N dX11_step_29 rfl ⟨by rw [mo_stepR, if_neg (by omega)], rfl⟩ rfl (Nat.le_refl 0) (Nat.le_refl 0)
      ·
        refine gw_aload_n C 0 dX11_step_19 rfl rfl ?_
        refine gw_get C 0 17 in_X11_step dX11_step_20 lk_X11_step_52 rfl rfl (by decide) rfl rfl ?_
        refine gw_iload_n C 1 dX11_step_23 rfl rfl ?_
        refine gw_ild C (v := nI (N 17 (a))) 15 0 dX11_step_24 rfl rfl (by decide) (by omega) (by first | rfl | simp [mo_up]) ?_
        refine gw_goto C 29 dX11_step_25 (by decide) ?_
        exact ret N dX11_step_29 rfl ⟨by rw [mo_stepR, if_pos (by omega)], rfl⟩ rfl (Nat.le_refl 0) (Nat.le_refl 0)
def mo_ih (N : Nat → Nat → Nat) : Nat → Nat
  | 0 => 1
  | i + 1 => if mo_ih N i ≠ 0 ∧ N 2 i = i ∧ N 3 i = 0 ∧ (7 < i ∨ N 0 i = i ∧ N 1 i = 0) then 1 else 0
theorem mo_ih_2 (N : Nat → Nat → Nat) : ∀ i, mo_ih N i < 2
  | 0 => (by decide : 1 < 2)
  | i + 1 => by rw [mo_ih]; split <;> decide
theorem in_X11_isHome : ∀ w ∈ wsX110, w ∈ wsX11_isHome := fun _ h => List.mem_cons_of_mem _ (List.mem_append_right _ h)
theorem lk_X11_isHome_7 : Cond.fieldLink RX11 7 "StageCubeModel" "corners" "[I" ∈ wsX11_isHome := by decide +kernel
theorem lk_X11_isHome_13 : Cond.fieldLink RX11 13 "StageCubeModel" "twists" "[I" ∈ wsX11_isHome := by decide +kernel
theorem lk_X11_isHome_16 : Cond.fieldLink RX11 16 "StageCubeModel" "edges" "[I" ∈ wsX11_isHome := by decide +kernel
theorem lk_X11_isHome_19 : Cond.fieldLink RX11 19 "StageCubeModel" "flips" "[I" ∈ wsX11_isHome := by decide +kernel
set_option maxHeartbeats 4000000 in
set_option maxRecDepth 100000 in
theorem c_isHome (l : Launch) (D : va_G) (cI cB cS cJ cF cG : ClassId) (zz : (Nat → Prop) → State → Heap → Prop) (hz : gw_zT zz) (o : Nat) (ad : Nat → Nat) (N : Nat → Nat → Nat) (h0 : ∀ j, j < 8 → N 0 j < 8) (h1 : ∀ j, j < 8 → N 1 j < 3) (h2 : ∀ j, j < 12 → N 2 j < 12) (h3 : ∀ j, j < 12 → N 3 j < 2) : gw_CI l yX11_isHome wsX11_isHome 0 0 0 0 D (mo_ty cI cB cS cJ cF cG) zz (mo_ws o ad cI cB cS N) [.ref o] (fun r N' => r = nI (mo_ih N 12) ∧ N' = N) (fun N' => mo_ws o ad cI cB cS N') := by
  refine gw_CI.of (cc := cX11_isHome) (maxL := 3) (rt := .int) hz (by decide) rfl (Nat.le_of_ble_eq_true rfl) ?_
  intro K C hkl hkn hkR hkD hmn ret
  have C : gw_x K cX11_isHome RX11 wsX11_isHome (mo_ty cI cB cS cJ cF cG) zz := C
  refine gw_iconst C 1 dX11_isHome_0 (by decide) ?_
  refine gw_istore_n C (lv2 := [(1, iN (1)), (0, .ref (o))]) dX11_isHome_1 rfl (by omega) rfl ?_
  refine gw_iconst C 0 dX11_isHome_2 (by decide) ?_
  refine gw_istore_n C (lv2 := [(2, iN (0)), (1, iN (1)), (0, .ref (o))]) dX11_isHome_3 rfl (by omega) rfl ?_
  have lp : ∀ ni i : Nat, i + ni = 12 → gw_G K (mo_ws o ad cI cB cS (N)) 0 0 4 [(2, iN (i)), (1, iN (mo_ih N i)), (0, .ref (o))] [] := by
    intro ni
    induction ni with
    | zero =>
      intro i hii
      refine gw_iload_n C 0 dX11_isHome_4 rfl rfl ?_
      refine gw_bipush C 12 dX11_isHome_5 (by decide) ?_
      refine gw_icmp_ge C 70 dX11_isHome_7 (by decide) (by omega) (by omega) (fun h30 => ?_) (fun h30 => ?_)
      ·
        have q := mo_ih_2 N 12
        rw [show i = 12 by omega]
        refine gw_iload_n C 1 dX11_isHome_70 rfl rfl ?_
        refine gw_if_eq C 78 dX11_isHome_71 (by decide) (by omega) (fun h31 => ?_) (fun h31 => ?_)
        ·
          refine gw_iconst C 0 dX11_isHome_78 (by decide) ?_
          exact ret N dX11_isHome_79 rfl ⟨by rw [show mo_ih N 12 = 0 by omega], rfl⟩ rfl (Nat.le_refl 0) (Nat.le_refl 0)
        ·
          refine gw_iconst C 1 dX11_isHome_74 (by decide) ?_
          refine gw_goto C 79 dX11_isHome_75 (by decide) ?_
          exact ret N dX11_isHome_79 rfl ⟨by rw [show mo_ih N 12 = 1 by omega], rfl⟩ rfl (Nat.le_refl 0) (Nat.le_refl 0)
      ·
        exact absurd h30 (by omega)
    | succ ni ihi =>
      intro i hii
      refine gw_iload_n C 0 dX11_isHome_4 rfl rfl ?_
      refine gw_bipush C 12 dX11_isHome_5 (by decide) ?_
      refine gw_icmp_ge C 70 dX11_isHome_7 (by decide) (by omega) (by omega) (fun h32 => ?_) (fun h32 => ?_)
      ·
        exact absurd h32 (by omega)
      ·
        have q := mo_ih_2 N i
        have q2 := h2 i (by omega)
        have q3 := h3 i (by omega)
        have q0 : i < 8 → N 0 i < 8 := h0 i
        have q1 : i < 8 → N 1 i < 3 := h1 i
        refine gw_iload_n C 1 dX11_isHome_10 rfl rfl ?_
        refine gw_if_eq C 62 dX11_isHome_11 (by decide) (by omega) (fun h33 => ?_) (fun h33 => ?_)
        ·
          refine gw_iconst C 0 dX11_isHome_62 (by decide) ?_
          refine gw_istore_n C (lv2 := [(1, iN (0)), (2, iN (i)), (0, .ref (o))]) dX11_isHome_63 rfl (by omega) rfl ?_
          refine gw_iinc C (v := nI (i + 1)) (lv2 := [(2, iN (i + 1)), (1, iN (0)), (0, .ref (o))]) 1 dX11_isHome_64 rfl (nI_add _ _) (by omega) rfl ?_
          refine gw_goto C 4 dX11_isHome_67 (by decide) ?_
          refine gw_lv (lv2 := [(2, iN (i + 1)), (1, iN (0)), (0, .ref (o))]) [0, 1, 2] rfl ?_
          have z : mo_ih N (i + 1) = 0 := by rw [mo_ih, if_neg (by omega)]
          have k := ihi (i + 1) (by omega)
          rw [z] at k
          exact k
        ·
          refine gw_aload_n C 2 dX11_isHome_14 rfl rfl ?_
          refine gw_get C 0 2 in_X11_isHome dX11_isHome_15 lk_X11_isHome_16 rfl rfl (by decide) rfl rfl ?_
          refine gw_iload_n C 0 dX11_isHome_18 rfl rfl ?_
          refine gw_ild C (v := nI (N 2 (i))) 3 0 dX11_isHome_19 rfl rfl (by decide) (by omega) (by first | rfl | simp [mo_up]) ?_
          refine gw_iload_n C 0 dX11_isHome_20 rfl rfl ?_
          refine gw_icmp_ne C 62 dX11_isHome_21 (by decide) (by omega) (by omega) (fun h34 => ?_) (fun h34 => ?_)
          ·
            refine gw_iconst C 0 dX11_isHome_62 (by decide) ?_
            refine gw_istore_n C (lv2 := [(1, iN (0)), (2, iN (i)), (0, .ref (o))]) dX11_isHome_63 rfl (by omega) rfl ?_
            refine gw_iinc C (v := nI (i + 1)) (lv2 := [(2, iN (i + 1)), (1, iN (0)), (0, .ref (o))]) 1 dX11_isHome_64 rfl (nI_add _ _) (by omega) rfl ?_
            refine gw_goto C 4 dX11_isHome_67 (by decide) ?_
            refine gw_lv (lv2 := [(2, iN (i + 1)), (1, iN (0)), (0, .ref (o))]) [0, 1, 2] rfl ?_
            have z : mo_ih N (i + 1) = 0 := by rw [mo_ih, if_neg (by omega)]
            have k := ihi (i + 1) (by omega)
            rw [z] at k
            exact k
          ·
            refine gw_aload_n C 2 dX11_isHome_24 rfl rfl ?_
            refine gw_get C 0 3 in_X11_isHome dX11_isHome_25 lk_X11_isHome_19 rfl rfl (by decide) rfl rfl ?_
            refine gw_iload_n C 0 dX11_isHome_28 rfl rfl ?_
            refine gw_ild C (v := nI (N 3 (i))) 4 0 dX11_isHome_29 rfl rfl (by decide) (by omega) (by first | rfl | simp [mo_up]) ?_
            refine gw_if_ne C 62 dX11_isHome_30 (by decide) (by omega) (fun h35 => ?_) (fun h35 => ?_)
            ·
              refine gw_iconst C 0 dX11_isHome_62 (by decide) ?_
              refine gw_istore_n C (lv2 := [(1, iN (0)), (2, iN (i)), (0, .ref (o))]) dX11_isHome_63 rfl (by omega) rfl ?_
              refine gw_iinc C (v := nI (i + 1)) (lv2 := [(2, iN (i + 1)), (1, iN (0)), (0, .ref (o))]) 1 dX11_isHome_64 rfl (nI_add _ _) (by omega) rfl ?_
              refine gw_goto C 4 dX11_isHome_67 (by decide) ?_
              refine gw_lv (lv2 := [(2, iN (i + 1)), (1, iN (0)), (0, .ref (o))]) [0, 1, 2] rfl ?_
              have z : mo_ih N (i + 1) = 0 := by rw [mo_ih, if_neg (by omega)]
              have k := ihi (i + 1) (by omega)
              rw [z] at k
              exact k
            ·
              refine gw_iload_n C 0 dX11_isHome_33 rfl rfl ?_
              refine gw_bipush C 7 dX11_isHome_34 (by decide) ?_
              refine gw_icmp_gt C 58 dX11_isHome_36 (by decide) (by omega) (by omega) (fun h36 => ?_) (fun h36 => ?_)
              ·
                refine gw_iconst C 1 dX11_isHome_58 (by decide) ?_
                refine gw_goto C 63 dX11_isHome_59 (by decide) ?_
                refine gw_istore_n C (lv2 := [(1, iN (1)), (2, iN (i)), (0, .ref (o))]) dX11_isHome_63 rfl (by omega) rfl ?_
                refine gw_iinc C (v := nI (i + 1)) (lv2 := [(2, iN (i + 1)), (1, iN (1)), (0, .ref (o))]) 1 dX11_isHome_64 rfl (nI_add _ _) (by omega) rfl ?_
                refine gw_goto C 4 dX11_isHome_67 (by decide) ?_
                refine gw_lv (lv2 := [(2, iN (i + 1)), (1, iN (1)), (0, .ref (o))]) [0, 1, 2] rfl ?_
                have z : mo_ih N (i + 1) = 1 := by rw [mo_ih, if_pos (by omega)]
                have k := ihi (i + 1) (by omega)
                rw [z] at k
                exact k
              ·
                refine gw_aload_n C 2 dX11_isHome_39 rfl rfl ?_
                refine gw_get C 0 0 in_X11_isHome dX11_isHome_40 lk_X11_isHome_7 rfl rfl (by decide) rfl rfl ?_
                refine gw_iload_n C 0 dX11_isHome_43 rfl rfl ?_
                refine gw_ild C (v := nI (N 0 (i))) 1 0 dX11_isHome_44 rfl rfl (by decide) (by omega) (by first | rfl | simp [mo_up]) ?_
                refine gw_iload_n C 0 dX11_isHome_45 rfl rfl ?_
                refine gw_icmp_ne C 62 dX11_isHome_46 (by decide) (by omega) (by omega) (fun h37 => ?_) (fun h37 => ?_)
                ·
                  refine gw_iconst C 0 dX11_isHome_62 (by decide) ?_
                  refine gw_istore_n C (lv2 := [(1, iN (0)), (2, iN (i)), (0, .ref (o))]) dX11_isHome_63 rfl (by omega) rfl ?_
                  refine gw_iinc C (v := nI (i + 1)) (lv2 := [(2, iN (i + 1)), (1, iN (0)), (0, .ref (o))]) 1 dX11_isHome_64 rfl (nI_add _ _) (by omega) rfl ?_
                  refine gw_goto C 4 dX11_isHome_67 (by decide) ?_
                  refine gw_lv (lv2 := [(2, iN (i + 1)), (1, iN (0)), (0, .ref (o))]) [0, 1, 2] rfl ?_
                  have z : mo_ih N (i + 1) = 0 := by rw [mo_ih, if_neg (by omega)]
                  have k := ihi (i + 1) (by omega)
                  rw [z] at k
                  exact k
                ·
                  refine gw_aload_n C 2 dX11_isHome_49 rfl rfl ?_
                  refine gw_get C 0 1 in_X11_isHome dX11_isHome_50 lk_X11_isHome_13 rfl rfl (by decide) rfl rfl ?_
                  refine gw_iload_n C 0 dX11_isHome_53 rfl rfl ?_
                  refine gw_ild C (v := nI (N 1 (i))) 2 0 dX11_isHome_54 rfl rfl (by decide) (by omega) (by first | rfl | simp [mo_up]) ?_
                  refine gw_if_ne C 62 dX11_isHome_55 (by decide) (by omega) (fun h38 => ?_) (fun h38 => ?_)
                  ·
                    refine gw_iconst C 0 dX11_isHome_62 (by decide) ?_
                    refine gw_istore_n C (lv2 := [(1, iN (0)), (2, iN (i)), (0, .ref (o))]) dX11_isHome_63 rfl (by omega) rfl ?_
                    refine gw_iinc C (v := nI (i + 1)) (lv2 := [(2, iN (i + 1)), (1, iN (0)), (0, .ref (o))]) 1 dX11_isHome_64 rfl (nI_add _ _) (by omega) rfl ?_
                    refine gw_goto C 4 dX11_isHome_67 (by decide) ?_
                    refine gw_lv (lv2 := [(2, iN (i + 1)), (1, iN (0)), (0, .ref (o))]) [0, 1, 2] rfl ?_
                    have z : mo_ih N (i + 1) = 0 := by rw [mo_ih, if_neg (by omega)]
                    have k := ihi (i + 1) (by omega)
                    rw [z] at k
                    exact k
                  ·
                    refine gw_iconst C 1 dX11_isHome_58 (by decide) ?_
                    refine gw_goto C 63 dX11_isHome_59 (by decide) ?_
                    refine gw_istore_n C (lv2 := [(1, iN (1)), (2, iN (i)), (0, .ref (o))]) dX11_isHome_63 rfl (by omega) rfl ?_
                    refine gw_iinc C (v := nI (i + 1)) (lv2 := [(2, iN (i + 1)), (1, iN (1)), (0, .ref (o))]) 1 dX11_isHome_64 rfl (nI_add _ _) (by omega) rfl ?_
                    refine gw_goto C 4 dX11_isHome_67 (by decide) ?_
                    refine gw_lv (lv2 := [(2, iN (i + 1)), (1, iN (1)), (0, .ref (o))]) [0, 1, 2] rfl ?_
                    have z : mo_ih N (i + 1) = 1 := by rw [mo_ih, if_pos (by omega)]
                    have k := ihi (i + 1) (by omega)
                    rw [z] at k
                    exact k
  refine gw_lv (lv2 := [(2, iN (0)), (1, iN (1)), (0, .ref (o))]) [0, 1, 2] rfl ?_
  exact lp (12 - 0) 0 (by omega)
def mo_may (st t : Nat) : Nat := if st = 0 ∨ t % 3 = 1 ∨ (st = 1 ∧ t / 3 < 4) ∨ (st = 2 ∧ t / 3 < 2) then 1 else 0
set_option maxHeartbeats 4000000 in
set_option maxRecDepth 100000 in
theorem c_may (l : Launch) (D : va_G) (tys : List (ClassId × FieldType)) (zz : (Nat → Prop) → State → Heap → Prop) (hz : gw_zT zz) (w0 : va_W) (st t : Nat) (hs : st < 4) (ht : t < 18) : gw_CI l yX11_may wsX11_may 0 0 0 0 D tys zz w0 [iN st, iN t] (fun r _ => r = nI (mo_may st t)) (fun _ : Unit => w0) := by
  refine gw_CI.of (cc := cX11_may) (maxL := 4) (rt := .boolean) hz (by decide) rfl (Nat.le_of_ble_eq_true rfl) ?_
  intro K C hkl hkn hkR hkD hmn ret
  have C : gw_x K cX11_may RX11 wsX11_may tys zz := C
  refine gw_iload_n C 1 dX11_may_0 rfl rfl ?_
  refine gw_iconst C 3 dX11_may_1 (by decide) ?_
  refine gw_irem C dX11_may_2 (by omega) (by omega) (by omega) ?_
  refine gw_iconst C 1 dX11_may_3 (by decide) ?_
  refine gw_icmp_ne C 11 dX11_may_4 (by decide) (by omega) (by omega) (fun h39 => ?_) (fun h39 => ?_)
  ·
    refine gw_iconst C 0 dX11_may_11 (by decide) ?_
    refine gw_istore_n C (lv2 := [(2, iN (0)), (0, iN (st)), (1, iN (t))]) dX11_may_12 rfl (by omega) rfl ?_
    refine gw_iload_n C 2 dX11_may_13 rfl rfl ?_
    refine gw_iconst C 3 dX11_may_14 (by decide) ?_
    refine gw_idiv C dX11_may_15 (by omega) (by omega) (by omega) ?_
    refine gw_istore_n C (lv2 := [(3, iN ((t) / (3))), (2, iN (0)), (0, iN (st)), (1, iN (t))]) dX11_may_16 rfl (by omega) rfl ?_
    refine gw_iload_n C 2 dX11_may_17 rfl rfl ?_
    refine gw_if_eq C 45 dX11_may_18 (by decide) (by omega) (fun h40 => ?_) (fun h40 => ?_)
    ·
      refine gw_iconst C 1 dX11_may_45 (by decide) ?_
      refine gw_goto C 50 dX11_may_46 (by decide) ?_
      exact ret () dX11_may_50 rfl (by rw [mo_may, if_pos (by omega)]) rfl (Nat.le_refl 0) (Nat.le_refl 0)
    ·
      refine gw_iload_n C 1 dX11_may_21 rfl rfl ?_
      refine gw_if_ne C 45 dX11_may_22 (by decide) (by omega) (fun h41 => ?_) (fun h41 => ?_)
      ·
        exact absurd h41 (by decide)
      ·
        refine gw_iload_n C 2 dX11_may_25 rfl rfl ?_
        refine gw_iconst C 1 dX11_may_26 (by decide) ?_
        refine gw_icmp_ne C 35 dX11_may_27 (by decide) (by omega) (by omega) (fun h42 => ?_) (fun h42 => ?_)
        ·
          refine gw_iload_n C 2 dX11_may_35 rfl rfl ?_
          refine gw_iconst C 2 dX11_may_36 (by decide) ?_
          refine gw_icmp_ne C 49 dX11_may_37 (by decide) (by omega) (by omega) (fun h43 => ?_) (fun h43 => ?_)
          ·
            refine gw_iconst C 0 dX11_may_49 (by decide) ?_
            exact ret () dX11_may_50 rfl (by rw [mo_may, if_neg (by omega)]) rfl (Nat.le_refl 0) (Nat.le_refl 0)
          ·
            refine gw_iload_n C 0 dX11_may_40 rfl rfl ?_
            refine gw_iconst C 2 dX11_may_41 (by decide) ?_
            refine gw_icmp_ge C 49 dX11_may_42 (by decide) (by omega) (by omega) (fun h44 => ?_) (fun h44 => ?_)
            ·
              refine gw_iconst C 0 dX11_may_49 (by decide) ?_
              exact ret () dX11_may_50 rfl (by rw [mo_may, if_neg (by omega)]) rfl (Nat.le_refl 0) (Nat.le_refl 0)
            ·
              refine gw_iconst C 1 dX11_may_45 (by decide) ?_
              refine gw_goto C 50 dX11_may_46 (by decide) ?_
              exact ret () dX11_may_50 rfl (by rw [mo_may, if_pos (by omega)]) rfl (Nat.le_refl 0) (Nat.le_refl 0)
        ·
          refine gw_iload_n C 0 dX11_may_30 rfl rfl ?_
          refine gw_iconst C 4 dX11_may_31 (by decide) ?_
          refine gw_icmp_lt C 45 dX11_may_32 (by decide) (by omega) (by omega) (fun h45 => ?_) (fun h45 => ?_)
          ·
            refine gw_iconst C 1 dX11_may_45 (by decide) ?_
            refine gw_goto C 50 dX11_may_46 (by decide) ?_
            exact ret () dX11_may_50 rfl (by rw [mo_may, if_pos (by omega)]) rfl (Nat.le_refl 0) (Nat.le_refl 0)
          ·
            refine gw_iload_n C 2 dX11_may_35 rfl rfl ?_
            refine gw_iconst C 2 dX11_may_36 (by decide) ?_
            refine gw_icmp_ne C 49 dX11_may_37 (by decide) (by omega) (by omega) (fun h46 => ?_) (fun h46 => ?_)
            ·
              refine gw_iconst C 0 dX11_may_49 (by decide) ?_
              exact ret () dX11_may_50 rfl (by rw [mo_may, if_neg (by omega)]) rfl (Nat.le_refl 0) (Nat.le_refl 0)
            ·
              refine gw_iload_n C 0 dX11_may_40 rfl rfl ?_
              refine gw_iconst C 2 dX11_may_41 (by decide) ?_
              refine gw_icmp_ge C 49 dX11_may_42 (by decide) (by omega) (by omega) (fun h47 => ?_) (fun h47 => ?_)
              ·
                refine gw_iconst C 0 dX11_may_49 (by decide) ?_
                exact ret () dX11_may_50 rfl (by rw [mo_may, if_neg (by omega)]) rfl (Nat.le_refl 0) (Nat.le_refl 0)
              ·
                refine gw_iconst C 1 dX11_may_45 (by decide) ?_
                refine gw_goto C 50 dX11_may_46 (by decide) ?_
                exact ret () dX11_may_50 rfl (by rw [mo_may, if_pos (by omega)]) rfl (Nat.le_refl 0) (Nat.le_refl 0)
  ·
    refine gw_iconst C 1 dX11_may_7 (by decide) ?_
    refine gw_goto C 12 dX11_may_8 (by decide) ?_
    refine gw_istore_n C (lv2 := [(2, iN (1)), (0, iN (st)), (1, iN (t))]) dX11_may_12 rfl (by omega) rfl ?_
    refine gw_iload_n C 2 dX11_may_13 rfl rfl ?_
    refine gw_iconst C 3 dX11_may_14 (by decide) ?_
    refine gw_idiv C dX11_may_15 (by omega) (by omega) (by omega) ?_
    refine gw_istore_n C (lv2 := [(3, iN ((t) / (3))), (2, iN (1)), (0, iN (st)), (1, iN (t))]) dX11_may_16 rfl (by omega) rfl ?_
    refine gw_iload_n C 2 dX11_may_17 rfl rfl ?_
    refine gw_if_eq C 45 dX11_may_18 (by decide) (by omega) (fun h48 => ?_) (fun h48 => ?_)
    ·
      refine gw_iconst C 1 dX11_may_45 (by decide) ?_
      refine gw_goto C 50 dX11_may_46 (by decide) ?_
      exact ret () dX11_may_50 rfl (by rw [mo_may, if_pos (by omega)]) rfl (Nat.le_refl 0) (Nat.le_refl 0)
    ·
      refine gw_iload_n C 1 dX11_may_21 rfl rfl ?_
      refine gw_if_ne C 45 dX11_may_22 (by decide) (by omega) (fun h49 => ?_) (fun h49 => ?_)
      ·
        refine gw_iconst C 1 dX11_may_45 (by decide) ?_
        refine gw_goto C 50 dX11_may_46 (by decide) ?_
        exact ret () dX11_may_50 rfl (by rw [mo_may, if_pos (by omega)]) rfl (Nat.le_refl 0) (Nat.le_refl 0)
      ·
        exact absurd h49 (by decide)
def mo_low (a b : Nat) : Nat := if a < b then a else b
def mo_btw (a b : Nat) : Nat := if a ^^^ b = 1 then 2 * (mo_low a b / 2 ^ 2) + (mo_low a b / 2 ^ 1 &&& 1) else if a ^^^ b = 2 then 4 + 2 * (mo_low a b / 2 ^ 2) + (mo_low a b &&& 1) else 8 + 2 * (mo_low a b / 2 ^ 1 &&& 1) + (mo_low a b &&& 1)
set_option maxHeartbeats 4000000 in
set_option maxRecDepth 100000 in
theorem c_between (l : Launch) (D : va_G) (tys : List (ClassId × FieldType)) (zz : (Nat → Prop) → State → Heap → Prop) (hz : gw_zT zz) (w0 : va_W) (a b : Nat) (ha : a < 8) (hb : b < 8) : gw_CI l yX11_between wsX11_between 0 0 0 0 D tys zz w0 [iN a, iN b] (fun r _ => r = nI (mo_btw a b)) (fun _ : Unit => w0) := by
  refine gw_CI.of (cc := cX11_between) (maxL := 7) (rt := .int) hz (by decide) rfl (Nat.le_of_ble_eq_true rfl) ?_
  intro K C hkl hkn hkR hkD hmn ret
  have C : gw_x K cX11_between RX11 wsX11_between tys zz := C
  have hx : a ^^^ b < 2 ^ 31 := Nat.xor_lt_two_pow (by omega) (by omega)
  refine gw_iload_n C 0 dX11_between_0 rfl rfl ?_
  refine gw_iload_n C 1 dX11_between_1 rfl rfl ?_
  refine gw_icmp_ge C 9 dX11_between_2 (by decide) (by omega) (by omega) (fun h50 => ?_) (fun h50 => ?_)
  ·
    refine gw_iload_n C 1 dX11_between_9 rfl rfl ?_
    refine gw_istore_n C (lv2 := [(2, iN (b)), (0, iN (a)), (1, iN (b))]) dX11_between_10 rfl (by omega) rfl ?_
    have hlow : mo_low a b = b := by rw [mo_low, if_neg (by omega)]
    refine gw_iload_n C 0 dX11_between_11 rfl rfl ?_
    refine gw_iconst C 1 dX11_between_12 (by decide) ?_
    refine gw_iand C dX11_between_13 ?_
    refine gw_istore_n C (lv2 := [(3, iN ((b) &&& (1))), (2, iN (b)), (0, iN (a)), (1, iN (b))]) dX11_between_14 rfl (by omega) rfl ?_
    refine gw_iload_n C 1 dX11_between_15 rfl rfl ?_
    refine gw_iconst C 1 dX11_between_16 (by decide) ?_
    refine gw_ishr C dX11_between_17 (by omega) (by omega) ?_
    refine gw_iconst C 1 dX11_between_18 (by decide) ?_
    refine gw_iand C dX11_between_19 ?_
    refine gw_istore C (lv2 := [(4, iN (((b) / 2 ^ (1)) &&& (1))), (3, iN ((b) &&& (1))), (2, iN (b)), (0, iN (a)), (1, iN (b))]) dX11_between_20 (by omega) rfl ?_
    refine gw_iload_n C 2 dX11_between_22 rfl rfl ?_
    refine gw_iconst C 2 dX11_between_23 (by decide) ?_
    refine gw_ishr C dX11_between_24 (by omega) (by omega) ?_
    refine gw_istore C (lv2 := [(5, iN ((b) / 2 ^ (2))), (4, iN (((b) / 2 ^ (1)) &&& (1))), (3, iN ((b) &&& (1))), (2, iN (b)), (0, iN (a)), (1, iN (b))]) dX11_between_25 (by omega) rfl ?_
    refine gw_iload_n C 4 dX11_between_27 rfl rfl ?_
    refine gw_iload_n C 5 dX11_between_28 rfl rfl ?_
    refine gw_ixor C dX11_between_29 ?_
    refine gw_istore C (lv2 := [(6, iN ((a) ^^^ (b))), (5, iN ((b) / 2 ^ (2))), (4, iN (((b) / 2 ^ (1)) &&& (1))), (3, iN ((b) &&& (1))), (2, iN (b)), (0, iN (a)), (1, iN (b))]) dX11_between_30 (by omega) rfl ?_
    refine gw_iload C 0 dX11_between_32 rfl ?_
    refine gw_iconst C 1 dX11_between_34 (by decide) ?_
    refine gw_icmp_ne C 48 dX11_between_35 (by decide) (by omega) (by omega) (fun h51 => ?_) (fun h51 => ?_)
    ·
      refine gw_iload C 0 dX11_between_48 rfl ?_
      refine gw_iconst C 2 dX11_between_50 (by decide) ?_
      refine gw_icmp_ne C 65 dX11_between_51 (by decide) (by omega) (by omega) (fun h52 => ?_) (fun h52 => ?_)
      ·
        refine gw_bipush C 8 dX11_between_65 (by decide) ?_
        refine gw_iconst C 2 dX11_between_67 (by decide) ?_
        refine gw_iload C 2 dX11_between_68 rfl ?_
        refine gw_imul C dX11_between_70 ?_
        refine gw_iadd C dX11_between_71 ?_
        refine gw_iload_n C 3 dX11_between_72 rfl rfl ?_
        refine gw_iadd C dX11_between_73 ?_
        exact ret () dX11_between_74 rfl (by rw [mo_btw, hlow]; first | rw [if_pos (by assumption)] | rw [if_neg (by assumption), if_pos (by assumption)] | rw [if_neg (by assumption), if_neg (by assumption)]) rfl (Nat.le_refl 0) (Nat.le_refl 0)
      ·
        refine gw_iconst C 4 dX11_between_54 (by decide) ?_
        refine gw_iconst C 2 dX11_between_55 (by decide) ?_
        refine gw_iload C 1 dX11_between_56 rfl ?_
        refine gw_imul C dX11_between_58 ?_
        refine gw_iadd C dX11_between_59 ?_
        refine gw_iload_n C 3 dX11_between_60 rfl rfl ?_
        refine gw_iadd C dX11_between_61 ?_
        refine gw_goto C 74 dX11_between_62 (by decide) ?_
        exact ret () dX11_between_74 rfl (by rw [mo_btw, hlow]; first | rw [if_pos (by assumption)] | rw [if_neg (by assumption), if_pos (by assumption)] | rw [if_neg (by assumption), if_neg (by assumption)]) rfl (Nat.le_refl 0) (Nat.le_refl 0)
    ·
      refine gw_iconst C 2 dX11_between_38 (by decide) ?_
      refine gw_iload C 1 dX11_between_39 rfl ?_
      refine gw_imul C dX11_between_41 ?_
      refine gw_iload C 2 dX11_between_42 rfl ?_
      refine gw_iadd C dX11_between_44 ?_
      refine gw_goto C 74 dX11_between_45 (by decide) ?_
      exact ret () dX11_between_74 rfl (by rw [mo_btw, hlow]; first | rw [if_pos (by assumption)] | rw [if_neg (by assumption), if_pos (by assumption)] | rw [if_neg (by assumption), if_neg (by assumption)]) rfl (Nat.le_refl 0) (Nat.le_refl 0)
  ·
    refine gw_iload_n C 0 dX11_between_5 rfl rfl ?_
    refine gw_goto C 10 dX11_between_6 (by decide) ?_
    refine gw_istore_n C (lv2 := [(2, iN (a)), (0, iN (a)), (1, iN (b))]) dX11_between_10 rfl (by omega) rfl ?_
    have hlow : mo_low a b = a := by rw [mo_low, if_pos (by omega)]
    refine gw_iload_n C 0 dX11_between_11 rfl rfl ?_
    refine gw_iconst C 1 dX11_between_12 (by decide) ?_
    refine gw_iand C dX11_between_13 ?_
    refine gw_istore_n C (lv2 := [(3, iN ((a) &&& (1))), (2, iN (a)), (0, iN (a)), (1, iN (b))]) dX11_between_14 rfl (by omega) rfl ?_
    refine gw_iload_n C 1 dX11_between_15 rfl rfl ?_
    refine gw_iconst C 1 dX11_between_16 (by decide) ?_
    refine gw_ishr C dX11_between_17 (by omega) (by omega) ?_
    refine gw_iconst C 1 dX11_between_18 (by decide) ?_
    refine gw_iand C dX11_between_19 ?_
    refine gw_istore C (lv2 := [(4, iN (((a) / 2 ^ (1)) &&& (1))), (3, iN ((a) &&& (1))), (2, iN (a)), (0, iN (a)), (1, iN (b))]) dX11_between_20 (by omega) rfl ?_
    refine gw_iload_n C 2 dX11_between_22 rfl rfl ?_
    refine gw_iconst C 2 dX11_between_23 (by decide) ?_
    refine gw_ishr C dX11_between_24 (by omega) (by omega) ?_
    refine gw_istore C (lv2 := [(5, iN ((a) / 2 ^ (2))), (4, iN (((a) / 2 ^ (1)) &&& (1))), (3, iN ((a) &&& (1))), (2, iN (a)), (0, iN (a)), (1, iN (b))]) dX11_between_25 (by omega) rfl ?_
    refine gw_iload_n C 4 dX11_between_27 rfl rfl ?_
    refine gw_iload_n C 5 dX11_between_28 rfl rfl ?_
    refine gw_ixor C dX11_between_29 ?_
    refine gw_istore C (lv2 := [(6, iN ((a) ^^^ (b))), (5, iN ((a) / 2 ^ (2))), (4, iN (((a) / 2 ^ (1)) &&& (1))), (3, iN ((a) &&& (1))), (2, iN (a)), (0, iN (a)), (1, iN (b))]) dX11_between_30 (by omega) rfl ?_
    refine gw_iload C 0 dX11_between_32 rfl ?_
    refine gw_iconst C 1 dX11_between_34 (by decide) ?_
    refine gw_icmp_ne C 48 dX11_between_35 (by decide) (by omega) (by omega) (fun h53 => ?_) (fun h53 => ?_)
    ·
      refine gw_iload C 0 dX11_between_48 rfl ?_
      refine gw_iconst C 2 dX11_between_50 (by decide) ?_
      refine gw_icmp_ne C 65 dX11_between_51 (by decide) (by omega) (by omega) (fun h54 => ?_) (fun h54 => ?_)
      ·
        refine gw_bipush C 8 dX11_between_65 (by decide) ?_
        refine gw_iconst C 2 dX11_between_67 (by decide) ?_
        refine gw_iload C 2 dX11_between_68 rfl ?_
        refine gw_imul C dX11_between_70 ?_
        refine gw_iadd C dX11_between_71 ?_
        refine gw_iload_n C 3 dX11_between_72 rfl rfl ?_
        refine gw_iadd C dX11_between_73 ?_
        exact ret () dX11_between_74 rfl (by rw [mo_btw, hlow]; first | rw [if_pos (by assumption)] | rw [if_neg (by assumption), if_pos (by assumption)] | rw [if_neg (by assumption), if_neg (by assumption)]) rfl (Nat.le_refl 0) (Nat.le_refl 0)
      ·
        refine gw_iconst C 4 dX11_between_54 (by decide) ?_
        refine gw_iconst C 2 dX11_between_55 (by decide) ?_
        refine gw_iload C 1 dX11_between_56 rfl ?_
        refine gw_imul C dX11_between_58 ?_
        refine gw_iadd C dX11_between_59 ?_
        refine gw_iload_n C 3 dX11_between_60 rfl rfl ?_
        refine gw_iadd C dX11_between_61 ?_
        refine gw_goto C 74 dX11_between_62 (by decide) ?_
        exact ret () dX11_between_74 rfl (by rw [mo_btw, hlow]; first | rw [if_pos (by assumption)] | rw [if_neg (by assumption), if_pos (by assumption)] | rw [if_neg (by assumption), if_neg (by assumption)]) rfl (Nat.le_refl 0) (Nat.le_refl 0)
    ·
      refine gw_iconst C 2 dX11_between_38 (by decide) ?_
      refine gw_iload C 1 dX11_between_39 rfl ?_
      refine gw_imul C dX11_between_41 ?_
      refine gw_iload C 2 dX11_between_42 rfl ?_
      refine gw_iadd C dX11_between_44 ?_
      refine gw_goto C 74 dX11_between_45 (by decide) ?_
      exact ret () dX11_between_74 rfl (by rw [mo_btw, hlow]; first | rw [if_pos (by assumption)] | rw [if_neg (by assumption), if_pos (by assumption)] | rw [if_neg (by assumption), if_neg (by assumption)]) rfl (Nat.le_refl 0) (Nat.le_refl 0)
