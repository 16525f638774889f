theorem in_X7_allThere_X7 : ∀ w ∈ wsX70, w ∈ wsX7_allThere := fun _ h => List.mem_cons_of_mem _ (List.mem_append_right _ (h))
theorem in_X7_atHome_X7 : ∀ w ∈ wsX70, w ∈ wsX7_atHome := fun _ h => List.mem_cons_of_mem _ (List.mem_append_right _ (h))
theorem in_X7_copyFrom_X7 : ∀ w ∈ wsX70, w ∈ wsX7_copyFrom := fun _ h => List.mem_cons_of_mem _ (List.mem_append_right _ (h))
theorem in_X7_describe_X7 : ∀ w ∈ wsX70, w ∈ wsX7_describe := fun _ h => List.mem_cons_of_mem _ (List.mem_append_right _ (h))
theorem in_X7_init_X7 : ∀ w ∈ wsX70, w ∈ wsX7_init := fun _ h => List.mem_cons_of_mem _ (List.mem_append_right _ (h))
theorem in_X7_marksCancel_X7 : ∀ w ∈ wsX70, w ∈ wsX7_marksCancel := fun _ h => List.mem_cons_of_mem _ (List.mem_append_right _ (h))
theorem in_X7_oddlySwapped_X7 : ∀ w ∈ wsX70, w ∈ wsX7_oddlySwapped := fun _ h => List.mem_cons_of_mem _ (List.mem_append_right _ (h))
theorem in_X7_put_X7 : ∀ w ∈ wsX70, w ∈ wsX7_put := fun _ h => List.mem_cons_of_mem _ (List.mem_append_right _ (h))
theorem lk_X7_allThere_9 : Cond.fieldLink RX7 9 "StageCube$Pieces" "count" "I" ∈ wsX7_allThere := by decide +kernel
theorem lk_X7_allThere_37 : Cond.fieldLink RX7 37 "StageCube$Pieces" "piece" "[I" ∈ wsX7_allThere := by decide +kernel
theorem lk_X7_atHome_9 : Cond.fieldLink RX7 9 "StageCube$Pieces" "count" "I" ∈ wsX7_atHome := by decide +kernel
theorem lk_X7_atHome_37 : Cond.fieldLink RX7 37 "StageCube$Pieces" "piece" "[I" ∈ wsX7_atHome := by decide +kernel
theorem lk_X7_atHome_40 : Cond.fieldLink RX7 40 "StageCube$Pieces" "mark" "[I" ∈ wsX7_atHome := by decide +kernel
theorem lk_X7_copyFrom_9 : Cond.fieldLink RX7 9 "StageCube$Pieces" "count" "I" ∈ wsX7_copyFrom := by decide +kernel
theorem lk_X7_copyFrom_37 : Cond.fieldLink RX7 37 "StageCube$Pieces" "piece" "[I" ∈ wsX7_copyFrom := by decide +kernel
theorem lk_X7_copyFrom_40 : Cond.fieldLink RX7 40 "StageCube$Pieces" "mark" "[I" ∈ wsX7_copyFrom := by decide +kernel
theorem lk_X7_describe_9 : Cond.fieldLink RX7 9 "StageCube$Pieces" "count" "I" ∈ wsX7_describe := by decide +kernel
theorem lk_X7_describe_15 : Cond.fieldLink RX7 15 "StageCube$Pieces" "marks" "I" ∈ wsX7_describe := by decide +kernel
theorem lk_X7_describe_37 : Cond.fieldLink RX7 37 "StageCube$Pieces" "piece" "[I" ∈ wsX7_describe := by decide +kernel
theorem lk_X7_describe_40 : Cond.fieldLink RX7 40 "StageCube$Pieces" "mark" "[I" ∈ wsX7_describe := by decide +kernel
theorem lk_X7_init_9 : Cond.fieldLink RX7 9 "StageCube$Pieces" "count" "I" ∈ wsX7_init := by decide +kernel
theorem lk_X7_init_15 : Cond.fieldLink RX7 15 "StageCube$Pieces" "marks" "I" ∈ wsX7_init := by decide +kernel
theorem lk_X7_init_18 : Cond.fieldLink RX7 18 "StageCube$Pieces" "CORNER_ROUND" "[I" ∈ wsX7_init := by decide +kernel
theorem lk_X7_init_22 : Cond.fieldLink RX7 22 "StageCube$Pieces" "EDGE_ROUND" "[I" ∈ wsX7_init := by decide +kernel
theorem lk_X7_init_25 : Cond.fieldLink RX7 25 "StageCube$Pieces" "round" "[I" ∈ wsX7_init := by decide +kernel
theorem lk_X7_init_28 : Cond.fieldLink RX7 28 "StageCube$Pieces" "TWIST_GAIN" "[I" ∈ wsX7_init := by decide +kernel
theorem lk_X7_init_31 : Cond.fieldLink RX7 31 "StageCube$Pieces" "FLIP_GAIN" "[I" ∈ wsX7_init := by decide +kernel
theorem lk_X7_init_34 : Cond.fieldLink RX7 34 "StageCube$Pieces" "gain" "[I" ∈ wsX7_init := by decide +kernel
theorem lk_X7_init_37 : Cond.fieldLink RX7 37 "StageCube$Pieces" "piece" "[I" ∈ wsX7_init := by decide +kernel
theorem lk_X7_init_40 : Cond.fieldLink RX7 40 "StageCube$Pieces" "mark" "[I" ∈ wsX7_init := by decide +kernel
theorem lk_X7_marksCancel_9 : Cond.fieldLink RX7 9 "StageCube$Pieces" "count" "I" ∈ wsX7_marksCancel := by decide +kernel
theorem lk_X7_marksCancel_15 : Cond.fieldLink RX7 15 "StageCube$Pieces" "marks" "I" ∈ wsX7_marksCancel := by decide +kernel
theorem lk_X7_marksCancel_40 : Cond.fieldLink RX7 40 "StageCube$Pieces" "mark" "[I" ∈ wsX7_marksCancel := by decide +kernel
theorem lk_X7_oddlySwapped_9 : Cond.fieldLink RX7 9 "StageCube$Pieces" "count" "I" ∈ wsX7_oddlySwapped := by decide +kernel
theorem lk_X7_oddlySwapped_37 : Cond.fieldLink RX7 37 "StageCube$Pieces" "piece" "[I" ∈ wsX7_oddlySwapped := by decide +kernel
theorem lk_X7_put_9 : Cond.fieldLink RX7 9 "StageCube$Pieces" "count" "I" ∈ wsX7_put := by decide +kernel
theorem lk_X7_put_15 : Cond.fieldLink RX7 15 "StageCube$Pieces" "marks" "I" ∈ wsX7_put := by decide +kernel
theorem lk_X7_put_37 : Cond.fieldLink RX7 37 "StageCube$Pieces" "piece" "[I" ∈ wsX7_put := by decide +kernel
theorem lk_X7_put_40 : Cond.fieldLink RX7 40 "StageCube$Pieces" "mark" "[I" ∈ wsX7_put := by decide +kernel
def cp_ (P Q : Nat → Nat) : Nat → Nat → Nat
  | 0 => P
  | i + 1 => up1 (cp_ P Q i) i (Q i)
set_option maxHeartbeats 4000000 in
set_option maxRecDepth 100000 in
theorem c_pcopy (l : Launch) (D : va_G) (cI cB cS cJ cF cG : ClassId) (zz : (Nat → Prop) → State → Heap → Prop) (hz : gw_zT zz) (p pa ma rt gt nn kk : Nat) (P M : Nat → Nat) (p2 pa2 ma2 rt2 gt2 kk2 : Nat) (P2 M2 : Nat → Nat) (hn : nn ≤ 12) : gw_CV (S := (Nat → Nat) × (Nat → Nat)) l yX7_copyFrom wsX7_copyFrom 0 0 0 0 D (mo_ty cI cB cS cJ cF cG) zz (pc_ws cI p pa ma rt gt nn kk (P) (M) ++ pc_ws cI p2 pa2 ma2 rt2 gt2 nn kk2 P2 M2) [.ref p, .ref p2] (fun u => u = (cp_ P P2 nn, cp_ M M2 nn)) (fun u => pc_ws cI p pa ma rt gt nn kk (u.1) (u.2) ++ pc_ws cI p2 pa2 ma2 rt2 gt2 nn kk2 P2 M2) := by
  refine gw_CV.of (cc := cX7_copyFrom) (maxL := 3) hz (by decide) rfl (Nat.le_of_ble_eq_true rfl) ?_
  intro K C hkl hkn hkR hkD hmn ret
  have C : gw_x K cX7_copyFrom RX7 wsX7_copyFrom (mo_ty cI cB cS cJ cF cG) zz := C
  subst hkl hkD
  refine gw_iconst C 0 dX7_copyFrom_0 (by decide) ?_
  refine gw_istore_n C (lv2 := [(2, iN (0)), (0, .ref (p)), (1, .ref (p2))]) dX7_copyFrom_1 rfl (by omega) rfl ?_
  have lp : ∀ ni i : Nat, i + ni = nn → gw_G K ([(p, .inr (5, [iN (nn), iN (kk), .ref (pa), .ref (ma), .ref (rt), .ref (gt)])), (pa, .inl (cI, nn, .inl (fun j => nI ((cp_ P P2 i) j)))), (ma, .inl (cI, nn, .inl (fun j => nI ((cp_ M M2 i) j)))), (p2, .inr (5, [iN (nn), iN (kk2), .ref (pa2), .ref (ma2), .ref (rt2), .ref (gt2)])), (pa2, .inl (cI, nn, .inl (fun j => nI (P2 j)))), (ma2, .inl (cI, nn, .inl (fun j => nI (M2 j))))]) 0 0 2 [(2, iN (i)), (0, .ref (p)), (1, .ref (p2))] [] := by
    intro ni
    induction ni with
    | zero =>
      intro i hii
      refine gw_iload_n C 0 dX7_copyFrom_2 rfl rfl ?_
      refine gw_aload_n C 1 dX7_copyFrom_3 rfl rfl ?_
      refine gw_get C 0 0 in_X7_copyFrom_X7 dX7_copyFrom_4 lk_X7_copyFrom_9 rfl rfl (by decide) rfl rfl ?_
      refine gw_icmp_ge C 48 dX7_copyFrom_7 (by decide) (by omega) (by omega) (fun h67 => ?_) (fun h67 => ?_)
      ·
        exact ret (cp_ P P2 nn, cp_ M M2 nn) dX7_copyFrom_48 rfl (by rw [show i = nn by omega]; rfl) (Nat.le_refl 0) (Nat.le_refl 0)
      ·
        exact absurd h67 (by omega)
    | succ ni ihi =>
      intro i hii
      refine gw_iload_n C 0 dX7_copyFrom_2 rfl rfl ?_
      refine gw_aload_n C 1 dX7_copyFrom_3 rfl rfl ?_
      refine gw_get C 0 0 in_X7_copyFrom_X7 dX7_copyFrom_4 lk_X7_copyFrom_9 rfl rfl (by decide) rfl rfl ?_
      refine gw_icmp_ge C 48 dX7_copyFrom_7 (by decide) (by omega) (by omega) (fun h68 => ?_) (fun h68 => ?_)
      ·
        exact absurd h68 (by omega)
      ·
        refine gw_iload_n C 0 dX7_copyFrom_10 rfl rfl ?_
        refine gw_aload_n C 2 dX7_copyFrom_11 rfl rfl ?_
        refine gw_get C 3 0 in_X7_copyFrom_X7 dX7_copyFrom_12 lk_X7_copyFrom_9 rfl rfl (by decide) rfl rfl ?_
        refine gw_icmp_ge C 48 dX7_copyFrom_15 (by decide) (by omega) (by omega) (fun h69 => ?_) (fun h69 => ?_)
        ·
          exact absurd h69 (by omega)
        ·
          refine gw_aload_n C 1 dX7_copyFrom_18 rfl rfl ?_
          refine gw_get C 0 2 in_X7_copyFrom_X7 dX7_copyFrom_19 lk_X7_copyFrom_37 rfl rfl (by decide) rfl rfl ?_
          refine gw_iload_n C 0 dX7_copyFrom_22 rfl rfl ?_
          refine gw_aload_n C 2 dX7_copyFrom_23 rfl rfl ?_
          refine gw_get C 3 2 in_X7_copyFrom_X7 dX7_copyFrom_24 lk_X7_copyFrom_37 rfl rfl (by decide) rfl rfl ?_
          refine gw_iload_n C 0 dX7_copyFrom_27 rfl rfl ?_
          refine gw_ild C (v := nI (P2 (i))) 4 0 dX7_copyFrom_28 rfl rfl (by first | decide | omega) (by omega) rfl ?_
          refine gw_istN C (ws2 := [(p, .inr (5, [iN (nn), iN (kk), .ref (pa), .ref (ma), .ref (rt), .ref (gt)])), (pa, .inl (cI, nn, .inl (fun j => nI ((up1 (cp_ P P2 i) (i) (P2 (i))) j)))), (ma, .inl (cI, nn, .inl (fun j => nI ((cp_ M M2 i) j)))), (p2, .inr (5, [iN (nn), iN (kk2), .ref (pa2), .ref (ma2), .ref (rt2), .ref (gt2)])), (pa2, .inl (cI, nn, .inl (fun j => nI (P2 j)))), (ma2, .inl (cI, nn, .inl (fun j => nI (M2 j))))]) 1 0 dX7_copyFrom_29 rfl rfl (by first | decide | omega) (by omega) rfl ?_
          refine gw_aload_n C 1 dX7_copyFrom_30 rfl rfl ?_
          refine gw_get C 0 3 in_X7_copyFrom_X7 dX7_copyFrom_31 lk_X7_copyFrom_40 rfl rfl (by decide) rfl rfl ?_
          refine gw_iload_n C 0 dX7_copyFrom_34 rfl rfl ?_
          refine gw_aload_n C 2 dX7_copyFrom_35 rfl rfl ?_
          refine gw_get C 3 3 in_X7_copyFrom_X7 dX7_copyFrom_36 lk_X7_copyFrom_40 rfl rfl (by decide) rfl rfl ?_
          refine gw_iload_n C 0 dX7_copyFrom_39 rfl rfl ?_
          refine gw_ild C (v := nI (M2 (i))) 5 0 dX7_copyFrom_40 rfl rfl (by first | decide | omega) (by omega) rfl ?_
          refine gw_istN C (ws2 := [(p, .inr (5, [iN (nn), iN (kk), .ref (pa), .ref (ma), .ref (rt), .ref (gt)])), (pa, .inl (cI, nn, .inl (fun j => nI ((up1 (cp_ P P2 i) (i) (P2 (i))) j)))), (ma, .inl (cI, nn, .inl (fun j => nI ((up1 (cp_ M M2 i) (i) (M2 (i))) j)))), (p2, .inr (5, [iN (nn), iN (kk2), .ref (pa2), .ref (ma2), .ref (rt2), .ref (gt2)])), (pa2, .inl (cI, nn, .inl (fun j => nI (P2 j)))), (ma2, .inl (cI, nn, .inl (fun j => nI (M2 j))))]) 2 0 dX7_copyFrom_41 rfl rfl (by first | decide | omega) (by omega) rfl ?_
          refine gw_iinc C (v := nI (i + 1)) (lv2 := [(2, iN (i + 1)), (0, .ref (p)), (1, .ref (p2))]) 0 dX7_copyFrom_42 rfl (nI_add _ _) (by omega) rfl ?_
          refine gw_goto C 2 dX7_copyFrom_45 (by decide) ?_
          refine gw_lv (lv2 := [(2, iN (i + 1)), (0, .ref (p)), (1, .ref (p2))]) [0, 1, 2] rfl ?_
          exact ihi (i + 1) (by omega)
  refine gw_lv (lv2 := [(2, iN (0)), (0, .ref (p)), (1, .ref (p2))]) [0, 1, 2] rfl ?_
  exact lp (nn - 0) 0 (by omega)
def cu_put (n k a b c : Nat) (S : (Nat → Nat) × (Nat → Nat)) : (Nat → Nat) × (Nat → Nat) := if a < n ∧ b < n ∧ c < k then (up1 S.1 a b, up1 S.2 a c) else S
theorem cu_isn_1 {x l : Nat} (h : ¬ cu_isn x l = 0) : x < l := by
  rw [cu_isn] at h; split at h; assumption; exact absurd rfl h
theorem cu_isn_0 {x l : Nat} (h : cu_isn x l = 0) : ¬ x < l := by
  rw [cu_isn] at h; split at h; exact absurd h (by decide); assumption
theorem cu_isn_2 (x l : Nat) : cu_isn x l < 2 := by rw [cu_isn]; split <;> decide
set_option maxHeartbeats 4000000 in
set_option maxRecDepth 100000 in
theorem c_pput (l : Launch) (D : va_G) (cI cB cS cJ cF cG : ClassId) (zz : (Nat → Prop) → State → Heap → Prop) (hz : gw_zT zz) (p pa ma rt gt nn kk : Nat) (P M : Nat → Nat) (a b c : Nat) (hn : nn ≤ 12) (hk : kk ≤ 3) (ha : a < 2 ^ 32) (hb : b < 2 ^ 32) (hc : c < 2 ^ 32) : gw_CI (S := (Nat → Nat) × (Nat → Nat)) l yX7_put wsX7_put 1 21 0 0 D (mo_ty cI cB cS cJ cF cG) zz (pc_ws cI p pa ma rt gt nn kk (P) (M)) [.ref p, iN a, iN b, iN c] (fun r u => r = nI (if a < nn ∧ b < nn ∧ c < kk then 1 else 0) ∧ u = cu_put nn kk a b c (P, M)) (fun u => pc_ws cI p pa ma rt gt nn kk (u.1) (u.2)) := by
  refine gw_CI.of (cc := cX7_put) (maxL := 4) (rt := .boolean) hz (by decide) rfl (Nat.le_of_ble_eq_true rfl) ?_
  intro K C hkl hkn hkR hkD hmn ret
  have C : gw_x K cX7_put RX7 wsX7_put (mo_ty cI cB cS cJ cF cG) zz := C
  subst hkl hkD
  refine gw_iload_n C 1 dX7_put_0 rfl rfl ?_
  refine gw_aload_n C 0 dX7_put_1 rfl rfl ?_
  refine gw_get C 0 0 in_X7_put_X7 dX7_put_2 lk_X7_put_9 rfl rfl (by decide) rfl rfl ?_
  refine gw_allSI (n := 2) C (c_isNumber (kl K) (kD K) _ zz hz _ a nn (by omega) (by omega)) gX7_put_X7_isNumber rfl (by decide +kernel) dX7_put_5 (by rw [hkR]; decide) (by rw [hkR]; decide) rfl (Nat.le_of_ble_eq_true rfl) rfl (fun rv v hv => ?_)
  subst hv
  have i2 := cu_isn_2 a nn
  refine gw_if_eq C 33 dX7_put_8 (by decide) (by omega) (fun h70 => ?_) (fun h70 => ?_)
  ·
    refine gw_iconst C 0 dX7_put_33 (by decide) ?_
    exact ret (P, M) dX7_put_34 rfl ⟨by rw [if_neg (by have := cu_isn_0 h70; omega)], by rw [cu_put, if_neg (by have := cu_isn_0 h70; omega)]⟩ rfl (Nat.le_refl 0) (Nat.le_refl 0)
  ·
    refine gw_iload_n C 2 dX7_put_11 rfl rfl ?_
    refine gw_aload_n C 0 dX7_put_12 rfl rfl ?_
    refine gw_get C 0 0 in_X7_put_X7 dX7_put_13 lk_X7_put_9 rfl rfl (by decide) rfl rfl ?_
    refine gw_allSI (n := 2) C (c_isNumber (kl K) (kD K) _ zz hz _ b nn (by omega) (by omega)) gX7_put_X7_isNumber rfl (by decide +kernel) dX7_put_16 (by rw [hkR]; decide) (by rw [hkR]; decide) rfl (Nat.le_of_ble_eq_true rfl) rfl (fun rv v hv => ?_)
    subst hv
    have i2 := cu_isn_2 b nn
    refine gw_if_eq C 33 dX7_put_19 (by decide) (by omega) (fun h71 => ?_) (fun h71 => ?_)
    ·
      refine gw_iconst C 0 dX7_put_33 (by decide) ?_
      exact ret (P, M) dX7_put_34 rfl ⟨by rw [if_neg (by have := cu_isn_0 h71; omega)], by rw [cu_put, if_neg (by have := cu_isn_0 h71; omega)]⟩ rfl (Nat.le_refl 0) (Nat.le_refl 0)
    ·
      refine gw_iload_n C 3 dX7_put_22 rfl rfl ?_
      refine gw_aload_n C 0 dX7_put_23 rfl rfl ?_
      refine gw_get C 0 1 in_X7_put_X7 dX7_put_24 lk_X7_put_15 rfl rfl (by decide) rfl rfl ?_
      refine gw_allSI (n := 2) C (c_isNumber (kl K) (kD K) _ zz hz _ c kk (by omega) (by omega)) gX7_put_X7_isNumber rfl (by decide +kernel) dX7_put_27 (by rw [hkR]; decide) (by rw [hkR]; decide) rfl (Nat.le_of_ble_eq_true rfl) rfl (fun rv v hv => ?_)
      subst hv
      have i2 := cu_isn_2 c kk
      refine gw_if_ne C 35 dX7_put_30 (by decide) (by omega) (fun h72 => ?_) (fun h72 => ?_)
      ·
        have q1 := cu_isn_1 h70
        have q2 := cu_isn_1 h71
        have q3 := cu_isn_1 h72
        refine gw_aload_n C 0 dX7_put_35 rfl rfl ?_
        refine gw_get C 0 2 in_X7_put_X7 dX7_put_36 lk_X7_put_37 rfl rfl (by decide) rfl rfl ?_
        refine gw_iload_n C 1 dX7_put_39 rfl rfl ?_
        refine gw_iload_n C 2 dX7_put_40 rfl rfl ?_
        refine gw_istN C (ws2 := [(p, .inr (5, [iN (nn), iN (kk), .ref (pa), .ref (ma), .ref (rt), .ref (gt)])), (pa, .inl (cI, nn, .inl (fun j => nI ((up1 P (a) (b)) j)))), (ma, .inl (cI, nn, .inl (fun j => nI (M j))))]) 1 0 dX7_put_41 rfl rfl (by first | decide | omega) (by omega) rfl ?_
        refine gw_aload_n C 0 dX7_put_42 rfl rfl ?_
        refine gw_get C 0 3 in_X7_put_X7 dX7_put_43 lk_X7_put_40 rfl rfl (by decide) rfl rfl ?_
        refine gw_iload_n C 1 dX7_put_46 rfl rfl ?_
        refine gw_iload_n C 3 dX7_put_47 rfl rfl ?_
        refine gw_istN C (ws2 := [(p, .inr (5, [iN (nn), iN (kk), .ref (pa), .ref (ma), .ref (rt), .ref (gt)])), (pa, .inl (cI, nn, .inl (fun j => nI ((up1 P (a) (b)) j)))), (ma, .inl (cI, nn, .inl (fun j => nI ((up1 M (a) (c)) j))))]) 2 0 dX7_put_48 rfl rfl (by first | decide | omega) (by omega) rfl ?_
        refine gw_iconst C 1 dX7_put_49 (by decide) ?_
        exact ret (up1 P a b, up1 M a c) dX7_put_50 rfl ⟨by rw [if_pos ⟨q1, q2, q3⟩], by rw [cu_put, if_pos ⟨q1, q2, q3⟩]⟩ rfl (Nat.le_refl 0) (Nat.le_refl 0)
      ·
        refine gw_iconst C 0 dX7_put_33 (by decide) ?_
        exact ret (P, M) dX7_put_34 rfl ⟨by rw [if_neg (by have := cu_isn_0 h72; omega)], by rw [cu_put, if_neg (by have := cu_isn_0 h72; omega)]⟩ rfl (Nat.le_refl 0) (Nat.le_refl 0)
set_option maxHeartbeats 4000000 in
set_option maxRecDepth 100000 in
theorem c_pdesc (l : Launch) (D : va_G) (cI cB cS cJ cF cG : ClassId) (zz : (Nat → Prop) → State → Heap → Prop) (hz : gw_zT zz) (p pa ma rt gt nn kk : Nat) (P M : Nat → Nat) (a : Nat) (hn : nn ≤ 12) (ha : a < 2 ^ 32) : gw_CI (S := Unit) l yX7_describe wsX7_describe 1 21 0 0 D (mo_ty cI cB cS cJ cF cG) zz (pc_ws cI p pa ma rt gt nn kk (P) (M)) [.ref p, iN a] (fun r _ => r = nI (if a < nn then kk * P a + M a else 4294967295)) (fun _ => pc_ws cI p pa ma rt gt nn kk (P) (M)) := by
  refine gw_CI.of (cc := cX7_describe) (maxL := 2) (rt := .int) hz (by decide) rfl (Nat.le_of_ble_eq_true rfl) ?_
  intro K C hkl hkn hkR hkD hmn ret
  have C : gw_x K cX7_describe RX7 wsX7_describe (mo_ty cI cB cS cJ cF cG) zz := C
  subst hkl hkD
  refine gw_iload_n C 1 dX7_describe_0 rfl rfl ?_
  refine gw_aload_n C 0 dX7_describe_1 rfl rfl ?_
  refine gw_get C 0 0 in_X7_describe_X7 dX7_describe_2 lk_X7_describe_9 rfl rfl (by decide) rfl rfl ?_
  refine gw_allSI (n := 2) C (c_isNumber (kl K) (kD K) _ zz hz _ a nn (by omega) (by omega)) gX7_describe_X7_isNumber rfl (by decide +kernel) dX7_describe_5 (by rw [hkR]; decide) (by rw [hkR]; decide) rfl (Nat.le_of_ble_eq_true rfl) rfl (fun rv v hv => ?_)
  subst hv
  have i2 := cu_isn_2 a nn
  refine gw_if_eq C 32 dX7_describe_8 (by decide) (by omega) (fun h73 => ?_) (fun h73 => ?_)
  ·
    refine gw_iconst C 4294967295 dX7_describe_32 (by decide) ?_
    exact ret () dX7_describe_33 rfl (by rw [if_neg (cu_isn_0 h73)]) rfl (Nat.le_refl 0) (Nat.le_refl 0)
  ·
    have q1 := cu_isn_1 h73
    refine gw_aload_n C 0 dX7_describe_11 rfl rfl ?_
    refine gw_get C 0 1 in_X7_describe_X7 dX7_describe_12 lk_X7_describe_15 rfl rfl (by decide) rfl rfl ?_
    refine gw_aload_n C 0 dX7_describe_15 rfl rfl ?_
    refine gw_get C 0 2 in_X7_describe_X7 dX7_describe_16 lk_X7_describe_37 rfl rfl (by decide) rfl rfl ?_
    refine gw_iload_n C 1 dX7_describe_19 rfl rfl ?_
    refine gw_ild C (v := nI (P (a))) 1 0 dX7_describe_20 rfl rfl (by first | decide | omega) (by omega) rfl ?_
    refine gw_imul C dX7_describe_21 ?_
    refine gw_aload_n C 0 dX7_describe_22 rfl rfl ?_
    refine gw_get C 0 3 in_X7_describe_X7 dX7_describe_23 lk_X7_describe_40 rfl rfl (by decide) rfl rfl ?_
    refine gw_iload_n C 1 dX7_describe_26 rfl rfl ?_
    refine gw_ild C (v := nI (M (a))) 2 0 dX7_describe_27 rfl rfl (by first | decide | omega) (by omega) rfl ?_
    refine gw_iadd C dX7_describe_28 ?_
    refine gw_goto C 33 dX7_describe_29 (by decide) ?_
    exact ret () dX7_describe_33 rfl (by rw [if_pos q1]) rfl (Nat.le_refl 0) (Nat.le_refl 0)
def ah_ (P M : Nat → Nat) : Nat → Nat
  | 0 => 1
  | i + 1 => if ah_ P M i = 1 ∧ P i = i ∧ M i = 0 then 1 else 0
theorem ah_0 (P M : Nat → Nat) {i : Nat} (h : ah_ P M i = 0) : ∀ k, ah_ P M (i + k) = 0 := by
  intro k
  induction k with
  | zero => exact h
  | succ k ih => rw [Nat.add_succ, ah_, ih, if_neg (by omega)]
set_option maxHeartbeats 4000000 in
set_option maxRecDepth 100000 in
theorem c_pathome (l : Launch) (D : va_G) (cI cB cS cJ cF cG : ClassId) (zz : (Nat → Prop) → State → Heap → Prop) (hz : gw_zT zz) (p pa ma rt gt nn kk : Nat) (P M : Nat → Nat) (hn : nn ≤ 12) (hP : ∀ j, j < nn → P j < nn) (hM : ∀ j, j < nn → M j < 3) : gw_CI (S := Unit) l yX7_atHome wsX7_atHome 0 0 0 0 D (mo_ty cI cB cS cJ cF cG) zz (pc_ws cI p pa ma rt gt nn kk (P) (M)) [.ref p] (fun r _ => r = nI (ah_ P M nn)) (fun _ => pc_ws cI p pa ma rt gt nn kk (P) (M)) := by
  refine gw_CI.of (cc := cX7_atHome) (maxL := 2) (rt := .boolean) hz (by decide) rfl (Nat.le_of_ble_eq_true rfl) ?_
  intro K C hkl hkn hkR hkD hmn ret
  have C : gw_x K cX7_atHome RX7 wsX7_atHome (mo_ty cI cB cS cJ cF cG) zz := C
  subst hkl hkD
  refine gw_iconst C 0 dX7_atHome_0 (by decide) ?_
  refine gw_istore_n C (lv2 := [(1, iN (0)), (0, .ref (p))]) dX7_atHome_1 rfl (by omega) rfl ?_
  have lp : ∀ ni i : Nat, i + ni = nn → (ah_ P M i = 1) → gw_G K ([(p, .inr (5, [iN (nn), iN (kk), .ref (pa), .ref (ma), .ref (rt), .ref (gt)])), (pa, .inl (cI, nn, .inl (fun j => nI (P j)))), (ma, .inl (cI, nn, .inl (fun j => nI (M j))))]) 0 0 2 [(1, iN (i)), (0, .ref (p))] [] := by
    intro ni
    induction ni with
    | zero =>
      intro i hii hyi
      refine gw_iload_n C 0 dX7_atHome_2 rfl rfl ?_
      refine gw_aload_n C 1 dX7_atHome_3 rfl rfl ?_
      refine gw_get C 0 0 in_X7_atHome_X7 dX7_atHome_4 lk_X7_atHome_9 rfl rfl (by decide) rfl rfl ?_
      refine gw_icmp_ge C 37 dX7_atHome_7 (by decide) (by omega) (by omega) (fun h74 => ?_) (fun h74 => ?_)
      ·
        refine gw_iconst C 1 dX7_atHome_37 (by decide) ?_
        exact ret () dX7_atHome_38 rfl (by rw [← show i = nn by omega, hyi]) rfl (Nat.le_refl 0) (Nat.le_refl 0)
      ·
        exact absurd h74 (by omega)
    | succ ni ihi =>
      intro i hii hyi
      refine gw_iload_n C 0 dX7_atHome_2 rfl rfl ?_
      refine gw_aload_n C 1 dX7_atHome_3 rfl rfl ?_
      refine gw_get C 0 0 in_X7_atHome_X7 dX7_atHome_4 lk_X7_atHome_9 rfl rfl (by decide) rfl rfl ?_
      refine gw_icmp_ge C 37 dX7_atHome_7 (by decide) (by omega) (by omega) (fun h75 => ?_) (fun h75 => ?_)
      ·
        exact absurd h75 (by omega)
      ·
        have q1 := hP i (by omega)
        have q2 := hM i (by omega)
        refine gw_aload_n C 1 dX7_atHome_10 rfl rfl ?_
        refine gw_get C 0 2 in_X7_atHome_X7 dX7_atHome_11 lk_X7_atHome_37 rfl rfl (by decide) rfl rfl ?_
        refine gw_iload_n C 0 dX7_atHome_14 rfl rfl ?_
        refine gw_ild C (v := nI (P (i))) 1 0 dX7_atHome_15 rfl rfl (by first | decide | omega) (by omega) rfl ?_
        refine gw_iload_n C 0 dX7_atHome_16 rfl rfl ?_
        refine gw_icmp_ne C 29 dX7_atHome_17 (by decide) (by omega) (by omega) (fun h76 => ?_) (fun h76 => ?_)
        ·
          refine gw_iconst C 0 dX7_atHome_29 (by decide) ?_
          have z : ah_ P M (i + 1) = 0 := by rw [ah_, if_neg (by omega)]
          have z2 := ah_0 P M z (nn - (i + 1))
          rw [show i + 1 + (nn - (i + 1)) = nn by omega] at z2
          exact ret () dX7_atHome_30 rfl (by rw [z2]) rfl (Nat.le_refl 0) (Nat.le_refl 0)
        ·
          refine gw_aload_n C 1 dX7_atHome_20 rfl rfl ?_
          refine gw_get C 0 3 in_X7_atHome_X7 dX7_atHome_21 lk_X7_atHome_40 rfl rfl (by decide) rfl rfl ?_
          refine gw_iload_n C 0 dX7_atHome_24 rfl rfl ?_
          refine gw_ild C (v := nI (M (i))) 2 0 dX7_atHome_25 rfl rfl (by first | decide | omega) (by omega) rfl ?_
          refine gw_if_eq C 31 dX7_atHome_26 (by decide) (by omega) (fun h77 => ?_) (fun h77 => ?_)
          ·
            refine gw_iinc C (v := nI (i + 1)) (lv2 := [(1, iN (i + 1)), (0, .ref (p))]) 0 dX7_atHome_31 rfl (nI_add _ _) (by omega) rfl ?_
            refine gw_goto C 2 dX7_atHome_34 (by decide) ?_
            refine gw_lv (lv2 := [(1, iN (i + 1)), (0, .ref (p))]) [0, 1] rfl ?_
            exact ihi (i + 1) (by omega) (by rw [ah_, if_pos ⟨hyi, by omega, by omega⟩])
          ·
            refine gw_iconst C 0 dX7_atHome_29 (by decide) ?_
            have z : ah_ P M (i + 1) = 0 := by rw [ah_, if_neg (by omega)]
            have z2 := ah_0 P M z (nn - (i + 1))
            rw [show i + 1 + (nn - (i + 1)) = nn by omega] at z2
            exact ret () dX7_atHome_30 rfl (by rw [z2]) rfl (Nat.le_refl 0) (Nat.le_refl 0)
  refine gw_lv (lv2 := [(1, iN (0)), (0, .ref (p))]) [0, 1] rfl ?_
  exact lp (nn - 0) 0 (by omega) rfl
set_option maxHeartbeats 4000000 in
set_option maxRecDepth 100000 in
theorem c_pall (l : Launch) (D : va_G) (cI cB cS cJ cF cG : ClassId) (zz : (Nat → Prop) → State → Heap → Prop) (hz : gw_zT zz) (p pa ma rt gt nn kk : Nat) (P M : Nat → Nat) (hn : nn ≤ 12) (hP : ∀ j, j < nn → P j < nn) : gw_CI (S := Unit) l yX7_allThere wsX7_allThere 0 0 0 0 D (mo_ty cI cB cS cJ cF cG) zz (pc_ws cI p pa ma rt gt nn kk (P) (M)) [.ref p] (fun r _ => r = nI (if mo_thr P nn = 2 ^ nn - 1 then 1 else 0)) (fun _ => pc_ws cI p pa ma rt gt nn kk (P) (M)) := by
  refine gw_CI.of (cc := cX7_allThere) (maxL := 3) (rt := .boolean) hz (by decide) rfl (Nat.le_of_ble_eq_true rfl) ?_
  intro K C hkl hkn hkR hkD hmn ret
  have C : gw_x K cX7_allThere RX7 wsX7_allThere (mo_ty cI cB cS cJ cF cG) zz := C
  subst hkl hkD
  refine gw_iconst C 0 dX7_allThere_0 (by decide) ?_
  refine gw_istore_n C (lv2 := [(1, iN (0)), (0, .ref (p))]) dX7_allThere_1 rfl (by omega) rfl ?_
  refine gw_iconst C 0 dX7_allThere_2 (by decide) ?_
  refine gw_istore_n C (lv2 := [(2, iN (0)), (1, iN (0)), (0, .ref (p))]) dX7_allThere_3 rfl (by omega) rfl ?_
  have lp : ∀ ni i : Nat, i + ni = nn → gw_G K ([(p, .inr (5, [iN (nn), iN (kk), .ref (pa), .ref (ma), .ref (rt), .ref (gt)])), (pa, .inl (cI, nn, .inl (fun j => nI (P j)))), (ma, .inl (cI, nn, .inl (fun j => nI (M j))))]) 0 0 4 [(2, iN (i)), (1, iN (mo_thr P i)), (0, .ref (p))] [] := by
    intro ni
    induction ni with
    | zero =>
      intro i hii
      refine gw_iload_n C 0 dX7_allThere_4 rfl rfl ?_
      refine gw_aload_n C 2 dX7_allThere_5 rfl rfl ?_
      refine gw_get C 0 0 in_X7_allThere_X7 dX7_allThere_6 lk_X7_allThere_9 rfl rfl (by decide) rfl rfl ?_
      refine gw_icmp_ge C 29 dX7_allThere_9 (by decide) (by omega) (by omega) (fun h78 => ?_) (fun h78 => ?_)
      ·
        rw [show i = nn by omega]
        have z1 : mo_thr P nn < 2 ^ nn := mo_thr_lt _ nn nn hP nn (Nat.le_refl _)
        have z2 : 2 ^ nn ≤ 2 ^ 12 := Nat.pow_le_pow_right (by decide) hn
        have z3 := Nat.two_pow_pos nn
        refine gw_iload_n C 1 dX7_allThere_29 rfl rfl ?_
        refine gw_iconst C 1 dX7_allThere_30 (by decide) ?_
        refine gw_aload_n C 2 dX7_allThere_31 rfl rfl ?_
        refine gw_get C 0 0 in_X7_allThere_X7 dX7_allThere_32 lk_X7_allThere_9 rfl rfl (by decide) rfl rfl ?_
        refine gw_ishl C dX7_allThere_35 (by omega) (by exact gw_p2 (by omega)) ?_
        refine gw_iconst C 1 dX7_allThere_36 (by decide) ?_
        refine gw_isub C dX7_allThere_37 (by omega) ?_
        refine gw_icmp_ne C 45 dX7_allThere_38 (by decide) (by omega) (by omega) (fun h79 => ?_) (fun h79 => ?_)
        ·
          refine gw_iconst C 0 dX7_allThere_45 (by decide) ?_
          exact ret () dX7_allThere_46 rfl (by rw [if_neg (by rw [Nat.one_mul] at h79; exact h79)]) rfl (Nat.le_refl 0) (Nat.le_refl 0)
        ·
          refine gw_iconst C 1 dX7_allThere_41 (by decide) ?_
          refine gw_goto C 46 dX7_allThere_42 (by decide) ?_
          exact ret () dX7_allThere_46 rfl (by rw [if_pos (by rw [Nat.one_mul] at h79; exact h79)]) rfl (Nat.le_refl 0) (Nat.le_refl 0)
      ·
        exact absurd h78 (by omega)
    | succ ni ihi =>
      intro i hii
      refine gw_iload_n C 0 dX7_allThere_4 rfl rfl ?_
      refine gw_aload_n C 2 dX7_allThere_5 rfl rfl ?_
      refine gw_get C 0 0 in_X7_allThere_X7 dX7_allThere_6 lk_X7_allThere_9 rfl rfl (by decide) rfl rfl ?_
      refine gw_icmp_ge C 29 dX7_allThere_9 (by decide) (by omega) (by omega) (fun h80 => ?_) (fun h80 => ?_)
      ·
        exact absurd h80 (by omega)
      ·
        have q1 := hP i (by omega)
        refine gw_iload_n C 1 dX7_allThere_12 rfl rfl ?_
        refine gw_iconst C 1 dX7_allThere_13 (by decide) ?_
        refine gw_aload_n C 2 dX7_allThere_14 rfl rfl ?_
        refine gw_get C 0 2 in_X7_allThere_X7 dX7_allThere_15 lk_X7_allThere_37 rfl rfl (by decide) rfl rfl ?_
        refine gw_iload_n C 0 dX7_allThere_18 rfl rfl ?_
        refine gw_ild C (v := nI (P (i))) 1 0 dX7_allThere_19 rfl rfl (by first | decide | omega) (by omega) rfl ?_
        refine gw_ishl C dX7_allThere_20 (by omega) (by exact gw_p2 (by omega)) ?_
        refine gw_ior C dX7_allThere_21 ?_
        refine gw_istore_n C (lv2 := [(1, iN ((mo_thr P i) ||| ((1) * 2 ^ (P (i))))), (2, iN (i)), (0, .ref (p))]) dX7_allThere_22 rfl (by omega) rfl ?_
        refine gw_iinc C (v := nI (i + 1)) (lv2 := [(2, iN (i + 1)), (1, iN ((mo_thr P i) ||| ((1) * 2 ^ (P (i))))), (0, .ref (p))]) 1 dX7_allThere_23 rfl (nI_add _ _) (by omega) rfl ?_
        refine gw_goto C 4 dX7_allThere_26 (by decide) ?_
        refine gw_lv (lv2 := [(2, iN (i + 1)), (1, iN ((mo_thr P i) ||| ((1) * 2 ^ (P (i))))), (0, .ref (p))]) [0, 1, 2] rfl ?_
        exact ihi (i + 1) (by omega)
  refine gw_lv (lv2 := [(2, iN (0)), (1, iN (0)), (0, .ref (p))]) [0, 1, 2] rfl ?_
  exact lp (nn - 0) 0 (by omega)
set_option maxHeartbeats 4000000 in
set_option maxRecDepth 100000 in
theorem c_pmarks (l : Launch) (D : va_G) (cI cB cS cJ cF cG : ClassId) (zz : (Nat → Prop) → State → Heap → Prop) (hz : gw_zT zz) (p pa ma rt gt nn kk : Nat) (P M : Nat → Nat) (hn : nn ≤ 12) (hk : 2 ≤ kk) (hk3 : kk ≤ 3) (hM : ∀ j, j < nn → M j < kk) : gw_CI (S := Unit) l yX7_marksCancel wsX7_marksCancel 0 0 0 0 D (mo_ty cI cB cS cJ cF cG) zz (pc_ws cI p pa ma rt gt nn kk (P) (M)) [.ref p] (fun r _ => r = nI (if mo_sum M nn % kk = 0 then 1 else 0)) (fun _ => pc_ws cI p pa ma rt gt nn kk (P) (M)) := by
  refine gw_CI.of (cc := cX7_marksCancel) (maxL := 3) (rt := .boolean) hz (by decide) rfl (Nat.le_of_ble_eq_true rfl) ?_
  intro K C hkl hkn hkR hkD hmn ret
  have C : gw_x K cX7_marksCancel RX7 wsX7_marksCancel (mo_ty cI cB cS cJ cF cG) zz := C
  subst hkl hkD
  refine gw_iconst C 0 dX7_marksCancel_0 (by decide) ?_
  refine gw_istore_n C (lv2 := [(1, iN (0)), (0, .ref (p))]) dX7_marksCancel_1 rfl (by omega) rfl ?_
  refine gw_iconst C 0 dX7_marksCancel_2 (by decide) ?_
  refine gw_istore_n C (lv2 := [(2, iN (0)), (1, iN (0)), (0, .ref (p))]) dX7_marksCancel_3 rfl (by omega) rfl ?_
  have lp : ∀ ni i : Nat, i + ni = nn → gw_G K ([(p, .inr (5, [iN (nn), iN (kk), .ref (pa), .ref (ma), .ref (rt), .ref (gt)])), (pa, .inl (cI, nn, .inl (fun j => nI (P j)))), (ma, .inl (cI, nn, .inl (fun j => nI (M j))))]) 0 0 4 [(2, iN (i)), (1, iN (mo_sum M i)), (0, .ref (p))] [] := by
    intro ni
    induction ni with
    | zero =>
      intro i hii
      refine gw_iload_n C 0 dX7_marksCancel_4 rfl rfl ?_
      refine gw_aload_n C 2 dX7_marksCancel_5 rfl rfl ?_
      refine gw_get C 0 0 in_X7_marksCancel_X7 dX7_marksCancel_6 lk_X7_marksCancel_9 rfl rfl (by decide) rfl rfl ?_
      refine gw_icmp_ge C 27 dX7_marksCancel_9 (by decide) (by omega) (by omega) (fun h81 => ?_) (fun h81 => ?_)
      ·
        rw [show i = nn by omega]
        have z1 := mo_sum_le M 3 nn (fun j hj => by have := hM j hj; omega) nn (Nat.le_refl _)
        have z2 := Nat.mod_lt (mo_sum M nn) (show 0 < kk by omega)
        refine gw_iload_n C 1 dX7_marksCancel_27 rfl rfl ?_
        refine gw_aload_n C 2 dX7_marksCancel_28 rfl rfl ?_
        refine gw_get C 0 1 in_X7_marksCancel_X7 dX7_marksCancel_29 lk_X7_marksCancel_15 rfl rfl (by decide) rfl rfl ?_
        refine gw_irem C dX7_marksCancel_32 (by omega) (by omega) (by omega) ?_
        refine gw_if_ne C 40 dX7_marksCancel_33 (by decide) (by omega) (fun h82 => ?_) (fun h82 => ?_)
        ·
          refine gw_iconst C 0 dX7_marksCancel_40 (by decide) ?_
          exact ret () dX7_marksCancel_41 rfl (by rw [if_neg h82]) rfl (Nat.le_refl 0) (Nat.le_refl 0)
        ·
          refine gw_iconst C 1 dX7_marksCancel_36 (by decide) ?_
          refine gw_goto C 41 dX7_marksCancel_37 (by decide) ?_
          exact ret () dX7_marksCancel_41 rfl (by rw [if_pos h82]) rfl (Nat.le_refl 0) (Nat.le_refl 0)
      ·
        exact absurd h81 (by omega)
    | succ ni ihi =>
      intro i hii
      refine gw_iload_n C 0 dX7_marksCancel_4 rfl rfl ?_
      refine gw_aload_n C 2 dX7_marksCancel_5 rfl rfl ?_
      refine gw_get C 0 0 in_X7_marksCancel_X7 dX7_marksCancel_6 lk_X7_marksCancel_9 rfl rfl (by decide) rfl rfl ?_
      refine gw_icmp_ge C 27 dX7_marksCancel_9 (by decide) (by omega) (by omega) (fun h83 => ?_) (fun h83 => ?_)
      ·
        exact absurd h83 (by omega)
      ·
        refine gw_iload_n C 1 dX7_marksCancel_12 rfl rfl ?_
        refine gw_aload_n C 2 dX7_marksCancel_13 rfl rfl ?_
        refine gw_get C 0 3 in_X7_marksCancel_X7 dX7_marksCancel_14 lk_X7_marksCancel_40 rfl rfl (by decide) rfl rfl ?_
        refine gw_iload_n C 0 dX7_marksCancel_17 rfl rfl ?_
        refine gw_ild C (v := nI (M (i))) 2 0 dX7_marksCancel_18 rfl rfl (by first | decide | omega) (by omega) rfl ?_
        refine gw_iadd C dX7_marksCancel_19 ?_
        refine gw_istore_n C (lv2 := [(1, iN ((mo_sum M i) + (M (i)))), (2, iN (i)), (0, .ref (p))]) dX7_marksCancel_20 rfl (by omega) rfl ?_
        refine gw_iinc C (v := nI (i + 1)) (lv2 := [(2, iN (i + 1)), (1, iN ((mo_sum M i) + (M (i)))), (0, .ref (p))]) 1 dX7_marksCancel_21 rfl (nI_add _ _) (by omega) rfl ?_
        refine gw_goto C 4 dX7_marksCancel_24 (by decide) ?_
        refine gw_lv (lv2 := [(2, iN (i + 1)), (1, iN ((mo_sum M i) + (M (i)))), (0, .ref (p))]) [0, 1, 2] rfl ?_
        exact ihi (i + 1) (by omega)
  refine gw_lv (lv2 := [(2, iN (0)), (1, iN (0)), (0, .ref (p))]) [0, 1, 2] rfl ?_
  exact lp (nn - 0) 0 (by omega)
def od_i (P : Nat → Nat) (i b : Nat) : Nat → Nat
  | 0 => b
  | s + 1 => if P (i + 1 + s) < P i then (if od_i P i b s = 0 then 1 else 0) else od_i P i b s
def od_ (P : Nat → Nat) (nn : Nat) : Nat → Nat
  | 0 => 0
  | i + 1 => od_i P i (od_ P nn i) (nn - (i + 1))
theorem od_i_2 (P : Nat → Nat) (i : Nat) {b : Nat} (hb : b < 2) : ∀ s, od_i P i b s < 2
  | 0 => hb
  | s + 1 => by rw [od_i]; split; split <;> decide; exact od_i_2 P i hb s
theorem od_2 (P : Nat → Nat) (nn : Nat) : ∀ i, od_ P nn i < 2
  | 0 => (by decide : 0 < 2)
  | i + 1 => od_i_2 P i (od_2 P nn i) _
set_option maxHeartbeats 4000000 in
set_option maxRecDepth 100000 in
theorem c_podd (l : Launch) (D : va_G) (cI cB cS cJ cF cG : ClassId) (zz : (Nat → Prop) → State → Heap → Prop) (hz : gw_zT zz) (p pa ma rt gt nn kk : Nat) (P M : Nat → Nat) (hn : nn ≤ 12) (hP : ∀ j, j < nn → P j < nn) : gw_CI (S := Unit) l yX7_oddlySwapped wsX7_oddlySwapped 0 0 0 0 D (mo_ty cI cB cS cJ cF cG) zz (pc_ws cI p pa ma rt gt nn kk (P) (M)) [.ref p] (fun r _ => r = nI (od_ P nn nn)) (fun _ => pc_ws cI p pa ma rt gt nn kk (P) (M)) := by
  refine gw_CI.of (cc := cX7_oddlySwapped) (maxL := 4) (rt := .boolean) hz (by decide) rfl (Nat.le_of_ble_eq_true rfl) ?_
  intro K C hkl hkn hkR hkD hmn ret
  have C : gw_x K cX7_oddlySwapped RX7 wsX7_oddlySwapped (mo_ty cI cB cS cJ cF cG) zz := C
  subst hkl hkD
  refine gw_iconst C 0 dX7_oddlySwapped_0 (by decide) ?_
  refine gw_istore_n C (lv2 := [(1, iN (0)), (0, .ref (p))]) dX7_oddlySwapped_1 rfl (by omega) rfl ?_
  refine gw_iconst C 0 dX7_oddlySwapped_2 (by decide) ?_
  refine gw_istore_n C (lv2 := [(2, iN (0)), (1, iN (0)), (0, .ref (p))]) dX7_oddlySwapped_3 rfl (by omega) rfl ?_
  have lp : ∀ ni i : Nat, i + ni = nn → gw_G K ([(p, .inr (5, [iN (nn), iN (kk), .ref (pa), .ref (ma), .ref (rt), .ref (gt)])), (pa, .inl (cI, nn, .inl (fun j => nI (P j)))), (ma, .inl (cI, nn, .inl (fun j => nI (M j))))]) 0 0 4 [(2, iN (i)), (1, iN (od_ P nn i)), (0, .ref (p))] [] := by
    intro ni
    induction ni with
    | zero =>
      intro i hii
      refine gw_iload_n C 0 dX7_oddlySwapped_4 rfl rfl ?_
      refine gw_aload_n C 2 dX7_oddlySwapped_5 rfl rfl ?_
      refine gw_get C 0 0 in_X7_oddlySwapped_X7 dX7_oddlySwapped_6 lk_X7_oddlySwapped_9 rfl rfl (by decide) rfl rfl ?_
      refine gw_icmp_ge C 61 dX7_oddlySwapped_9 (by decide) (by omega) (by omega) (fun h84 => ?_) (fun h84 => ?_)
      ·
        rw [show i = nn by omega]
        have z := od_2 P nn nn
        refine gw_iload_n C 1 dX7_oddlySwapped_61 rfl rfl ?_
        exact ret () dX7_oddlySwapped_62 (by rcases (show od_ P nn nn = 0 ∨ od_ P nn nn = 1 by omega) with e | e <;> rw [e] <;> rfl) rfl rfl (Nat.le_refl 0) (Nat.le_refl 0)
      ·
        exact absurd h84 (by omega)
    | succ ni ihi =>
      intro i hii
      refine gw_iload_n C 0 dX7_oddlySwapped_4 rfl rfl ?_
      refine gw_aload_n C 2 dX7_oddlySwapped_5 rfl rfl ?_
      refine gw_get C 0 0 in_X7_oddlySwapped_X7 dX7_oddlySwapped_6 lk_X7_oddlySwapped_9 rfl rfl (by decide) rfl rfl ?_
      refine gw_icmp_ge C 61 dX7_oddlySwapped_9 (by decide) (by omega) (by omega) (fun h85 => ?_) (fun h85 => ?_)
      ·
        exact absurd h85 (by omega)
      ·
        have b2 := od_2 P nn i
        refine gw_iload_n C 0 dX7_oddlySwapped_12 rfl rfl ?_
        refine gw_iconst C 1 dX7_oddlySwapped_13 (by decide) ?_
        refine gw_iadd C dX7_oddlySwapped_14 ?_
        refine gw_istore_n C (lv2 := [(3, iN ((i) + (1))), (2, iN (i)), (1, iN (od_ P nn i)), (0, .ref (p))]) dX7_oddlySwapped_15 rfl (by omega) rfl ?_
        have lpi : ∀ ns s : Nat, s + ns = nn - (i + 1) → gw_G K ([(p, .inr (5, [iN (nn), iN (kk), .ref (pa), .ref (ma), .ref (rt), .ref (gt)])), (pa, .inl (cI, nn, .inl (fun j => nI (P j)))), (ma, .inl (cI, nn, .inl (fun j => nI (M j))))]) 0 0 16 [(3, iN (i + 1 + s)), (2, iN (i)), (1, iN (od_i P i (od_ P nn i) s)), (0, .ref (p))] [] := by
          intro ns
          induction ns with
          | zero =>
            intro s his
            refine gw_iload_n C 0 dX7_oddlySwapped_16 rfl rfl ?_
            refine gw_aload_n C 3 dX7_oddlySwapped_17 rfl rfl ?_
            refine gw_get C 0 0 in_X7_oddlySwapped_X7 dX7_oddlySwapped_18 lk_X7_oddlySwapped_9 rfl rfl (by decide) rfl rfl ?_
            refine gw_icmp_ge C 55 dX7_oddlySwapped_21 (by decide) (by omega) (by omega) (fun h86 => ?_) (fun h86 => ?_)
            ·
              rw [show s = nn - (i + 1) by omega]
              refine gw_iinc C (v := nI (i + 1)) (lv2 := [(2, iN (i + 1)), (3, iN (i + 1 + (nn - (i + 1)))), (1, iN (od_i P i (od_ P nn i) (nn - (i + 1)))), (0, .ref (p))]) 1 dX7_oddlySwapped_55 rfl (nI_add _ _) (by omega) rfl ?_
              refine gw_goto C 4 dX7_oddlySwapped_58 (by decide) ?_
              refine gw_lv (lv2 := [(2, iN (i + 1)), (1, iN (od_i P i (od_ P nn i) (nn - (i + 1)))), (0, .ref (p))]) [0, 2, 3] rfl ?_
              exact ihi (i + 1) (by omega)
            ·
              exact absurd h86 (by omega)
          | succ ns ihs =>
            intro s his
            refine gw_iload_n C 0 dX7_oddlySwapped_16 rfl rfl ?_
            refine gw_aload_n C 3 dX7_oddlySwapped_17 rfl rfl ?_
            refine gw_get C 0 0 in_X7_oddlySwapped_X7 dX7_oddlySwapped_18 lk_X7_oddlySwapped_9 rfl rfl (by decide) rfl rfl ?_
            refine gw_icmp_ge C 55 dX7_oddlySwapped_21 (by decide) (by omega) (by omega) (fun h87 => ?_) (fun h87 => ?_)
            ·
              exact absurd h87 (by omega)
            ·
              have q1 := hP i (by omega)
              have q2 := hP (i + 1 + s) (by omega)
              have q3 := od_i_2 P i b2 s
              refine gw_aload_n C 3 dX7_oddlySwapped_24 rfl rfl ?_
              refine gw_get C 0 2 in_X7_oddlySwapped_X7 dX7_oddlySwapped_25 lk_X7_oddlySwapped_37 rfl rfl (by decide) rfl rfl ?_
              refine gw_iload_n C 1 dX7_oddlySwapped_28 rfl rfl ?_
              refine gw_ild C (v := nI (P (i))) 1 0 dX7_oddlySwapped_29 rfl rfl (by first | decide | omega) (by omega) rfl ?_
              refine gw_aload_n C 3 dX7_oddlySwapped_30 rfl rfl ?_
              refine gw_get C 0 2 in_X7_oddlySwapped_X7 dX7_oddlySwapped_31 lk_X7_oddlySwapped_37 rfl rfl (by decide) rfl rfl ?_
              refine gw_iload_n C 0 dX7_oddlySwapped_34 rfl rfl ?_
              refine gw_ild C (v := nI (P (i + 1 + s))) 1 0 dX7_oddlySwapped_35 rfl rfl (by first | decide | omega) (by omega) rfl ?_
              refine gw_icmp_le C 49 dX7_oddlySwapped_36 (by decide) (by omega) (by omega) (fun h88 => ?_) (fun h88 => ?_)
              ·
                refine gw_iinc C (v := nI (i + 1 + s + 1)) (lv2 := [(3, iN (i + 1 + s + 1)), (2, iN (i)), (1, iN (od_i P i (od_ P nn i) s)), (0, .ref (p))]) 0 dX7_oddlySwapped_49 rfl (nI_add _ _) (by omega) rfl ?_
                refine gw_goto C 16 dX7_oddlySwapped_52 (by decide) ?_
                refine gw_lv (lv2 := [(3, iN (i + 1 + s + 1)), (2, iN (i)), (1, iN (od_i P i (od_ P nn i) s)), (0, .ref (p))]) [0, 1, 2, 3] rfl ?_
                have q := ihs (s + 1) (by omega)
                rw [od_i, if_neg (by omega)] at q
                exact q
              ·
                refine gw_iload_n C 2 dX7_oddlySwapped_39 rfl rfl ?_
                refine gw_if_ne C 47 dX7_oddlySwapped_40 (by decide) (by omega) (fun h89 => ?_) (fun h89 => ?_)
                ·
                  refine gw_iconst C 0 dX7_oddlySwapped_47 (by decide) ?_
                  refine gw_istore_n C (lv2 := [(1, iN (0)), (3, iN (i + 1 + s)), (2, iN (i)), (0, .ref (p))]) dX7_oddlySwapped_48 rfl (by omega) rfl ?_
                  refine gw_iinc C (v := nI (i + 1 + s + 1)) (lv2 := [(3, iN (i + 1 + s + 1)), (1, iN (0)), (2, iN (i)), (0, .ref (p))]) 1 dX7_oddlySwapped_49 rfl (nI_add _ _) (by omega) rfl ?_
                  refine gw_goto C 16 dX7_oddlySwapped_52 (by decide) ?_
                  refine gw_lv (lv2 := [(3, iN (i + 1 + s + 1)), (2, iN (i)), (1, iN (0)), (0, .ref (p))]) [0, 2, 1, 3] rfl ?_
                  have q := ihs (s + 1) (by omega)
                  rw [od_i, if_pos (by omega), if_neg (by omega)] at q
                  exact q
                ·
                  refine gw_iconst C 1 dX7_oddlySwapped_43 (by decide) ?_
                  refine gw_goto C 48 dX7_oddlySwapped_44 (by decide) ?_
                  refine gw_istore_n C (lv2 := [(1, iN (1)), (3, iN (i + 1 + s)), (2, iN (i)), (0, .ref (p))]) dX7_oddlySwapped_48 rfl (by omega) rfl ?_
                  refine gw_iinc C (v := nI (i + 1 + s + 1)) (lv2 := [(3, iN (i + 1 + s + 1)), (1, iN (1)), (2, iN (i)), (0, .ref (p))]) 1 dX7_oddlySwapped_49 rfl (nI_add _ _) (by omega) rfl ?_
                  refine gw_goto C 16 dX7_oddlySwapped_52 (by decide) ?_
                  refine gw_lv (lv2 := [(3, iN (i + 1 + s + 1)), (2, iN (i)), (1, iN (1)), (0, .ref (p))]) [0, 2, 1, 3] rfl ?_
                  have q := ihs (s + 1) (by omega)
                  rw [od_i, if_pos (by omega), if_pos (by omega)] at q
                  exact q
        refine gw_lv (lv2 := [(3, iN ((i) + (1))), (2, iN (i)), (1, iN (od_ P nn i)), (0, .ref (p))]) [0, 1, 2, 3] rfl ?_
        exact lpi (nn - (i + 1) - 0) 0 (by omega)
  refine gw_lv (lv2 := [(2, iN (0)), (1, iN (0)), (0, .ref (p))]) [0, 1, 2] rfl ?_
  exact lp (nn - 0) 0 (by omega)
set_option maxHeartbeats 4000000 in
set_option maxRecDepth 100000 in
theorem c_pinitC (l : Launch) (D : va_G) (cI cB cS cJ cF cG : ClassId) (zz : (Nat → Prop) → State → Heap → Prop) (hz : gw_zT zz) (p rt gt : Nat) (hzR : ∀ A U H, zz A U H → va_Z "StageCube$Pieces" "CORNER_ROUND" "[I" (.ref rt) A U H) (hzG : ∀ A U H, zz A U H → va_Z "StageCube$Pieces" "TWIST_GAIN" "[I" (.ref gt) A U H) : gw_CV (S := Nat × Nat) l yX7_init wsX7_init 1 21 2 16 D (mo_ty cI cB cS cJ cF cG) zz ([(p, .inr (5, [.int 0, .int 0, .null, .null, .null, .null]))]) [.ref p, iN 1] (fun _ => True) (fun u => pc_ws cI p u.1 u.2 rt gt 8 3 (rs_P (fun _ => 0) 8) (rs_M (fun _ => 0) 8)) := by
  refine gw_CV.of (cc := cX7_init) (maxL := 2) hz (by decide) rfl (Nat.le_of_ble_eq_true rfl) ?_
  intro K C hkl hkn hkR hkD hmn ret
  have C : gw_x K cX7_init RX7 wsX7_init (mo_ty cI cB cS cJ cF cG) zz := C
  subst hkl hkD
  have hmn2 : (kM K).name = "<init>" := hmn
  have zR := hzR _ _ _ C.2.2.2.1
  have zG := hzG _ _ _ C.2.2.2.1
  have hc : (kR K).cells = 2 := by rw [hkR]
  have hs : (kR K).slots = 16 := by rw [hkR]
  refine gw_aload_n C 0 dX7_init_0 rfl rfl ?_
  refine gw_objInit C dX7_init_1 (by decide +kernel) (by decide +kernel) (by decide +kernel) (by rw [hkR]; decide) (by rw [hkR]; decide) ?_
  refine gw_aload_n C 0 dX7_init_4 rfl rfl ?_
  refine gw_iload_n C 1 dX7_init_5 rfl rfl ?_
  refine gw_if_eq C 14 dX7_init_6 (by decide) (by omega) (fun h90 => ?_) (fun h90 => ?_)
  · exact absurd h90 (by decide)
  refine gw_bipush C 8 dX7_init_9 (by decide) ?_
  refine gw_goto C 16 dX7_init_11 (by decide) ?_
  refine gw_putF C (ty := .int) (ws2 := [(p, .inr (5, [iN (8), .int (0), .null, .null, .null, .null]))]) 0 0 tyX7 tyX7_ok nmX7 in_X7_init_X7 hmn2 dX7_init_16 lk_X7_init_9 rfl rfl (by decide) rfl rfl rfl (by decide +kernel) rfl rfl (Nat.le_of_ble_eq_true rfl) rfl ?_
  refine gw_aload_n C 0 dX7_init_19 rfl rfl ?_
  refine gw_iload_n C 1 dX7_init_20 rfl rfl ?_
  refine gw_if_eq C 28 dX7_init_21 (by decide) (by omega) (fun h91 => ?_) (fun h91 => ?_)
  · exact absurd h91 (by decide)
  refine gw_iconst C 3 dX7_init_24 (by decide) ?_
  refine gw_goto C 29 dX7_init_25 (by decide) ?_
  refine gw_putF C (ty := .int) (ws2 := [(p, .inr (5, [iN (8), iN (3), .null, .null, .null, .null]))]) 0 1 tyX7 tyX7_ok nmX7 in_X7_init_X7 hmn2 dX7_init_29 lk_X7_init_15 rfl rfl (by decide) rfl rfl rfl (by decide +kernel) rfl rfl (Nat.le_of_ble_eq_true rfl) rfl ?_
  refine gw_aload_n C 0 dX7_init_32 rfl rfl ?_
  refine gw_iload_n C 1 dX7_init_33 rfl rfl ?_
  refine gw_if_eq C 43 dX7_init_34 (by decide) (by omega) (fun h92 => ?_) (fun h92 => ?_)
  · exact absurd h92 (by decide)
  refine gw_gets C zR dX7_init_37 lk_X7_init_18 ?_
  refine gw_goto C 46 dX7_init_40 (by decide) ?_
  refine gw_putF C (ty := (.array .int)) (ws2 := [(p, .inr (5, [iN (8), iN (3), .null, .null, .ref (rt), .null]))]) 0 4 tyX7 tyX7_ok nmX7 in_X7_init_X7 hmn2 dX7_init_46 lk_X7_init_25 rfl rfl (by decide) rfl rfl rfl (by decide +kernel) rfl rfl (Nat.le_of_ble_eq_true rfl) rfl ?_
  refine gw_aload_n C 0 dX7_init_49 rfl rfl ?_
  refine gw_iload_n C 1 dX7_init_50 rfl rfl ?_
  refine gw_if_eq C 60 dX7_init_51 (by decide) (by omega) (fun h93 => ?_) (fun h93 => ?_)
  · exact absurd h93 (by decide)
  refine gw_gets C zG dX7_init_54 lk_X7_init_28 ?_
  refine gw_goto C 63 dX7_init_57 (by decide) ?_
  refine gw_putF C (ty := (.array .int)) (ws2 := [(p, .inr (5, [iN (8), iN (3), .null, .null, .ref (rt), .ref (gt)]))]) 0 5 tyX7 tyX7_ok nmX7 in_X7_init_X7 hmn2 dX7_init_63 lk_X7_init_34 rfl rfl (by decide) rfl rfl rfl (by decide +kernel) rfl rfl (Nat.le_of_ble_eq_true rfl) rfl ?_
  refine gw_aload_n C 0 dX7_init_66 rfl rfl ?_
  refine gw_aload_n C 0 dX7_init_67 rfl rfl ?_
  refine gw_get C 0 0 in_X7_init_X7 dX7_init_68 lk_X7_init_9 rfl rfl (by decide) rfl rfl ?_
  refine gw_newa C 0 dX7_init_71 rfl (by decide +kernel) rfl (fun _ _ h => h) (a0 := (8, .inl (fun _ => 0))) (fun _ => rfl) (by decide) (by decide) (by omega) (by omega) (fun pa => ?_)
  refine gw_ws (ws2 := [(p, .inr (5, [iN (8), iN (3), .null, .null, .ref (rt), .ref (gt)])), (pa, .inl (cI, 8, .inl (fun j => nI (((fun _ => 0)) j))))]) rfl ?_
  refine gw_putF C (ty := (.array .int)) (ws2 := [(p, .inr (5, [iN (8), iN (3), .ref (pa), .null, .ref (rt), .ref (gt)])), (pa, .inl (cI, 8, .inl (fun j => nI (((fun _ => 0)) j))))]) 0 2 tyX7 tyX7_ok nmX7 in_X7_init_X7 hmn2 dX7_init_73 lk_X7_init_37 rfl rfl (by decide) rfl rfl rfl (by decide +kernel) rfl rfl (Nat.le_of_ble_eq_true rfl) rfl ?_
  refine gw_aload_n C 0 dX7_init_76 rfl rfl ?_
  refine gw_aload_n C 0 dX7_init_77 rfl rfl ?_
  refine gw_get C 0 0 in_X7_init_X7 dX7_init_78 lk_X7_init_9 rfl rfl (by decide) rfl rfl ?_
  refine gw_newa C 0 dX7_init_81 rfl (by decide +kernel) rfl (fun _ _ h => h) (a0 := (8, .inl (fun _ => 0))) (fun _ => rfl) (by decide) (by decide) (by omega) (by omega) (fun ma => ?_)
  refine gw_ws (ws2 := [(p, .inr (5, [iN (8), iN (3), .ref (pa), .null, .ref (rt), .ref (gt)])), (pa, .inl (cI, 8, .inl (fun j => nI (((fun _ => 0)) j)))), (ma, .inl (cI, 8, .inl (fun j => nI (((fun _ => 0)) j))))]) rfl ?_
  refine gw_putF C (ty := (.array .int)) (ws2 := [(p, .inr (5, [iN (8), iN (3), .ref (pa), .ref (ma), .ref (rt), .ref (gt)])), (pa, .inl (cI, 8, .inl (fun j => nI (((fun _ => 0)) j)))), (ma, .inl (cI, 8, .inl (fun j => nI (((fun _ => 0)) j))))]) 0 3 tyX7 tyX7_ok nmX7 in_X7_init_X7 hmn2 dX7_init_83 lk_X7_init_40 rfl rfl (by decide) rfl rfl rfl (by decide +kernel) rfl rfl (Nat.le_of_ble_eq_true rfl) rfl ?_
  refine gw_aload_n C 0 dX7_init_86 rfl rfl ?_
  refine gw_allVV (n := 0) C (c_reset (kl K) (kD K) cI cB cS cJ cF cG zz hz p pa ma rt gt 8 3 (fun _ => 0) (fun _ => 0) (by decide)) 0 rfl rfl rfl gX7_init_X7_reset rfl (by decide +kernel) dX7_init_87 (by rw [hkR]; decide) (by rw [hkR]; decide) rfl (Nat.le_of_ble_eq_true rfl) rfl (fun u hu => ?_)
  subst hu
  exact ret (pa, ma) dX7_init_90 trivial rfl (by decide) (by decide)
set_option maxHeartbeats 4000000 in
set_option maxRecDepth 100000 in
theorem c_pinitE (l : Launch) (D : va_G) (cI cB cS cJ cF cG : ClassId) (zz : (Nat → Prop) → State → Heap → Prop) (hz : gw_zT zz) (p rt gt : Nat) (hzR : ∀ A U H, zz A U H → va_Z "StageCube$Pieces" "EDGE_ROUND" "[I" (.ref rt) A U H) (hzG : ∀ A U H, zz A U H → va_Z "StageCube$Pieces" "FLIP_GAIN" "[I" (.ref gt) A U H) : gw_CV (S := Nat × Nat) l yX7_init wsX7_init 1 21 2 24 D (mo_ty cI cB cS cJ cF cG) zz ([(p, .inr (5, [.int 0, .int 0, .null, .null, .null, .null]))]) [.ref p, iN 0] (fun _ => True) (fun u => pc_ws cI p u.1 u.2 rt gt 12 2 (rs_P (fun _ => 0) 12) (rs_M (fun _ => 0) 12)) := by
  refine gw_CV.of (cc := cX7_init) (maxL := 2) hz (by decide) rfl (Nat.le_of_ble_eq_true rfl) ?_
  intro K C hkl hkn hkR hkD hmn ret
  have C : gw_x K cX7_init RX7 wsX7_init (mo_ty cI cB cS cJ cF cG) zz := C
  subst hkl hkD
  have hmn2 : (kM K).name = "<init>" := hmn
  have zR := hzR _ _ _ C.2.2.2.1
  have zG := hzG _ _ _ C.2.2.2.1
  have hc : (kR K).cells = 2 := by rw [hkR]
  have hs : (kR K).slots = 24 := by rw [hkR]
  refine gw_aload_n C 0 dX7_init_0 rfl rfl ?_
  refine gw_objInit C dX7_init_1 (by decide +kernel) (by decide +kernel) (by decide +kernel) (by rw [hkR]; decide) (by rw [hkR]; decide) ?_
  refine gw_aload_n C 0 dX7_init_4 rfl rfl ?_
  refine gw_iload_n C 1 dX7_init_5 rfl rfl ?_
  refine gw_if_eq C 14 dX7_init_6 (by decide) (by omega) (fun h94 => ?_) (fun h94 => ?_)
  rotate_left
  · exact absurd rfl h94
  refine gw_bipush C 12 dX7_init_14 (by decide) ?_
  refine gw_putF C (ty := .int) (ws2 := [(p, .inr (5, [iN (12), .int (0), .null, .null, .null, .null]))]) 0 0 tyX7 tyX7_ok nmX7 in_X7_init_X7 hmn2 dX7_init_16 lk_X7_init_9 rfl rfl (by decide) rfl rfl rfl (by decide +kernel) rfl rfl (Nat.le_of_ble_eq_true rfl) rfl ?_
  refine gw_aload_n C 0 dX7_init_19 rfl rfl ?_
  refine gw_iload_n C 1 dX7_init_20 rfl rfl ?_
  refine gw_if_eq C 28 dX7_init_21 (by decide) (by omega) (fun h95 => ?_) (fun h95 => ?_)
  rotate_left
  · exact absurd rfl h95
  refine gw_iconst C 2 dX7_init_28 (by decide) ?_
  refine gw_putF C (ty := .int) (ws2 := [(p, .inr (5, [iN (12), iN (2), .null, .null, .null, .null]))]) 0 1 tyX7 tyX7_ok nmX7 in_X7_init_X7 hmn2 dX7_init_29 lk_X7_init_15 rfl rfl (by decide) rfl rfl rfl (by decide +kernel) rfl rfl (Nat.le_of_ble_eq_true rfl) rfl ?_
  refine gw_aload_n C 0 dX7_init_32 rfl rfl ?_
  refine gw_iload_n C 1 dX7_init_33 rfl rfl ?_
  refine gw_if_eq C 43 dX7_init_34 (by decide) (by omega) (fun h96 => ?_) (fun h96 => ?_)
  rotate_left
  · exact absurd rfl h96
  refine gw_gets C zR dX7_init_43 lk_X7_init_22 ?_
  refine gw_putF C (ty := (.array .int)) (ws2 := [(p, .inr (5, [iN (12), iN (2), .null, .null, .ref (rt), .null]))]) 0 4 tyX7 tyX7_ok nmX7 in_X7_init_X7 hmn2 dX7_init_46 lk_X7_init_25 rfl rfl (by decide) rfl rfl rfl (by decide +kernel) rfl rfl (Nat.le_of_ble_eq_true rfl) rfl ?_
  refine gw_aload_n C 0 dX7_init_49 rfl rfl ?_
  refine gw_iload_n C 1 dX7_init_50 rfl rfl ?_
  refine gw_if_eq C 60 dX7_init_51 (by decide) (by omega) (fun h97 => ?_) (fun h97 => ?_)
  rotate_left
  · exact absurd rfl h97
  refine gw_gets C zG dX7_init_60 lk_X7_init_31 ?_
  refine gw_putF C (ty := (.array .int)) (ws2 := [(p, .inr (5, [iN (12), iN (2), .null, .null, .ref (rt), .ref (gt)]))]) 0 5 tyX7 tyX7_ok nmX7 in_X7_init_X7 hmn2 dX7_init_63 lk_X7_init_34 rfl rfl (by decide) rfl rfl rfl (by decide +kernel) rfl rfl (Nat.le_of_ble_eq_true rfl) rfl ?_
  refine gw_aload_n C 0 dX7_init_66 rfl rfl ?_
  refine gw_aload_n C 0 dX7_init_67 rfl rfl ?_
  refine gw_get C 0 0 in_X7_init_X7 dX7_init_68 lk_X7_init_9 rfl rfl (by decide) rfl rfl ?_
  refine gw_newa C 0 dX7_init_71 rfl (by decide +kernel) rfl (fun _ _ h => h) (a0 := (12, .inl (fun _ => 0))) (fun _ => rfl) (by decide) (by decide) (by omega) (by omega) (fun pa => ?_)
  refine gw_ws (ws2 := [(p, .inr (5, [iN (12), iN (2), .null, .null, .ref (rt), .ref (gt)])), (pa, .inl (cI, 12, .inl (fun j => nI (((fun _ => 0)) j))))]) rfl ?_
  refine gw_putF C (ty := (.array .int)) (ws2 := [(p, .inr (5, [iN (12), iN (2), .ref (pa), .null, .ref (rt), .ref (gt)])), (pa, .inl (cI, 12, .inl (fun j => nI (((fun _ => 0)) j))))]) 0 2 tyX7 tyX7_ok nmX7 in_X7_init_X7 hmn2 dX7_init_73 lk_X7_init_37 rfl rfl (by decide) rfl rfl rfl (by decide +kernel) rfl rfl (Nat.le_of_ble_eq_true rfl) rfl ?_
  refine gw_aload_n C 0 dX7_init_76 rfl rfl ?_
  refine gw_aload_n C 0 dX7_init_77 rfl rfl ?_
  refine gw_get C 0 0 in_X7_init_X7 dX7_init_78 lk_X7_init_9 rfl rfl (by decide) rfl rfl ?_
  refine gw_newa C 0 dX7_init_81 rfl (by decide +kernel) rfl (fun _ _ h => h) (a0 := (12, .inl (fun _ => 0))) (fun _ => rfl) (by decide) (by decide) (by omega) (by omega) (fun ma => ?_)
  refine gw_ws (ws2 := [(p, .inr (5, [iN (12), iN (2), .ref (pa), .null, .ref (rt), .ref (gt)])), (pa, .inl (cI, 12, .inl (fun j => nI (((fun _ => 0)) j)))), (ma, .inl (cI, 12, .inl (fun j => nI (((fun _ => 0)) j))))]) rfl ?_
  refine gw_putF C (ty := (.array .int)) (ws2 := [(p, .inr (5, [iN (12), iN (2), .ref (pa), .ref (ma), .ref (rt), .ref (gt)])), (pa, .inl (cI, 12, .inl (fun j => nI (((fun _ => 0)) j)))), (ma, .inl (cI, 12, .inl (fun j => nI (((fun _ => 0)) j))))]) 0 3 tyX7 tyX7_ok nmX7 in_X7_init_X7 hmn2 dX7_init_83 lk_X7_init_40 rfl rfl (by decide) rfl rfl rfl (by decide +kernel) rfl rfl (Nat.le_of_ble_eq_true rfl) rfl ?_
  refine gw_aload_n C 0 dX7_init_86 rfl rfl ?_
  refine gw_allVV (n := 0) C (c_reset (kl K) (kD K) cI cB cS cJ cF cG zz hz p pa ma rt gt 12 2 (fun _ => 0) (fun _ => 0) (by decide)) 0 rfl rfl rfl gX7_init_X7_reset rfl (by decide +kernel) dX7_init_87 (by rw [hkR]; decide) (by rw [hkR]; decide) rfl (Nat.le_of_ble_eq_true rfl) rfl (fun u hu => ?_)
  subst hu
  exact ret (pa, ma) dX7_init_90 trivial rfl (by decide) (by decide)
