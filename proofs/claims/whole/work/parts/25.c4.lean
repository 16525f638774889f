section GWRAW
variable {K : gw_K} {cc : ByteArray} {own : String} {Ts : List Cond} {tys : List (ClassId × FieldType)} {zz : (Nat → Prop) → State → Heap → Prop} {ws : va_W} {cells slots pc : Nat} {lv lv' : List (Nat × Value)} {st : List Value}
theorem gw_iadd_r (C : gw_x K cc own Ts tys zz) {x y : Int32} (hd : decode cc pc = .ok (.iadd, 1)) (k : gw_G K ws cells slots (pc + 1) lv (.int (x + y) :: st)) : gw_G K ws cells slots pc lv (.int y :: .int x :: st) := fun H locs ls hl hP hD hS => lv_iadd C.1.1 C.1.2.1 hd (k H locs ls hl hP hD hS)
theorem gw_isub_r (C : gw_x K cc own Ts tys zz) {x y : Int32} (hd : decode cc pc = .ok (.isub, 1)) (k : gw_G K ws cells slots (pc + 1) lv (.int (x - y) :: st)) : gw_G K ws cells slots pc lv (.int y :: .int x :: st) := fun H locs ls hl hP hD hS => lv_isub C.1.1 C.1.2.1 hd (k H locs ls hl hP hD hS)
theorem gw_iand_r (C : gw_x K cc own Ts tys zz) {x y : Int32} (hd : decode cc pc = .ok (.iand, 1)) (k : gw_G K ws cells slots (pc + 1) lv (.int (x &&& y) :: st)) : gw_G K ws cells slots pc lv (.int y :: .int x :: st) := fun H locs ls hl hP hD hS => lv_iand C.1.1 C.1.2.1 hd (k H locs ls hl hP hD hS)
theorem gw_iushr_r (C : gw_x K cc own Ts tys zz) {x y : Int32} (hd : decode cc pc = .ok (.iushr, 1)) (k : gw_G K ws cells slots (pc + 1) lv (.int ((x.toUInt32 >>> (y.toUInt32 &&& Int32.toUInt32 31)).toInt32) :: st)) : gw_G K ws cells slots pc lv (.int y :: .int x :: st) := fun H locs ls hl hP hD hS => lv_iushr C.1.1 C.1.2.1 hd rfl (k H locs ls hl hP hD hS)
theorem gw_ldcw (C : gw_x K cc own Ts tys zz) {index : Nat} {x : Int32} (hd : decode cc pc = .ok (.ldc_w index, 3)) (hm : Jvm.Cond.constant own index x ∈ Ts) (k : gw_G K ws cells slots (pc + 3) lv (.int x :: st)) : gw_G K ws cells slots pc lv st := fun H locs ls hl hP hD hS => lv_ldcw C.1.1 C.1.2.1 C.1.2.2.2.1 (C.1.2.2.2.2 _ hm) hd (k H locs ls hl hP hD hS)
end GWRAW
theorem lk_X4_ofSet_7 : Cond.fieldLink RX4 7 "StageCube$Numbering" "CHOOSE" "[I" ∈ wsX4_ofSet := by decide +kernel
theorem lk_X4_toSet_7 : Cond.fieldLink RX4 7 "StageCube$Numbering" "CHOOSE" "[I" ∈ wsX4_toSet := by decide +kernel
def cu_bc (x : Nat) : Nat := [0, 1, 1, 2, 1, 2, 2, 3].getD x 0
set_option maxHeartbeats 4000000 in
set_option maxRecDepth 100000 in
theorem c_bitCount (l : Launch) (D : va_G) (tys : List (ClassId × FieldType)) (tt : Nat → Nat) (w0 : va_W) (x : Nat) (hx : x < 8) : gw_CI l yJ6_bitCount_0f7a4 wsJ6_bitCount_0f7a4 0 0 0 0 D tys (zs tt) w0 [iN x] (fun r _ => r = nI (cu_bc x)) (fun _ : Unit => w0) := by
  refine gw_CI.of (cc := cJ6_bitCount_0f7a4) (maxL := 1) (rt := .int) (zs_ok tt) (by decide) rfl (Nat.le_of_ble_eq_true rfl) ?_
  intro K C hkl hkn hkR hkD hmn ret
  have C : gw_x K cJ6_bitCount_0f7a4 RJ6 wsJ6_bitCount_0f7a4 tys (zs tt) := C
  subst hkl hkD
  refine gw_iload_n C 0 dJ6_bitCount_0f7a4_0 rfl rfl ?_
  refine gw_iload_n C 0 dJ6_bitCount_0f7a4_1 rfl rfl ?_
  refine gw_iconst C 1 dJ6_bitCount_0f7a4_2 (by decide) ?_
  refine gw_iushr_r C dJ6_bitCount_0f7a4_3 ?_
  refine gw_ldcw C (x := 1431655765) dJ6_bitCount_0f7a4_4 (by decide +kernel) ?_
  refine gw_iand_r C dJ6_bitCount_0f7a4_7 ?_
  refine gw_isub_r C dJ6_bitCount_0f7a4_8 ?_
  obtain ⟨y9, ey9⟩ : ∃ y9 : Int32, y9 = ((nI x) - ((((((nI x).toUInt32 >>> ((nI 1).toUInt32 &&& Int32.toUInt32 31)).toInt32)) &&& (1431655765)))) := ⟨_, rfl⟩
  rw [← ey9]
  refine gw_istore_n C (lv2 := [(0, .int y9)]) dJ6_bitCount_0f7a4_9 rfl (by omega) rfl ?_
  refine gw_iload_n C 0 dJ6_bitCount_0f7a4_10 rfl rfl ?_
  refine gw_ldcw C (x := 858993459) dJ6_bitCount_0f7a4_11 (by decide +kernel) ?_
  refine gw_iand_r C dJ6_bitCount_0f7a4_14 ?_
  refine gw_iload_n C 0 dJ6_bitCount_0f7a4_15 rfl rfl ?_
  refine gw_iconst C 2 dJ6_bitCount_0f7a4_16 (by decide) ?_
  refine gw_iushr_r C dJ6_bitCount_0f7a4_17 ?_
  refine gw_ldcw C (x := 858993459) dJ6_bitCount_0f7a4_18 (by decide +kernel) ?_
  refine gw_iand_r C dJ6_bitCount_0f7a4_21 ?_
  refine gw_iadd_r C dJ6_bitCount_0f7a4_22 ?_
  obtain ⟨y23, ey23⟩ : ∃ y23 : Int32, y23 = ((((y9) &&& (858993459))) + ((((((y9).toUInt32 >>> ((nI 2).toUInt32 &&& Int32.toUInt32 31)).toInt32)) &&& (858993459)))) := ⟨_, rfl⟩
  rw [← ey23]
  refine gw_istore_n C (lv2 := [(0, .int y23)]) dJ6_bitCount_0f7a4_23 rfl (by omega) rfl ?_
  refine gw_iload_n C 0 dJ6_bitCount_0f7a4_24 rfl rfl ?_
  refine gw_iload_n C 0 dJ6_bitCount_0f7a4_25 rfl rfl ?_
  refine gw_iconst C 4 dJ6_bitCount_0f7a4_26 (by decide) ?_
  refine gw_iushr_r C dJ6_bitCount_0f7a4_27 ?_
  refine gw_iadd_r C dJ6_bitCount_0f7a4_28 ?_
  refine gw_ldcw C (x := 252645135) dJ6_bitCount_0f7a4_29 (by decide +kernel) ?_
  refine gw_iand_r C dJ6_bitCount_0f7a4_32 ?_
  obtain ⟨y33, ey33⟩ : ∃ y33 : Int32, y33 = ((((y23) + ((((y23).toUInt32 >>> ((nI 4).toUInt32 &&& Int32.toUInt32 31)).toInt32)))) &&& (252645135)) := ⟨_, rfl⟩
  rw [← ey33]
  refine gw_istore_n C (lv2 := [(0, .int y33)]) dJ6_bitCount_0f7a4_33 rfl (by omega) rfl ?_
  refine gw_iload_n C 0 dJ6_bitCount_0f7a4_34 rfl rfl ?_
  refine gw_iload_n C 0 dJ6_bitCount_0f7a4_35 rfl rfl ?_
  refine gw_bipush C 8 dJ6_bitCount_0f7a4_36 (by decide) ?_
  refine gw_iushr_r C dJ6_bitCount_0f7a4_38 ?_
  refine gw_iadd_r C dJ6_bitCount_0f7a4_39 ?_
  obtain ⟨y40, ey40⟩ : ∃ y40 : Int32, y40 = ((y33) + ((((y33).toUInt32 >>> ((nI 8).toUInt32 &&& Int32.toUInt32 31)).toInt32))) := ⟨_, rfl⟩
  rw [← ey40]
  refine gw_istore_n C (lv2 := [(0, .int y40)]) dJ6_bitCount_0f7a4_40 rfl (by omega) rfl ?_
  refine gw_iload_n C 0 dJ6_bitCount_0f7a4_41 rfl rfl ?_
  refine gw_iload_n C 0 dJ6_bitCount_0f7a4_42 rfl rfl ?_
  refine gw_bipush C 16 dJ6_bitCount_0f7a4_43 (by decide) ?_
  refine gw_iushr_r C dJ6_bitCount_0f7a4_45 ?_
  refine gw_iadd_r C dJ6_bitCount_0f7a4_46 ?_
  obtain ⟨y47, ey47⟩ : ∃ y47 : Int32, y47 = ((y40) + ((((y40).toUInt32 >>> ((nI 16).toUInt32 &&& Int32.toUInt32 31)).toInt32))) := ⟨_, rfl⟩
  rw [← ey47]
  refine gw_istore_n C (lv2 := [(0, .int y47)]) dJ6_bitCount_0f7a4_47 rfl (by omega) rfl ?_
  refine gw_iload_n C 0 dJ6_bitCount_0f7a4_48 rfl rfl ?_
  refine gw_bipush C 63 dJ6_bitCount_0f7a4_49 (by decide) ?_
  refine gw_iand_r C dJ6_bitCount_0f7a4_51 ?_
  refine ret () dJ6_bitCount_0f7a4_52 rfl ?_ rfl (Nat.le_refl 0) (Nat.le_refl 0)
  rw [ey47, ey40, ey33, ey23, ey9]
  rcases (show x = 0 ∨ x = 1 ∨ x = 2 ∨ x = 3 ∨ x = 4 ∨ x = 5 ∨ x = 6 ∨ x = 7 by omega) with h | h | h | h | h | h | h | h <;> subst h <;> decide +kernel
def cu_oo (a b c d : Nat) : Nat := a * 6 + (if a < b then b - 1 else b) * 2 + (if d < c then 1 else 0)
set_option maxHeartbeats 4000000 in
set_option maxRecDepth 100000 in
theorem c_ofOrder (l : Launch) (D : va_G) (tys : List (ClassId × FieldType)) (tt : Nat → Nat) (w0 : va_W) (a b c d : Nat) (ha : a < 2 ^ 31) (hb : b < 2 ^ 31) (hc : c < 2 ^ 31) (hd : d < 2 ^ 31) : gw_CI l yX4_ofOrder wsX4_ofOrder 0 0 0 0 D tys (zs tt) w0 [iN a, iN b, iN c, iN d] (fun r _ => r = nI (cu_oo a b c d)) (fun _ : Unit => w0) := by
  refine gw_CI.of (cc := cX4_ofOrder) (maxL := 4) (rt := .int) (zs_ok tt) (by decide) rfl (Nat.le_of_ble_eq_true rfl) ?_
  intro K C hkl hkn hkR hkD hmn ret
  have C : gw_x K cX4_ofOrder RX4 wsX4_ofOrder tys (zs tt) := C
  subst hkl hkD
  refine gw_iload_n C 0 dX4_ofOrder_0 rfl rfl ?_
  refine gw_bipush C 6 dX4_ofOrder_1 (by decide) ?_
  refine gw_imul C dX4_ofOrder_3 ?_
  refine gw_iload_n C 1 dX4_ofOrder_4 rfl rfl ?_
  refine gw_iload_n C 0 dX4_ofOrder_5 rfl rfl ?_
  refine gw_icmp_le C 15 dX4_ofOrder_6 (by decide) (by omega) (by omega) (fun h61 => ?_) (fun h61 => ?_)
  ·
    refine gw_iload_n C 1 dX4_ofOrder_15 rfl rfl ?_
    refine gw_iconst C 2 dX4_ofOrder_16 (by decide) ?_
    refine gw_imul C dX4_ofOrder_17 ?_
    refine gw_iadd C dX4_ofOrder_18 ?_
    refine gw_iload_n C 2 dX4_ofOrder_19 rfl rfl ?_
    refine gw_iload_n C 3 dX4_ofOrder_20 rfl rfl ?_
    refine gw_icmp_le C 28 dX4_ofOrder_21 (by decide) (by omega) (by omega) (fun h62 => ?_) (fun h62 => ?_)
    ·
      refine gw_iconst C 0 dX4_ofOrder_28 (by decide) ?_
      refine gw_iadd C dX4_ofOrder_29 ?_
      exact ret () dX4_ofOrder_30 rfl (by rw [cu_oo, if_neg (by omega), if_neg (by omega)]) rfl (Nat.le_refl 0) (Nat.le_refl 0)
    ·
      refine gw_iconst C 1 dX4_ofOrder_24 (by decide) ?_
      refine gw_goto C 29 dX4_ofOrder_25 (by decide) ?_
      refine gw_iadd C dX4_ofOrder_29 ?_
      exact ret () dX4_ofOrder_30 rfl (by rw [cu_oo, if_neg (by omega), if_pos (by omega)]) rfl (Nat.le_refl 0) (Nat.le_refl 0)
  ·
    refine gw_iload_n C 1 dX4_ofOrder_9 rfl rfl ?_
    refine gw_iconst C 1 dX4_ofOrder_10 (by decide) ?_
    refine gw_isub C dX4_ofOrder_11 (by omega) ?_
    refine gw_goto C 16 dX4_ofOrder_12 (by decide) ?_
    refine gw_iconst C 2 dX4_ofOrder_16 (by decide) ?_
    refine gw_imul C dX4_ofOrder_17 ?_
    refine gw_iadd C dX4_ofOrder_18 ?_
    refine gw_iload_n C 2 dX4_ofOrder_19 rfl rfl ?_
    refine gw_iload_n C 3 dX4_ofOrder_20 rfl rfl ?_
    refine gw_icmp_le C 28 dX4_ofOrder_21 (by decide) (by omega) (by omega) (fun h63 => ?_) (fun h63 => ?_)
    ·
      refine gw_iconst C 0 dX4_ofOrder_28 (by decide) ?_
      refine gw_iadd C dX4_ofOrder_29 ?_
      exact ret () dX4_ofOrder_30 rfl (by rw [cu_oo, if_pos (by omega), if_neg (by omega)]) rfl (Nat.le_refl 0) (Nat.le_refl 0)
    ·
      refine gw_iconst C 1 dX4_ofOrder_24 (by decide) ?_
      refine gw_goto C 29 dX4_ofOrder_25 (by decide) ?_
      refine gw_iadd C dX4_ofOrder_29 ?_
      exact ret () dX4_ofOrder_30 rfl (by rw [cu_oo, if_pos (by omega), if_pos (by omega)]) rfl (Nat.le_refl 0) (Nat.le_refl 0)
def cu_os (set : Nat) : Nat → Nat × Nat
  | 0 => (0, 0)
  | i + 1 => if (cu_os set i).2 < 4 ∧ (set / 2 ^ i &&& 1) ≠ 0 then ((cu_os set i).1 + cu_ch (5 * i + ((cu_os set i).2 + 1)), (cu_os set i).2 + 1) else cu_os set i
theorem cu_os_4 (set : Nat) : ∀ i, (cu_os set i).2 ≤ 4
  | 0 => Nat.zero_le _
  | i + 1 => by have := cu_os_4 set i; rw [cu_os]; split <;> simp <;> omega
theorem cu_os_stop (set : Nat) {i : Nat} (h : ¬ (cu_os set i).2 < 4) : ∀ k, cu_os set (i + k) = cu_os set i := by
  intro k
  induction k with
  | zero => rfl
  | succ k ih => rw [Nat.add_succ, cu_os, ih, if_neg (fun q => h q.1)]
set_option maxHeartbeats 4000000 in
set_option maxRecDepth 100000 in
theorem c_ofSet (l : Launch) (D : va_G) (tys : List (ClassId × FieldType)) (tt : Nat → Nat) (w0 : va_W) (set things : Nat) (hs : set < 2 ^ 31) (hn : things ≤ 12) : gw_CI l yX4_ofSet wsX4_ofSet 0 0 0 0 D tys (zs tt) w0 [iN set, iN things] (fun r _ => r = nI (cu_os set things).1) (fun _ : Unit => w0) := by
  refine gw_CI.of (cc := cX4_ofSet) (maxL := 5) (rt := .int) (zs_ok tt) (by decide) rfl (Nat.le_of_ble_eq_true rfl) ?_
  intro K C hkl hkn hkR hkD hmn ret
  have C : gw_x K cX4_ofSet RX4 wsX4_ofSet tys (zs tt) := C
  subst hkl hkD
  have zc := C.2.2.2.1.2.2.2.2.1
  refine gw_iconst C 0 dX4_ofSet_0 (by decide) ?_
  refine gw_istore_n C (lv2 := [(2, iN (0)), (0, iN (set)), (1, iN (things))]) dX4_ofSet_1 rfl (by omega) rfl ?_
  refine gw_iconst C 0 dX4_ofSet_2 (by decide) ?_
  refine gw_istore_n C (lv2 := [(3, iN (0)), (2, iN (0)), (0, iN (set)), (1, iN (things))]) dX4_ofSet_3 rfl (by omega) rfl ?_
  refine gw_iconst C 0 dX4_ofSet_4 (by decide) ?_
  refine gw_istore C (lv2 := [(4, iN (0)), (3, iN (0)), (2, iN (0)), (0, iN (set)), (1, iN (things))]) dX4_ofSet_5 (by omega) rfl ?_
  have lp : ∀ ni i : Nat, i + ni = things → gw_G K (w0) 0 0 7 [(4, iN (i)), (3, iN ((cu_os set i).2)), (2, iN ((cu_os set i).1)), (0, iN (set)), (1, iN (things))] [] := by
    intro ni
    induction ni with
    | zero =>
      intro i hii
      refine gw_iload C 0 dX4_ofSet_7 rfl ?_
      refine gw_iload_n C 4 dX4_ofSet_9 rfl rfl ?_
      refine gw_icmp_ge C 49 dX4_ofSet_10 (by decide) (by omega) (by omega) (fun h64 => ?_) (fun h64 => ?_)
      ·
        refine gw_iload_n C 2 dX4_ofSet_49 rfl rfl ?_
        exact ret () dX4_ofSet_50 rfl (by rw [show i = things by omega]) rfl (Nat.le_refl 0) (Nat.le_refl 0)
      ·
        exact absurd h64 (by omega)
    | succ ni ihi =>
      intro i hii
      refine gw_iload C 0 dX4_ofSet_7 rfl ?_
      refine gw_iload_n C 4 dX4_ofSet_9 rfl rfl ?_
      refine gw_icmp_ge C 49 dX4_ofSet_10 (by decide) (by omega) (by omega) (fun h65 => ?_) (fun h65 => ?_)
      ·
        exact absurd h65 (by omega)
      ·
        have q4 := cu_os_4 set i
        have q1 : set / 2 ^ i &&& 1 ≤ 1 := Nat.and_le_right
        refine gw_iload_n C 1 dX4_ofSet_13 rfl rfl ?_
        refine gw_iconst C 4 dX4_ofSet_14 (by decide) ?_
        refine gw_icmp_ge C 49 dX4_ofSet_15 (by decide) (by omega) (by omega) (fun h66 => ?_) (fun h66 => ?_)
        ·
          refine gw_iload_n C 2 dX4_ofSet_49 rfl rfl ?_
          exact ret () dX4_ofSet_50 rfl (by have := cu_os_stop set (i := i) (by omega) (things - i); rw [show i + (things - i) = things by omega] at this; rw [this]) rfl (Nat.le_refl 0) (Nat.le_refl 0)
        ·
          refine gw_iload_n C 3 dX4_ofSet_18 rfl rfl ?_
          refine gw_iload C 0 dX4_ofSet_19 rfl ?_
          refine gw_ishr C dX4_ofSet_21 (by omega) (by omega) ?_
          refine gw_iconst C 1 dX4_ofSet_22 (by decide) ?_
          refine gw_iand C dX4_ofSet_23 ?_
          refine gw_if_eq C 43 dX4_ofSet_24 (by decide) (by omega) (fun h67 => ?_) (fun h67 => ?_)
          ·
            refine gw_iinc C (v := nI (i + 1)) (lv2 := [(4, iN (i + 1)), (3, iN ((cu_os set i).2)), (2, iN ((cu_os set i).1)), (0, iN (set)), (1, iN (things))]) 0 dX4_ofSet_43 rfl (nI_add _ _) (by omega) rfl ?_
            refine gw_goto C 7 dX4_ofSet_46 (by decide) ?_
            refine gw_lv (lv2 := [(4, iN (i + 1)), (3, iN ((cu_os set i).2)), (2, iN ((cu_os set i).1)), (0, iN (set)), (1, iN (things))]) [0, 1, 2, 3, 4] rfl ?_
            have q := ihi (i + 1) (by omega)
            rw [cu_os, if_neg (fun z => z.2 h67)] at q
            exact q
          ·
            refine gw_iinc C (v := nI ((cu_os set i).2 + 1)) (lv2 := [(3, iN ((cu_os set i).2 + 1)), (4, iN (i)), (2, iN ((cu_os set i).1)), (0, iN (set)), (1, iN (things))]) 1 dX4_ofSet_27 rfl (nI_add _ _) (by omega) rfl ?_
            refine gw_iload_n C 2 dX4_ofSet_30 rfl rfl ?_
            refine gw_gets C zc.1 dX4_ofSet_31 lk_X4_ofSet_7 ?_
            refine gw_iconst C 5 dX4_ofSet_34 (by decide) ?_
            refine gw_iload C 1 dX4_ofSet_35 rfl ?_
            refine gw_imul C dX4_ofSet_37 ?_
            refine gw_iload_n C 0 dX4_ofSet_38 rfl rfl ?_
            refine gw_iadd C dX4_ofSet_39 ?_
            refine gw_tld C zc.2 dX4_ofSet_40 (by decide) (by omega) rfl ?_
            refine gw_iadd C dX4_ofSet_41 ?_
            refine gw_istore_n C (lv2 := [(2, iN (((cu_os set i).1) + (cu_ch (((5) * (i)) + ((cu_os set i).2 + 1))))), (3, iN ((cu_os set i).2 + 1)), (4, iN (i)), (0, iN (set)), (1, iN (things))]) dX4_ofSet_42 rfl (by omega) rfl ?_
            refine gw_iinc C (v := nI (i + 1)) (lv2 := [(4, iN (i + 1)), (2, iN (((cu_os set i).1) + (cu_ch (((5) * (i)) + ((cu_os set i).2 + 1))))), (3, iN ((cu_os set i).2 + 1)), (0, iN (set)), (1, iN (things))]) 2 dX4_ofSet_43 rfl (nI_add _ _) (by omega) rfl ?_
            refine gw_goto C 7 dX4_ofSet_46 (by decide) ?_
            refine gw_lv (lv2 := [(4, iN (i + 1)), (3, iN ((cu_os set i).2 + 1)), (2, iN (((cu_os set i).1) + (cu_ch (((5) * (i)) + ((cu_os set i).2 + 1))))), (0, iN (set)), (1, iN (things))]) [0, 2, 1, 3, 4] rfl ?_
            have q := ihi (i + 1) (by omega)
            rw [cu_os, if_pos ⟨h66, h67⟩] at q
            exact q
  refine gw_lv (lv2 := [(4, iN (0)), (3, iN (0)), (2, iN (0)), (0, iN (set)), (1, iN (things))]) [0, 1, 2, 3, 4] rfl ?_
  exact lp (things - 0) 0 (by omega)
def cu_ts (num things : Nat) : Nat → Nat × Nat × Nat
  | 0 => (0, num, 4)
  | t + 1 => if (cu_ts num things t).2.2 ≠ 0 ∧ cu_ch (5 * (things - 1 - t) + (cu_ts num things t).2.2) ≤ (cu_ts num things t).2.1 then ((cu_ts num things t).1 ||| 1 * 2 ^ (things - 1 - t), (cu_ts num things t).2.1 - cu_ch (5 * (things - 1 - t) + (cu_ts num things t).2.2), (cu_ts num things t).2.2 - 1) else cu_ts num things t
theorem cu_ts_b (num things : Nat) : ∀ t, (cu_ts num things t).2.1 ≤ num ∧ (cu_ts num things t).2.2 ≤ 4
  | 0 => ⟨Nat.le_refl _, Nat.le_refl _⟩
  | t + 1 => by
    have := cu_ts_b num things t
    rw [cu_ts]
    split
    · dsimp only; omega
    · exact this
theorem cu_ts_stop (num things : Nat) {t : Nat} (h : (cu_ts num things t).2.2 = 0) : ∀ k, cu_ts num things (t + k) = cu_ts num things t := by
  intro k
  induction k with
  | zero => rfl
  | succ k ih => rw [Nat.add_succ, cu_ts, ih, if_neg (fun q => q.1 h)]
theorem cu_ch_lt : ∀ j, cu_ch j < 1000 := by
  intro j
  by_cases h : j < 60
  · have : ∀ j, j < 60 → cu_ch j < 1000 := by decide
    exact this j h
  · have e : cu_ch j = 0 := by unfold cu_ch; rw [List.getD_eq_getElem?_getD, List.getElem?_eq_none (by simp; omega)]; rfl
    omega
set_option maxHeartbeats 4000000 in
set_option maxRecDepth 100000 in
theorem c_toSet (l : Launch) (D : va_G) (tys : List (ClassId × FieldType)) (tt : Nat → Nat) (w0 : va_W) (num things : Nat) (hs : num < 2 ^ 30) (hn : things ≤ 12) (hn1 : 1 ≤ things) : gw_CI l yX4_toSet wsX4_toSet 0 0 0 0 D tys (zs tt) w0 [iN num, iN things] (fun r _ => r = nI (cu_ts num things things).1) (fun _ : Unit => w0) := by
  refine gw_CI.of (cc := cX4_toSet) (maxL := 7) (rt := .int) (zs_ok tt) (by decide) rfl (Nat.le_of_ble_eq_true rfl) ?_
  intro K C hkl hkn hkR hkD hmn ret
  have C : gw_x K cX4_toSet RX4 wsX4_toSet tys (zs tt) := C
  subst hkl hkD
  have zc := C.2.2.2.1.2.2.2.2.1
  refine gw_iconst C 0 dX4_toSet_0 (by decide) ?_
  refine gw_istore_n C (lv2 := [(2, iN (0)), (0, iN (num)), (1, iN (things))]) dX4_toSet_1 rfl (by omega) rfl ?_
  refine gw_iload_n C 1 dX4_toSet_2 rfl rfl ?_
  refine gw_istore_n C (lv2 := [(3, iN (num)), (2, iN (0)), (0, iN (num)), (1, iN (things))]) dX4_toSet_3 rfl (by omega) rfl ?_
  refine gw_iconst C 4 dX4_toSet_4 (by decide) ?_
  refine gw_istore C (lv2 := [(4, iN (4)), (3, iN (num)), (2, iN (0)), (0, iN (num)), (1, iN (things))]) dX4_toSet_5 (by omega) rfl ?_
  refine gw_iload_n C 4 dX4_toSet_7 rfl rfl ?_
  refine gw_iconst C 1 dX4_toSet_8 (by decide) ?_
  refine gw_isub C dX4_toSet_9 (by omega) ?_
  refine gw_istore C (lv2 := [(5, iN ((things) - (1))), (4, iN (4)), (3, iN (num)), (2, iN (0)), (0, iN (num)), (1, iN (things))]) dX4_toSet_10 (by omega) rfl ?_
  rw [show things - 1 = mo_dn things 0 by rw [mo_dn_lt (by omega)]; omega]
  refine gw_lv (lv2 := [(5, iN (mo_dn things 0)), (4, iN (cu_ts num things 0).2.2), (3, iN (cu_ts num things 0).2.1), (2, iN (cu_ts num things 0).1), (0, iN num), (1, iN things)]) [0, 1, 2, 3, 4, 5] rfl ?_
  have lp : ∀ nt t : Nat, t + nt = things → gw_G K (w0) 0 0 12 [(5, iN (mo_dn things t)), (4, iN ((cu_ts num things t).2.2)), (3, iN ((cu_ts num things t).2.1)), (2, iN ((cu_ts num things t).1)), (0, iN (num)), (1, iN (things))] [] := by
    intro nt
    induction nt with
    | zero =>
      intro t hit
      have d32 := mo_dn_32 (n := things) (t := t) (by omega)
      have d33 : t < things → mo_dn things t = things - 1 - t := mo_dn_lt
      have d34 : ¬ t < things → mo_dn things t = 4294967295 := mo_dn_ge
      refine gw_iload C 0 dX4_toSet_12 rfl ?_
      refine gw_if_lt32 C 62 dX4_toSet_14 (by decide) (by omega) (fun h68 => ?_) (fun h68 => ?_)
      ·
        refine gw_iload_n C 3 dX4_toSet_62 rfl rfl ?_
        exact ret () dX4_toSet_63 rfl (by rw [show t = things by omega]) rfl (Nat.le_refl 0) (Nat.le_refl 0)
      ·
        exact absurd h68 (by omega)
    | succ nt iht =>
      intro t hit
      have d32 := mo_dn_32 (n := things) (t := t) (by omega)
      have d33 : t < things → mo_dn things t = things - 1 - t := mo_dn_lt
      have d34 : ¬ t < things → mo_dn things t = 4294967295 := mo_dn_ge
      refine gw_iload C 0 dX4_toSet_12 rfl ?_
      refine gw_if_lt32 C 62 dX4_toSet_14 (by decide) (by omega) (fun h69 => ?_) (fun h69 => ?_)
      ·
        exact absurd h69 (by omega)
      ·
        rw [mo_dn_lt (show t < things by omega)]
        have q4 := cu_ts_b num things t
        have qc := cu_ch_lt (5 * (things - 1 - t) + (cu_ts num things t).2.2)
        refine gw_iload C 1 dX4_toSet_17 rfl ?_
        refine gw_if_le C 62 dX4_toSet_19 (by decide) (by omega) (fun h70 => ?_) (fun h70 => ?_)
        ·
          refine gw_iload_n C 3 dX4_toSet_62 rfl rfl ?_
          exact ret () dX4_toSet_63 rfl (by have := cu_ts_stop num things h70 (things - t); rw [show t + (things - t) = things by omega] at this; rw [this]) rfl (Nat.le_refl 0) (Nat.le_refl 0)
        ·
          refine gw_gets C zc.1 dX4_toSet_22 lk_X4_toSet_7 ?_
          refine gw_iconst C 5 dX4_toSet_25 (by decide) ?_
          refine gw_iload C 0 dX4_toSet_26 rfl ?_
          refine gw_imul C dX4_toSet_28 ?_
          refine gw_iload C 1 dX4_toSet_29 rfl ?_
          refine gw_iadd C dX4_toSet_31 ?_
          refine gw_tld C zc.2 dX4_toSet_32 (by decide) (by omega) rfl ?_
          refine gw_istore C (lv2 := [(6, iN (cu_ch (((5) * (things - 1 - t)) + ((cu_ts num things t).2.2)))), (5, iN (things - 1 - t)), (4, iN ((cu_ts num things t).2.2)), (3, iN ((cu_ts num things t).2.1)), (2, iN ((cu_ts num things t).1)), (0, iN (num)), (1, iN (things))]) dX4_toSet_33 (by omega) rfl ?_
          refine gw_iload_n C 3 dX4_toSet_35 rfl rfl ?_
          refine gw_iload C 0 dX4_toSet_36 rfl ?_
          refine gw_icmp_lt C 56 dX4_toSet_38 (by decide) (by omega) (by omega) (fun h71 => ?_) (fun h71 => ?_)
          ·
            refine gw_iinc C (v := nI (mo_dn things (t + 1))) (lv2 := [(5, iN (mo_dn things (t + 1))), (6, iN (cu_ch (((5) * (things - 1 - t)) + ((cu_ts num things t).2.2)))), (4, iN ((cu_ts num things t).2.2)), (3, iN ((cu_ts num things t).2.1)), (2, iN ((cu_ts num things t).1)), (0, iN (num)), (1, iN (things))]) 1 dX4_toSet_56 rfl (mo_dn_dec (by omega)) (by omega) rfl ?_
            refine gw_goto C 12 dX4_toSet_59 (by decide) ?_
            refine gw_lv (lv2 := [(5, iN (mo_dn things (t + 1))), (4, iN ((cu_ts num things t).2.2)), (3, iN ((cu_ts num things t).2.1)), (2, iN ((cu_ts num things t).1)), (0, iN (num)), (1, iN (things))]) [0, 2, 3, 4, 5, 6] rfl ?_
            have q := iht (t + 1) (by omega)
            rw [cu_ts, if_neg (by omega)] at q
            exact q
          ·
            refine gw_iload_n C 3 dX4_toSet_41 rfl rfl ?_
            refine gw_iload C 0 dX4_toSet_42 rfl ?_
            refine gw_isub C dX4_toSet_44 (by omega) ?_
            refine gw_istore_n C (lv2 := [(3, iN (((cu_ts num things t).2.1) - (cu_ch (((5) * (things - 1 - t)) + ((cu_ts num things t).2.2))))), (6, iN (cu_ch (((5) * (things - 1 - t)) + ((cu_ts num things t).2.2)))), (5, iN (things - 1 - t)), (4, iN ((cu_ts num things t).2.2)), (2, iN ((cu_ts num things t).1)), (0, iN (num)), (1, iN (things))]) dX4_toSet_45 rfl (by omega) rfl ?_
            refine gw_iinc C (v := nI ((cu_ts num things t).2.2 - 1)) (lv2 := [(4, iN ((cu_ts num things t).2.2 - 1)), (3, iN (((cu_ts num things t).2.1) - (cu_ch (((5) * (things - 1 - t)) + ((cu_ts num things t).2.2))))), (6, iN (cu_ch (((5) * (things - 1 - t)) + ((cu_ts num things t).2.2)))), (5, iN (things - 1 - t)), (2, iN ((cu_ts num things t).1)), (0, iN (num)), (1, iN (things))]) 3 dX4_toSet_46 rfl (gw_dec1 (by omega)) (by omega) rfl ?_
            refine gw_iload_n C 4 dX4_toSet_49 rfl rfl ?_
            refine gw_iconst C 1 dX4_toSet_50 (by decide) ?_
            refine gw_iload C 3 dX4_toSet_51 rfl ?_
            refine gw_ishl C dX4_toSet_53 (by omega) (by exact gw_p2 (by omega)) ?_
            refine gw_ior C dX4_toSet_54 ?_
            refine gw_istore_n C (lv2 := [(2, iN (((cu_ts num things t).1) ||| ((1) * 2 ^ (things - 1 - t)))), (4, iN ((cu_ts num things t).2.2 - 1)), (3, iN (((cu_ts num things t).2.1) - (cu_ch (((5) * (things - 1 - t)) + ((cu_ts num things t).2.2))))), (6, iN (cu_ch (((5) * (things - 1 - t)) + ((cu_ts num things t).2.2)))), (5, iN (things - 1 - t)), (0, iN (num)), (1, iN (things))]) dX4_toSet_55 rfl (by omega) rfl ?_
            refine gw_iinc C (v := nI (mo_dn things (t + 1))) (lv2 := [(5, iN (mo_dn things (t + 1))), (2, iN (((cu_ts num things t).1) ||| ((1) * 2 ^ (things - 1 - t)))), (4, iN ((cu_ts num things t).2.2 - 1)), (3, iN (((cu_ts num things t).2.1) - (cu_ch (((5) * (things - 1 - t)) + ((cu_ts num things t).2.2))))), (6, iN (cu_ch (((5) * (things - 1 - t)) + ((cu_ts num things t).2.2)))), (0, iN (num)), (1, iN (things))]) 4 dX4_toSet_56 rfl (mo_dn_dec (by omega)) (by omega) rfl ?_
            refine gw_goto C 12 dX4_toSet_59 (by decide) ?_
            refine gw_lv (lv2 := [(5, iN (mo_dn things (t + 1))), (4, iN ((cu_ts num things t).2.2 - 1)), (3, iN (((cu_ts num things t).2.1) - (cu_ch (((5) * (things - 1 - t)) + ((cu_ts num things t).2.2))))), (2, iN (((cu_ts num things t).1) ||| ((1) * 2 ^ (things - 1 - t)))), (0, iN (num)), (1, iN (things))]) [0, 2, 3, 1, 5, 6] rfl ?_
            have q := iht (t + 1) (by omega)
            rw [cu_ts, if_pos (by omega)] at q
            exact q
  refine gw_lv (lv2 := [(5, iN (mo_dn things 0)), (4, iN ((cu_ts num things 0).2.2)), (3, iN ((cu_ts num things 0).2.1)), (2, iN ((cu_ts num things 0).1)), (0, iN (num)), (1, iN (things))]) [0, 1, 2, 3, 4, 5] rfl ?_
  exact lp (things - 0) 0 (by omega)
def to_a (x : Nat) : Nat := x / 6
def to_b (x : Nat) : Nat := if x / 2 % 3 < x / 6 then x / 2 % 3 else x / 2 % 3 + 1
def to_l (x : Nat) : Nat := if to_a x ≠ 0 ∧ to_b x ≠ 0 then 0 else if to_a x ≠ 1 ∧ to_b x ≠ 1 then 1 else 2
def to_h (x : Nat) : Nat := 6 - to_a x - to_b x - to_l x
def cu_to (x : Nat) (f : Nat → Nat) : Nat → Nat := up1 (up1 (up1 (up1 f 0 (to_a x)) 1 (to_b x)) 2 (if x % 2 = 0 then to_l x else to_h x)) 3 (if x % 2 = 0 then to_h x else to_l x)
theorem to_sum : ∀ x, x < 24 → to_a x + to_b x + to_l x ≤ 6 := by decide
set_option maxHeartbeats 4000000 in
set_option maxRecDepth 100000 in
theorem c_toOrder (l : Launch) (D : va_G) (cI cB cS cJ cF cG : ClassId) (tt : Nat → Nat) (oa : Nat) (f : Nat → Nat) (x : Nat) (hx : x < 24) : gw_CV (S := Unit) l yX4_toOrder wsX4_toOrder 0 0 0 0 D (mo_ty cI cB cS cJ cF cG) (zs tt) [(oa, .inl (cI, 4, .inl (fun j => nI (f j))))] [iN x, .ref oa] (fun _ => True) (fun _ => [(oa, .inl (cI, 4, .inl (fun j => nI (cu_to x f j))))]) := by
  refine gw_CV.of (cc := cX4_toOrder) (maxL := 7) (zs_ok tt) (by decide) rfl (Nat.le_of_ble_eq_true rfl) ?_
  intro K C hkl hkn hkR hkD hmn ret
  have C : gw_x K cX4_toOrder RX4 wsX4_toOrder (mo_ty cI cB cS cJ cF cG) (zs tt) := C
  have hsum := to_sum x hx
  refine gw_iload_n C 0 dX4_toOrder_0 rfl rfl ?_
  refine gw_bipush C 6 dX4_toOrder_1 (by decide) ?_
  refine gw_idiv C dX4_toOrder_3 (by omega) (by omega) (by omega) ?_
  refine gw_istore_n C (lv2 := [(2, iN ((x) / (6))), (0, iN (x)), (1, .ref (oa))]) dX4_toOrder_4 rfl (by omega) rfl ?_
  refine gw_iload_n C 1 dX4_toOrder_5 rfl rfl ?_
  refine gw_iconst C 2 dX4_toOrder_6 (by decide) ?_
  refine gw_idiv C dX4_toOrder_7 (by omega) (by omega) (by omega) ?_
  refine gw_iconst C 3 dX4_toOrder_8 (by decide) ?_
  refine gw_irem C dX4_toOrder_9 (by omega) (by omega) (by omega) ?_
  refine gw_istore_n C (lv2 := [(3, iN (((x) / (2)) % (3))), (2, iN ((x) / (6))), (0, iN (x)), (1, .ref (oa))]) dX4_toOrder_10 rfl (by omega) rfl ?_
  refine gw_iload_n C 0 dX4_toOrder_11 rfl rfl ?_
  refine gw_iload_n C 1 dX4_toOrder_12 rfl rfl ?_
  refine gw_icmp_lt C 19 dX4_toOrder_13 (by decide) (by omega) (by omega) (fun h72 => ?_) (fun h72 => ?_)
  ·
    have eb : to_b x = ((x) / (2)) % (3) := by rw [to_b, if_pos (by omega)]
    have ea : to_a x = x / 6 := rfl
    rw [← eb, ← ea]
    refine gw_iload_n C 1 dX4_toOrder_19 rfl rfl ?_
    refine gw_if_eq C 31 dX4_toOrder_20 (by decide) (by omega) (fun h73 => ?_) (fun h73 => ?_)
    ·
      refine gw_iload_n C 1 dX4_toOrder_31 rfl rfl ?_
      refine gw_iconst C 1 dX4_toOrder_32 (by decide) ?_
      refine gw_icmp_eq C 45 dX4_toOrder_33 (by decide) (by omega) (by omega) (fun h74 => ?_) (fun h74 => ?_)
      ·
        refine gw_iconst C 2 dX4_toOrder_45 (by decide) ?_
        refine gw_istore C (lv2 := [(4, iN (2)), (3, iN (to_b x)), (2, iN (to_a x)), (0, iN (x)), (1, .ref (oa))]) dX4_toOrder_46 (by omega) rfl ?_
        have el : to_l x = 2 := by rw [to_l, if_neg (by omega), if_neg (by omega)]
        refine gw_bipush C 6 dX4_toOrder_48 (by decide) ?_
        refine gw_iload_n C 2 dX4_toOrder_50 rfl rfl ?_
        refine gw_isub C dX4_toOrder_51 (by omega) ?_
        refine gw_iload_n C 1 dX4_toOrder_52 rfl rfl ?_
        refine gw_isub C dX4_toOrder_53 (by omega) ?_
        refine gw_iload C 0 dX4_toOrder_54 rfl ?_
        refine gw_isub C dX4_toOrder_56 (by omega) ?_
        refine gw_istore C (lv2 := [(5, iN ((((6) - (to_a x)) - (to_b x)) - (2))), (4, iN (2)), (3, iN (to_b x)), (2, iN (to_a x)), (0, iN (x)), (1, .ref (oa))]) dX4_toOrder_57 (by omega) rfl ?_
        refine gw_iload_n C 4 dX4_toOrder_59 rfl rfl ?_
        refine gw_iconst C 2 dX4_toOrder_60 (by decide) ?_
        refine gw_irem C dX4_toOrder_61 (by omega) (by omega) (by omega) ?_
        refine gw_if_ne C 69 dX4_toOrder_62 (by decide) (by omega) (fun h75 => ?_) (fun h75 => ?_)
        ·
          refine gw_iconst C 0 dX4_toOrder_69 (by decide) ?_
          refine gw_istore C (lv2 := [(6, iN (0)), (5, iN ((((6) - (to_a x)) - (to_b x)) - (2))), (4, iN (2)), (3, iN (to_b x)), (2, iN (to_a x)), (0, iN (x)), (1, .ref (oa))]) dX4_toOrder_70 (by omega) rfl ?_
          refine gw_aload_n C 6 dX4_toOrder_72 rfl rfl ?_
          refine gw_iconst C 0 dX4_toOrder_73 (by decide) ?_
          refine gw_iload_n C 4 dX4_toOrder_74 rfl rfl ?_
          refine gw_istN C (ws2 := [(oa, .inl (cI, 4, .inl (fun j => nI ((up1 f (0) (to_a x)) j))))]) 0 0 dX4_toOrder_75 rfl rfl (by first | decide | omega) (by omega) rfl ?_
          refine gw_aload_n C 6 dX4_toOrder_76 rfl rfl ?_
          refine gw_iconst C 1 dX4_toOrder_77 (by decide) ?_
          refine gw_iload_n C 3 dX4_toOrder_78 rfl rfl ?_
          refine gw_istN C (ws2 := [(oa, .inl (cI, 4, .inl (fun j => nI ((up1 (up1 f (0) (to_a x)) (1) (to_b x)) j))))]) 0 0 dX4_toOrder_79 rfl rfl (by first | decide | omega) (by omega) rfl ?_
          refine gw_aload_n C 6 dX4_toOrder_80 rfl rfl ?_
          refine gw_iconst C 2 dX4_toOrder_81 (by decide) ?_
          refine gw_iload C 0 dX4_toOrder_82 rfl ?_
          refine gw_if_eq C 92 dX4_toOrder_84 (by decide) (by omega) (fun h76 => ?_) (fun h76 => ?_)
          ·
            refine gw_iload C 1 dX4_toOrder_92 rfl ?_
            refine gw_istN C (ws2 := [(oa, .inl (cI, 4, .inl (fun j => nI ((up1 (up1 (up1 f (0) (to_a x)) (1) (to_b x)) (2) ((((6) - (to_a x)) - (to_b x)) - (2))) j))))]) 0 0 dX4_toOrder_94 rfl rfl (by first | decide | omega) (by omega) rfl ?_
            refine gw_aload_n C 6 dX4_toOrder_95 rfl rfl ?_
            refine gw_iconst C 3 dX4_toOrder_96 (by decide) ?_
            refine gw_iload C 0 dX4_toOrder_97 rfl ?_
            refine gw_if_eq C 107 dX4_toOrder_99 (by decide) (by omega) (fun h77 => ?_) (fun h77 => ?_)
            ·
              refine gw_iload C 2 dX4_toOrder_107 rfl ?_
              refine gw_istN C (ws2 := [(oa, .inl (cI, 4, .inl (fun j => nI ((up1 (up1 (up1 (up1 f (0) (to_a x)) (1) (to_b x)) (2) ((((6) - (to_a x)) - (to_b x)) - (2))) (3) (2)) j))))]) 0 0 dX4_toOrder_109 rfl rfl (by first | decide | omega) (by omega) rfl ?_
              have eh : 6 - to_a x - to_b x - 2 = to_h x := by rw [to_h, el]
              exact ret () dX4_toOrder_110 trivial (by rw [cu_to, if_neg (by assumption), if_neg (by assumption), to_h, el]) (Nat.le_refl 0) (Nat.le_refl 0)
            ·
              exact absurd h77 (by decide)
          ·
            exact absurd h76 (by decide)
        ·
          refine gw_iconst C 1 dX4_toOrder_65 (by decide) ?_
          refine gw_goto C 70 dX4_toOrder_66 (by decide) ?_
          refine gw_istore C (lv2 := [(6, iN (1)), (5, iN ((((6) - (to_a x)) - (to_b x)) - (2))), (4, iN (2)), (3, iN (to_b x)), (2, iN (to_a x)), (0, iN (x)), (1, .ref (oa))]) dX4_toOrder_70 (by omega) rfl ?_
          refine gw_aload_n C 6 dX4_toOrder_72 rfl rfl ?_
          refine gw_iconst C 0 dX4_toOrder_73 (by decide) ?_
          refine gw_iload_n C 4 dX4_toOrder_74 rfl rfl ?_
          refine gw_istN C (ws2 := [(oa, .inl (cI, 4, .inl (fun j => nI ((up1 f (0) (to_a x)) j))))]) 0 0 dX4_toOrder_75 rfl rfl (by first | decide | omega) (by omega) rfl ?_
          refine gw_aload_n C 6 dX4_toOrder_76 rfl rfl ?_
          refine gw_iconst C 1 dX4_toOrder_77 (by decide) ?_
          refine gw_iload_n C 3 dX4_toOrder_78 rfl rfl ?_
          refine gw_istN C (ws2 := [(oa, .inl (cI, 4, .inl (fun j => nI ((up1 (up1 f (0) (to_a x)) (1) (to_b x)) j))))]) 0 0 dX4_toOrder_79 rfl rfl (by first | decide | omega) (by omega) rfl ?_
          refine gw_aload_n C 6 dX4_toOrder_80 rfl rfl ?_
          refine gw_iconst C 2 dX4_toOrder_81 (by decide) ?_
          refine gw_iload C 0 dX4_toOrder_82 rfl ?_
          refine gw_if_eq C 92 dX4_toOrder_84 (by decide) (by omega) (fun h78 => ?_) (fun h78 => ?_)
          ·
            exact absurd h78 (by decide)
          ·
            refine gw_iload C 2 dX4_toOrder_87 rfl ?_
            refine gw_goto C 94 dX4_toOrder_89 (by decide) ?_
            refine gw_istN C (ws2 := [(oa, .inl (cI, 4, .inl (fun j => nI ((up1 (up1 (up1 f (0) (to_a x)) (1) (to_b x)) (2) (2)) j))))]) 0 0 dX4_toOrder_94 rfl rfl (by first | decide | omega) (by omega) rfl ?_
            refine gw_aload_n C 6 dX4_toOrder_95 rfl rfl ?_
            refine gw_iconst C 3 dX4_toOrder_96 (by decide) ?_
            refine gw_iload C 0 dX4_toOrder_97 rfl ?_
            refine gw_if_eq C 107 dX4_toOrder_99 (by decide) (by omega) (fun h79 => ?_) (fun h79 => ?_)
            ·
              exact absurd h79 (by decide)
            ·
              refine gw_iload C 1 dX4_toOrder_102 rfl ?_
              refine gw_goto C 109 dX4_toOrder_104 (by decide) ?_
              refine gw_istN C (ws2 := [(oa, .inl (cI, 4, .inl (fun j => nI ((up1 (up1 (up1 (up1 f (0) (to_a x)) (1) (to_b x)) (2) (2)) (3) ((((6) - (to_a x)) - (to_b x)) - (2))) j))))]) 0 0 dX4_toOrder_109 rfl rfl (by first | decide | omega) (by omega) rfl ?_
              have eh : 6 - to_a x - to_b x - 2 = to_h x := by rw [to_h, el]
              exact ret () dX4_toOrder_110 trivial (by rw [cu_to, if_pos (by assumption), if_pos (by assumption), to_h, el]) (Nat.le_refl 0) (Nat.le_refl 0)
      ·
        refine gw_iload_n C 0 dX4_toOrder_36 rfl rfl ?_
        refine gw_iconst C 1 dX4_toOrder_37 (by decide) ?_
        refine gw_icmp_eq C 45 dX4_toOrder_38 (by decide) (by omega) (by omega) (fun h80 => ?_) (fun h80 => ?_)
        ·
          refine gw_iconst C 2 dX4_toOrder_45 (by decide) ?_
          refine gw_istore C (lv2 := [(4, iN (2)), (3, iN (to_b x)), (2, iN (to_a x)), (0, iN (x)), (1, .ref (oa))]) dX4_toOrder_46 (by omega) rfl ?_
          have el : to_l x = 2 := by rw [to_l, if_neg (by omega), if_neg (by omega)]
          refine gw_bipush C 6 dX4_toOrder_48 (by decide) ?_
          refine gw_iload_n C 2 dX4_toOrder_50 rfl rfl ?_
          refine gw_isub C dX4_toOrder_51 (by omega) ?_
          refine gw_iload_n C 1 dX4_toOrder_52 rfl rfl ?_
          refine gw_isub C dX4_toOrder_53 (by omega) ?_
          refine gw_iload C 0 dX4_toOrder_54 rfl ?_
          refine gw_isub C dX4_toOrder_56 (by omega) ?_
          refine gw_istore C (lv2 := [(5, iN ((((6) - (to_a x)) - (to_b x)) - (2))), (4, iN (2)), (3, iN (to_b x)), (2, iN (to_a x)), (0, iN (x)), (1, .ref (oa))]) dX4_toOrder_57 (by omega) rfl ?_
          refine gw_iload_n C 4 dX4_toOrder_59 rfl rfl ?_
          refine gw_iconst C 2 dX4_toOrder_60 (by decide) ?_
          refine gw_irem C dX4_toOrder_61 (by omega) (by omega) (by omega) ?_
          refine gw_if_ne C 69 dX4_toOrder_62 (by decide) (by omega) (fun h81 => ?_) (fun h81 => ?_)
          ·
            refine gw_iconst C 0 dX4_toOrder_69 (by decide) ?_
            refine gw_istore C (lv2 := [(6, iN (0)), (5, iN ((((6) - (to_a x)) - (to_b x)) - (2))), (4, iN (2)), (3, iN (to_b x)), (2, iN (to_a x)), (0, iN (x)), (1, .ref (oa))]) dX4_toOrder_70 (by omega) rfl ?_
            refine gw_aload_n C 6 dX4_toOrder_72 rfl rfl ?_
            refine gw_iconst C 0 dX4_toOrder_73 (by decide) ?_
            refine gw_iload_n C 4 dX4_toOrder_74 rfl rfl ?_
            refine gw_istN C (ws2 := [(oa, .inl (cI, 4, .inl (fun j => nI ((up1 f (0) (to_a x)) j))))]) 0 0 dX4_toOrder_75 rfl rfl (by first | decide | omega) (by omega) rfl ?_
            refine gw_aload_n C 6 dX4_toOrder_76 rfl rfl ?_
            refine gw_iconst C 1 dX4_toOrder_77 (by decide) ?_
            refine gw_iload_n C 3 dX4_toOrder_78 rfl rfl ?_
            refine gw_istN C (ws2 := [(oa, .inl (cI, 4, .inl (fun j => nI ((up1 (up1 f (0) (to_a x)) (1) (to_b x)) j))))]) 0 0 dX4_toOrder_79 rfl rfl (by first | decide | omega) (by omega) rfl ?_
            refine gw_aload_n C 6 dX4_toOrder_80 rfl rfl ?_
            refine gw_iconst C 2 dX4_toOrder_81 (by decide) ?_
            refine gw_iload C 0 dX4_toOrder_82 rfl ?_
            refine gw_if_eq C 92 dX4_toOrder_84 (by decide) (by omega) (fun h82 => ?_) (fun h82 => ?_)
            ·
              refine gw_iload C 1 dX4_toOrder_92 rfl ?_
              refine gw_istN C (ws2 := [(oa, .inl (cI, 4, .inl (fun j => nI ((up1 (up1 (up1 f (0) (to_a x)) (1) (to_b x)) (2) ((((6) - (to_a x)) - (to_b x)) - (2))) j))))]) 0 0 dX4_toOrder_94 rfl rfl (by first | decide | omega) (by omega) rfl ?_
              refine gw_aload_n C 6 dX4_toOrder_95 rfl rfl ?_
              refine gw_iconst C 3 dX4_toOrder_96 (by decide) ?_
              refine gw_iload C 0 dX4_toOrder_97 rfl ?_
              refine gw_if_eq C 107 dX4_toOrder_99 (by decide) (by omega) (fun h83 => ?_) (fun h83 => ?_)
              ·
                refine gw_iload C 2 dX4_toOrder_107 rfl ?_
                refine gw_istN C (ws2 := [(oa, .inl (cI, 4, .inl (fun j => nI ((up1 (up1 (up1 (up1 f (0) (to_a x)) (1) (to_b x)) (2) ((((6) - (to_a x)) - (to_b x)) - (2))) (3) (2)) j))))]) 0 0 dX4_toOrder_109 rfl rfl (by first | decide | omega) (by omega) rfl ?_
                have eh : 6 - to_a x - to_b x - 2 = to_h x := by rw [to_h, el]
                exact ret () dX4_toOrder_110 trivial (by rw [cu_to, if_neg (by assumption), if_neg (by assumption), to_h, el]) (Nat.le_refl 0) (Nat.le_refl 0)
              ·
                exact absurd h83 (by decide)
            ·
              exact absurd h82 (by decide)
          ·
            refine gw_iconst C 1 dX4_toOrder_65 (by decide) ?_
            refine gw_goto C 70 dX4_toOrder_66 (by decide) ?_
            refine gw_istore C (lv2 := [(6, iN (1)), (5, iN ((((6) - (to_a x)) - (to_b x)) - (2))), (4, iN (2)), (3, iN (to_b x)), (2, iN (to_a x)), (0, iN (x)), (1, .ref (oa))]) dX4_toOrder_70 (by omega) rfl ?_
            refine gw_aload_n C 6 dX4_toOrder_72 rfl rfl ?_
            refine gw_iconst C 0 dX4_toOrder_73 (by decide) ?_
            refine gw_iload_n C 4 dX4_toOrder_74 rfl rfl ?_
            refine gw_istN C (ws2 := [(oa, .inl (cI, 4, .inl (fun j => nI ((up1 f (0) (to_a x)) j))))]) 0 0 dX4_toOrder_75 rfl rfl (by first | decide | omega) (by omega) rfl ?_
            refine gw_aload_n C 6 dX4_toOrder_76 rfl rfl ?_
            refine gw_iconst C 1 dX4_toOrder_77 (by decide) ?_
            refine gw_iload_n C 3 dX4_toOrder_78 rfl rfl ?_
            refine gw_istN C (ws2 := [(oa, .inl (cI, 4, .inl (fun j => nI ((up1 (up1 f (0) (to_a x)) (1) (to_b x)) j))))]) 0 0 dX4_toOrder_79 rfl rfl (by first | decide | omega) (by omega) rfl ?_
            refine gw_aload_n C 6 dX4_toOrder_80 rfl rfl ?_
            refine gw_iconst C 2 dX4_toOrder_81 (by decide) ?_
            refine gw_iload C 0 dX4_toOrder_82 rfl ?_
            refine gw_if_eq C 92 dX4_toOrder_84 (by decide) (by omega) (fun h84 => ?_) (fun h84 => ?_)
            ·
              exact absurd h84 (by decide)
            ·
              refine gw_iload C 2 dX4_toOrder_87 rfl ?_
              refine gw_goto C 94 dX4_toOrder_89 (by decide) ?_
              refine gw_istN C (ws2 := [(oa, .inl (cI, 4, .inl (fun j => nI ((up1 (up1 (up1 f (0) (to_a x)) (1) (to_b x)) (2) (2)) j))))]) 0 0 dX4_toOrder_94 rfl rfl (by first | decide | omega) (by omega) rfl ?_
              refine gw_aload_n C 6 dX4_toOrder_95 rfl rfl ?_
              refine gw_iconst C 3 dX4_toOrder_96 (by decide) ?_
              refine gw_iload C 0 dX4_toOrder_97 rfl ?_
              refine gw_if_eq C 107 dX4_toOrder_99 (by decide) (by omega) (fun h85 => ?_) (fun h85 => ?_)
              ·
                exact absurd h85 (by decide)
              ·
                refine gw_iload C 1 dX4_toOrder_102 rfl ?_
                refine gw_goto C 109 dX4_toOrder_104 (by decide) ?_
                refine gw_istN C (ws2 := [(oa, .inl (cI, 4, .inl (fun j => nI ((up1 (up1 (up1 (up1 f (0) (to_a x)) (1) (to_b x)) (2) (2)) (3) ((((6) - (to_a x)) - (to_b x)) - (2))) j))))]) 0 0 dX4_toOrder_109 rfl rfl (by first | decide | omega) (by omega) rfl ?_
                have eh : 6 - to_a x - to_b x - 2 = to_h x := by rw [to_h, el]
                exact ret () dX4_toOrder_110 trivial (by rw [cu_to, if_pos (by assumption), if_pos (by assumption), to_h, el]) (Nat.le_refl 0) (Nat.le_refl 0)
        ·
          refine gw_iconst C 1 dX4_toOrder_41 (by decide) ?_
          refine gw_goto C 46 dX4_toOrder_42 (by decide) ?_
          refine gw_istore C (lv2 := [(4, iN (1)), (3, iN (to_b x)), (2, iN (to_a x)), (0, iN (x)), (1, .ref (oa))]) dX4_toOrder_46 (by omega) rfl ?_
          have el : to_l x = 1 := by rw [to_l, if_neg (by omega), if_pos (by omega)]
          refine gw_bipush C 6 dX4_toOrder_48 (by decide) ?_
          refine gw_iload_n C 2 dX4_toOrder_50 rfl rfl ?_
          refine gw_isub C dX4_toOrder_51 (by omega) ?_
          refine gw_iload_n C 1 dX4_toOrder_52 rfl rfl ?_
          refine gw_isub C dX4_toOrder_53 (by omega) ?_
          refine gw_iload C 0 dX4_toOrder_54 rfl ?_
          refine gw_isub C dX4_toOrder_56 (by omega) ?_
          refine gw_istore C (lv2 := [(5, iN ((((6) - (to_a x)) - (to_b x)) - (1))), (4, iN (1)), (3, iN (to_b x)), (2, iN (to_a x)), (0, iN (x)), (1, .ref (oa))]) dX4_toOrder_57 (by omega) rfl ?_
          refine gw_iload_n C 4 dX4_toOrder_59 rfl rfl ?_
          refine gw_iconst C 2 dX4_toOrder_60 (by decide) ?_
          refine gw_irem C dX4_toOrder_61 (by omega) (by omega) (by omega) ?_
          refine gw_if_ne C 69 dX4_toOrder_62 (by decide) (by omega) (fun h86 => ?_) (fun h86 => ?_)
          ·
            refine gw_iconst C 0 dX4_toOrder_69 (by decide) ?_
            refine gw_istore C (lv2 := [(6, iN (0)), (5, iN ((((6) - (to_a x)) - (to_b x)) - (1))), (4, iN (1)), (3, iN (to_b x)), (2, iN (to_a x)), (0, iN (x)), (1, .ref (oa))]) dX4_toOrder_70 (by omega) rfl ?_
            refine gw_aload_n C 6 dX4_toOrder_72 rfl rfl ?_
            refine gw_iconst C 0 dX4_toOrder_73 (by decide) ?_
            refine gw_iload_n C 4 dX4_toOrder_74 rfl rfl ?_
            refine gw_istN C (ws2 := [(oa, .inl (cI, 4, .inl (fun j => nI ((up1 f (0) (to_a x)) j))))]) 0 0 dX4_toOrder_75 rfl rfl (by first | decide | omega) (by omega) rfl ?_
            refine gw_aload_n C 6 dX4_toOrder_76 rfl rfl ?_
            refine gw_iconst C 1 dX4_toOrder_77 (by decide) ?_
            refine gw_iload_n C 3 dX4_toOrder_78 rfl rfl ?_
            refine gw_istN C (ws2 := [(oa, .inl (cI, 4, .inl (fun j => nI ((up1 (up1 f (0) (to_a x)) (1) (to_b x)) j))))]) 0 0 dX4_toOrder_79 rfl rfl (by first | decide | omega) (by omega) rfl ?_
            refine gw_aload_n C 6 dX4_toOrder_80 rfl rfl ?_
            refine gw_iconst C 2 dX4_toOrder_81 (by decide) ?_
            refine gw_iload C 0 dX4_toOrder_82 rfl ?_
            refine gw_if_eq C 92 dX4_toOrder_84 (by decide) (by omega) (fun h87 => ?_) (fun h87 => ?_)
            ·
              refine gw_iload C 1 dX4_toOrder_92 rfl ?_
              refine gw_istN C (ws2 := [(oa, .inl (cI, 4, .inl (fun j => nI ((up1 (up1 (up1 f (0) (to_a x)) (1) (to_b x)) (2) ((((6) - (to_a x)) - (to_b x)) - (1))) j))))]) 0 0 dX4_toOrder_94 rfl rfl (by first | decide | omega) (by omega) rfl ?_
              refine gw_aload_n C 6 dX4_toOrder_95 rfl rfl ?_
              refine gw_iconst C 3 dX4_toOrder_96 (by decide) ?_
              refine gw_iload C 0 dX4_toOrder_97 rfl ?_
              refine gw_if_eq C 107 dX4_toOrder_99 (by decide) (by omega) (fun h88 => ?_) (fun h88 => ?_)
              ·
                refine gw_iload C 2 dX4_toOrder_107 rfl ?_
                refine gw_istN C (ws2 := [(oa, .inl (cI, 4, .inl (fun j => nI ((up1 (up1 (up1 (up1 f (0) (to_a x)) (1) (to_b x)) (2) ((((6) - (to_a x)) - (to_b x)) - (1))) (3) (1)) j))))]) 0 0 dX4_toOrder_109 rfl rfl (by first | decide | omega) (by omega) rfl ?_
                have eh : 6 - to_a x - to_b x - 1 = to_h x := by rw [to_h, el]
                exact ret () dX4_toOrder_110 trivial (by rw [cu_to, if_neg (by assumption), if_neg (by assumption), to_h, el]) (Nat.le_refl 0) (Nat.le_refl 0)
              ·
                exact absurd h88 (by decide)
            ·
              exact absurd h87 (by decide)
          ·
            refine gw_iconst C 1 dX4_toOrder_65 (by decide) ?_
            refine gw_goto C 70 dX4_toOrder_66 (by decide) ?_
            refine gw_istore C (lv2 := [(6, iN (1)), (5, iN ((((6) - (to_a x)) - (to_b x)) - (1))), (4, iN (1)), (3, iN (to_b x)), (2, iN (to_a x)), (0, iN (x)), (1, .ref (oa))]) dX4_toOrder_70 (by omega) rfl ?_
            refine gw_aload_n C 6 dX4_toOrder_72 rfl rfl ?_
            refine gw_iconst C 0 dX4_toOrder_73 (by decide) ?_
            refine gw_iload_n C 4 dX4_toOrder_74 rfl rfl ?_
            refine gw_istN C (ws2 := [(oa, .inl (cI, 4, .inl (fun j => nI ((up1 f (0) (to_a x)) j))))]) 0 0 dX4_toOrder_75 rfl rfl (by first | decide | omega) (by omega) rfl ?_
            refine gw_aload_n C 6 dX4_toOrder_76 rfl rfl ?_
            refine gw_iconst C 1 dX4_toOrder_77 (by decide) ?_
            refine gw_iload_n C 3 dX4_toOrder_78 rfl rfl ?_
            refine gw_istN C (ws2 := [(oa, .inl (cI, 4, .inl (fun j => nI ((up1 (up1 f (0) (to_a x)) (1) (to_b x)) j))))]) 0 0 dX4_toOrder_79 rfl rfl (by first | decide | omega) (by omega) rfl ?_
            refine gw_aload_n C 6 dX4_toOrder_80 rfl rfl ?_
            refine gw_iconst C 2 dX4_toOrder_81 (by decide) ?_
            refine gw_iload C 0 dX4_toOrder_82 rfl ?_
            refine gw_if_eq C 92 dX4_toOrder_84 (by decide) (by omega) (fun h89 => ?_) (fun h89 => ?_)
            ·
              exact absurd h89 (by decide)
            ·
              refine gw_iload C 2 dX4_toOrder_87 rfl ?_
              refine gw_goto C 94 dX4_toOrder_89 (by decide) ?_
              refine gw_istN C (ws2 := [(oa, .inl (cI, 4, .inl (fun j => nI ((up1 (up1 (up1 f (0) (to_a x)) (1) (to_b x)) (2) (1)) j))))]) 0 0 dX4_toOrder_94 rfl rfl (by first | decide | omega) (by omega) rfl ?_
              refine gw_aload_n C 6 dX4_toOrder_95 rfl rfl ?_
              refine gw_iconst C 3 dX4_toOrder_96 (by decide) ?_
              refine gw_iload C 0 dX4_toOrder_97 rfl ?_
              refine gw_if_eq C 107 dX4_toOrder_99 (by decide) (by omega) (fun h90 => ?_) (fun h90 => ?_)
              ·
                exact absurd h90 (by decide)
              ·
                refine gw_iload C 1 dX4_toOrder_102 rfl ?_
                refine gw_goto C 109 dX4_toOrder_104 (by decide) ?_
                refine gw_istN C (ws2 := [(oa, .inl (cI, 4, .inl (fun j => nI ((up1 (up1 (up1 (up1 f (0) (to_a x)) (1) (to_b x)) (2) (1)) (3) ((((6) - (to_a x)) - (to_b x)) - (1))) j))))]) 0 0 dX4_toOrder_109 rfl rfl (by first | decide | omega) (by omega) rfl ?_
                have eh : 6 - to_a x - to_b x - 1 = to_h x := by rw [to_h, el]
                exact ret () dX4_toOrder_110 trivial (by rw [cu_to, if_pos (by assumption), if_pos (by assumption), to_h, el]) (Nat.le_refl 0) (Nat.le_refl 0)
    ·
      refine gw_iload_n C 0 dX4_toOrder_23 rfl rfl ?_
      refine gw_if_eq C 31 dX4_toOrder_24 (by decide) (by omega) (fun h91 => ?_) (fun h91 => ?_)
      ·
        refine gw_iload_n C 1 dX4_toOrder_31 rfl rfl ?_
        refine gw_iconst C 1 dX4_toOrder_32 (by decide) ?_
        refine gw_icmp_eq C 45 dX4_toOrder_33 (by decide) (by omega) (by omega) (fun h92 => ?_) (fun h92 => ?_)
        ·
          refine gw_iconst C 2 dX4_toOrder_45 (by decide) ?_
          refine gw_istore C (lv2 := [(4, iN (2)), (3, iN (to_b x)), (2, iN (to_a x)), (0, iN (x)), (1, .ref (oa))]) dX4_toOrder_46 (by omega) rfl ?_
          have el : to_l x = 2 := by rw [to_l, if_neg (by omega), if_neg (by omega)]
          refine gw_bipush C 6 dX4_toOrder_48 (by decide) ?_
          refine gw_iload_n C 2 dX4_toOrder_50 rfl rfl ?_
          refine gw_isub C dX4_toOrder_51 (by omega) ?_
          refine gw_iload_n C 1 dX4_toOrder_52 rfl rfl ?_
          refine gw_isub C dX4_toOrder_53 (by omega) ?_
          refine gw_iload C 0 dX4_toOrder_54 rfl ?_
          refine gw_isub C dX4_toOrder_56 (by omega) ?_
          refine gw_istore C (lv2 := [(5, iN ((((6) - (to_a x)) - (to_b x)) - (2))), (4, iN (2)), (3, iN (to_b x)), (2, iN (to_a x)), (0, iN (x)), (1, .ref (oa))]) dX4_toOrder_57 (by omega) rfl ?_
          refine gw_iload_n C 4 dX4_toOrder_59 rfl rfl ?_
          refine gw_iconst C 2 dX4_toOrder_60 (by decide) ?_
          refine gw_irem C dX4_toOrder_61 (by omega) (by omega) (by omega) ?_
          refine gw_if_ne C 69 dX4_toOrder_62 (by decide) (by omega) (fun h93 => ?_) (fun h93 => ?_)
          ·
            refine gw_iconst C 0 dX4_toOrder_69 (by decide) ?_
            refine gw_istore C (lv2 := [(6, iN (0)), (5, iN ((((6) - (to_a x)) - (to_b x)) - (2))), (4, iN (2)), (3, iN (to_b x)), (2, iN (to_a x)), (0, iN (x)), (1, .ref (oa))]) dX4_toOrder_70 (by omega) rfl ?_
            refine gw_aload_n C 6 dX4_toOrder_72 rfl rfl ?_
            refine gw_iconst C 0 dX4_toOrder_73 (by decide) ?_
            refine gw_iload_n C 4 dX4_toOrder_74 rfl rfl ?_
            refine gw_istN C (ws2 := [(oa, .inl (cI, 4, .inl (fun j => nI ((up1 f (0) (to_a x)) j))))]) 0 0 dX4_toOrder_75 rfl rfl (by first | decide | omega) (by omega) rfl ?_
            refine gw_aload_n C 6 dX4_toOrder_76 rfl rfl ?_
            refine gw_iconst C 1 dX4_toOrder_77 (by decide) ?_
            refine gw_iload_n C 3 dX4_toOrder_78 rfl rfl ?_
            refine gw_istN C (ws2 := [(oa, .inl (cI, 4, .inl (fun j => nI ((up1 (up1 f (0) (to_a x)) (1) (to_b x)) j))))]) 0 0 dX4_toOrder_79 rfl rfl (by first | decide | omega) (by omega) rfl ?_
            refine gw_aload_n C 6 dX4_toOrder_80 rfl rfl ?_
            refine gw_iconst C 2 dX4_toOrder_81 (by decide) ?_
            refine gw_iload C 0 dX4_toOrder_82 rfl ?_
            refine gw_if_eq C 92 dX4_toOrder_84 (by decide) (by omega) (fun h94 => ?_) (fun h94 => ?_)
            ·
              refine gw_iload C 1 dX4_toOrder_92 rfl ?_
              refine gw_istN C (ws2 := [(oa, .inl (cI, 4, .inl (fun j => nI ((up1 (up1 (up1 f (0) (to_a x)) (1) (to_b x)) (2) ((((6) - (to_a x)) - (to_b x)) - (2))) j))))]) 0 0 dX4_toOrder_94 rfl rfl (by first | decide | omega) (by omega) rfl ?_
              refine gw_aload_n C 6 dX4_toOrder_95 rfl rfl ?_
              refine gw_iconst C 3 dX4_toOrder_96 (by decide) ?_
              refine gw_iload C 0 dX4_toOrder_97 rfl ?_
              refine gw_if_eq C 107 dX4_toOrder_99 (by decide) (by omega) (fun h95 => ?_) (fun h95 => ?_)
              ·
                refine gw_iload C 2 dX4_toOrder_107 rfl ?_
                refine gw_istN C (ws2 := [(oa, .inl (cI, 4, .inl (fun j => nI ((up1 (up1 (up1 (up1 f (0) (to_a x)) (1) (to_b x)) (2) ((((6) - (to_a x)) - (to_b x)) - (2))) (3) (2)) j))))]) 0 0 dX4_toOrder_109 rfl rfl (by first | decide | omega) (by omega) rfl ?_
                have eh : 6 - to_a x - to_b x - 2 = to_h x := by rw [to_h, el]
                exact ret () dX4_toOrder_110 trivial (by rw [cu_to, if_neg (by assumption), if_neg (by assumption), to_h, el]) (Nat.le_refl 0) (Nat.le_refl 0)
              ·
                exact absurd h95 (by decide)
            ·
              exact absurd h94 (by decide)
          ·
            refine gw_iconst C 1 dX4_toOrder_65 (by decide) ?_
            refine gw_goto C 70 dX4_toOrder_66 (by decide) ?_
            refine gw_istore C (lv2 := [(6, iN (1)), (5, iN ((((6) - (to_a x)) - (to_b x)) - (2))), (4, iN (2)), (3, iN (to_b x)), (2, iN (to_a x)), (0, iN (x)), (1, .ref (oa))]) dX4_toOrder_70 (by omega) rfl ?_
            refine gw_aload_n C 6 dX4_toOrder_72 rfl rfl ?_
            refine gw_iconst C 0 dX4_toOrder_73 (by decide) ?_
            refine gw_iload_n C 4 dX4_toOrder_74 rfl rfl ?_
            refine gw_istN C (ws2 := [(oa, .inl (cI, 4, .inl (fun j => nI ((up1 f (0) (to_a x)) j))))]) 0 0 dX4_toOrder_75 rfl rfl (by first | decide | omega) (by omega) rfl ?_
            refine gw_aload_n C 6 dX4_toOrder_76 rfl rfl ?_
            refine gw_iconst C 1 dX4_toOrder_77 (by decide) ?_
            refine gw_iload_n C 3 dX4_toOrder_78 rfl rfl ?_
            refine gw_istN C (ws2 := [(oa, .inl (cI, 4, .inl (fun j => nI ((up1 (up1 f (0) (to_a x)) (1) (to_b x)) j))))]) 0 0 dX4_toOrder_79 rfl rfl (by first | decide | omega) (by omega) rfl ?_
            refine gw_aload_n C 6 dX4_toOrder_80 rfl rfl ?_
            refine gw_iconst C 2 dX4_toOrder_81 (by decide) ?_
            refine gw_iload C 0 dX4_toOrder_82 rfl ?_
            refine gw_if_eq C 92 dX4_toOrder_84 (by decide) (by omega) (fun h96 => ?_) (fun h96 => ?_)
            ·
              exact absurd h96 (by decide)
            ·
              refine gw_iload C 2 dX4_toOrder_87 rfl ?_
              refine gw_goto C 94 dX4_toOrder_89 (by decide) ?_
              refine gw_istN C (ws2 := [(oa, .inl (cI, 4, .inl (fun j => nI ((up1 (up1 (up1 f (0) (to_a x)) (1) (to_b x)) (2) (2)) j))))]) 0 0 dX4_toOrder_94 rfl rfl (by first | decide | omega) (by omega) rfl ?_
              refine gw_aload_n C 6 dX4_toOrder_95 rfl rfl ?_
              refine gw_iconst C 3 dX4_toOrder_96 (by decide) ?_
              refine gw_iload C 0 dX4_toOrder_97 rfl ?_
              refine gw_if_eq C 107 dX4_toOrder_99 (by decide) (by omega) (fun h97 => ?_) (fun h97 => ?_)
              ·
                exact absurd h97 (by decide)
              ·
                refine gw_iload C 1 dX4_toOrder_102 rfl ?_
                refine gw_goto C 109 dX4_toOrder_104 (by decide) ?_
                refine gw_istN C (ws2 := [(oa, .inl (cI, 4, .inl (fun j => nI ((up1 (up1 (up1 (up1 f (0) (to_a x)) (1) (to_b x)) (2) (2)) (3) ((((6) - (to_a x)) - (to_b x)) - (2))) j))))]) 0 0 dX4_toOrder_109 rfl rfl (by first | decide | omega) (by omega) rfl ?_
                have eh : 6 - to_a x - to_b x - 2 = to_h x := by rw [to_h, el]
                exact ret () dX4_toOrder_110 trivial (by rw [cu_to, if_pos (by assumption), if_pos (by assumption), to_h, el]) (Nat.le_refl 0) (Nat.le_refl 0)
        ·
          refine gw_iload_n C 0 dX4_toOrder_36 rfl rfl ?_
          refine gw_iconst C 1 dX4_toOrder_37 (by decide) ?_
          refine gw_icmp_eq C 45 dX4_toOrder_38 (by decide) (by omega) (by omega) (fun h98 => ?_) (fun h98 => ?_)
          ·
            refine gw_iconst C 2 dX4_toOrder_45 (by decide) ?_
            refine gw_istore C (lv2 := [(4, iN (2)), (3, iN (to_b x)), (2, iN (to_a x)), (0, iN (x)), (1, .ref (oa))]) dX4_toOrder_46 (by omega) rfl ?_
            have el : to_l x = 2 := by rw [to_l, if_neg (by omega), if_neg (by omega)]
            refine gw_bipush C 6 dX4_toOrder_48 (by decide) ?_
            refine gw_iload_n C 2 dX4_toOrder_50 rfl rfl ?_
            refine gw_isub C dX4_toOrder_51 (by omega) ?_
            refine gw_iload_n C 1 dX4_toOrder_52 rfl rfl ?_
            refine gw_isub C dX4_toOrder_53 (by omega) ?_
            refine gw_iload C 0 dX4_toOrder_54 rfl ?_
            refine gw_isub C dX4_toOrder_56 (by omega) ?_
            refine gw_istore C (lv2 := [(5, iN ((((6) - (to_a x)) - (to_b x)) - (2))), (4, iN (2)), (3, iN (to_b x)), (2, iN (to_a x)), (0, iN (x)), (1, .ref (oa))]) dX4_toOrder_57 (by omega) rfl ?_
            refine gw_iload_n C 4 dX4_toOrder_59 rfl rfl ?_
            refine gw_iconst C 2 dX4_toOrder_60 (by decide) ?_
            refine gw_irem C dX4_toOrder_61 (by omega) (by omega) (by omega) ?_
            refine gw_if_ne C 69 dX4_toOrder_62 (by decide) (by omega) (fun h99 => ?_) (fun h99 => ?_)
            ·
              refine gw_iconst C 0 dX4_toOrder_69 (by decide) ?_
              refine gw_istore C (lv2 := [(6, iN (0)), (5, iN ((((6) - (to_a x)) - (to_b x)) - (2))), (4, iN (2)), (3, iN (to_b x)), (2, iN (to_a x)), (0, iN (x)), (1, .ref (oa))]) dX4_toOrder_70 (by omega) rfl ?_
              refine gw_aload_n C 6 dX4_toOrder_72 rfl rfl ?_
              refine gw_iconst C 0 dX4_toOrder_73 (by decide) ?_
              refine gw_iload_n C 4 dX4_toOrder_74 rfl rfl ?_
              refine gw_istN C (ws2 := [(oa, .inl (cI, 4, .inl (fun j => nI ((up1 f (0) (to_a x)) j))))]) 0 0 dX4_toOrder_75 rfl rfl (by first | decide | omega) (by omega) rfl ?_
              refine gw_aload_n C 6 dX4_toOrder_76 rfl rfl ?_
              refine gw_iconst C 1 dX4_toOrder_77 (by decide) ?_
              refine gw_iload_n C 3 dX4_toOrder_78 rfl rfl ?_
              refine gw_istN C (ws2 := [(oa, .inl (cI, 4, .inl (fun j => nI ((up1 (up1 f (0) (to_a x)) (1) (to_b x)) j))))]) 0 0 dX4_toOrder_79 rfl rfl (by first | decide | omega) (by omega) rfl ?_
              refine gw_aload_n C 6 dX4_toOrder_80 rfl rfl ?_
              refine gw_iconst C 2 dX4_toOrder_81 (by decide) ?_
              refine gw_iload C 0 dX4_toOrder_82 rfl ?_
              refine gw_if_eq C 92 dX4_toOrder_84 (by decide) (by omega) (fun h100 => ?_) (fun h100 => ?_)
              ·
                refine gw_iload C 1 dX4_toOrder_92 rfl ?_
                refine gw_istN C (ws2 := [(oa, .inl (cI, 4, .inl (fun j => nI ((up1 (up1 (up1 f (0) (to_a x)) (1) (to_b x)) (2) ((((6) - (to_a x)) - (to_b x)) - (2))) j))))]) 0 0 dX4_toOrder_94 rfl rfl (by first | decide | omega) (by omega) rfl ?_
                refine gw_aload_n C 6 dX4_toOrder_95 rfl rfl ?_
                refine gw_iconst C 3 dX4_toOrder_96 (by decide) ?_
                refine gw_iload C 0 dX4_toOrder_97 rfl ?_
                refine gw_if_eq C 107 dX4_toOrder_99 (by decide) (by omega) (fun h101 => ?_) (fun h101 => ?_)
                ·
                  refine gw_iload C 2 dX4_toOrder_107 rfl ?_
                  refine gw_istN C (ws2 := [(oa, .inl (cI, 4, .inl (fun j => nI ((up1 (up1 (up1 (up1 f (0) (to_a x)) (1) (to_b x)) (2) ((((6) - (to_a x)) - (to_b x)) - (2))) (3) (2)) j))))]) 0 0 dX4_toOrder_109 rfl rfl (by first | decide | omega) (by omega) rfl ?_
                  have eh : 6 - to_a x - to_b x - 2 = to_h x := by rw [to_h, el]
                  exact ret () dX4_toOrder_110 trivial (by rw [cu_to, if_neg (by assumption), if_neg (by assumption), to_h, el]) (Nat.le_refl 0) (Nat.le_refl 0)
                ·
                  exact absurd h101 (by decide)
              ·
                exact absurd h100 (by decide)
            ·
              refine gw_iconst C 1 dX4_toOrder_65 (by decide) ?_
              refine gw_goto C 70 dX4_toOrder_66 (by decide) ?_
              refine gw_istore C (lv2 := [(6, iN (1)), (5, iN ((((6) - (to_a x)) - (to_b x)) - (2))), (4, iN (2)), (3, iN (to_b x)), (2, iN (to_a x)), (0, iN (x)), (1, .ref (oa))]) dX4_toOrder_70 (by omega) rfl ?_
              refine gw_aload_n C 6 dX4_toOrder_72 rfl rfl ?_
              refine gw_iconst C 0 dX4_toOrder_73 (by decide) ?_
              refine gw_iload_n C 4 dX4_toOrder_74 rfl rfl ?_
              refine gw_istN C (ws2 := [(oa, .inl (cI, 4, .inl (fun j => nI ((up1 f (0) (to_a x)) j))))]) 0 0 dX4_toOrder_75 rfl rfl (by first | decide | omega) (by omega) rfl ?_
              refine gw_aload_n C 6 dX4_toOrder_76 rfl rfl ?_
              refine gw_iconst C 1 dX4_toOrder_77 (by decide) ?_
              refine gw_iload_n C 3 dX4_toOrder_78 rfl rfl ?_
              refine gw_istN C (ws2 := [(oa, .inl (cI, 4, .inl (fun j => nI ((up1 (up1 f (0) (to_a x)) (1) (to_b x)) j))))]) 0 0 dX4_toOrder_79 rfl rfl (by first | decide | omega) (by omega) rfl ?_
              refine gw_aload_n C 6 dX4_toOrder_80 rfl rfl ?_
              refine gw_iconst C 2 dX4_toOrder_81 (by decide) ?_
              refine gw_iload C 0 dX4_toOrder_82 rfl ?_
              refine gw_if_eq C 92 dX4_toOrder_84 (by decide) (by omega) (fun h102 => ?_) (fun h102 => ?_)
              ·
                exact absurd h102 (by decide)
              ·
                refine gw_iload C 2 dX4_toOrder_87 rfl ?_
                refine gw_goto C 94 dX4_toOrder_89 (by decide) ?_
                refine gw_istN C (ws2 := [(oa, .inl (cI, 4, .inl (fun j => nI ((up1 (up1 (up1 f (0) (to_a x)) (1) (to_b x)) (2) (2)) j))))]) 0 0 dX4_toOrder_94 rfl rfl (by first | decide | omega) (by omega) rfl ?_
                refine gw_aload_n C 6 dX4_toOrder_95 rfl rfl ?_
                refine gw_iconst C 3 dX4_toOrder_96 (by decide) ?_
                refine gw_iload C 0 dX4_toOrder_97 rfl ?_
                refine gw_if_eq C 107 dX4_toOrder_99 (by decide) (by omega) (fun h103 => ?_) (fun h103 => ?_)
                ·
                  exact absurd h103 (by decide)
                ·
                  refine gw_iload C 1 dX4_toOrder_102 rfl ?_
                  refine gw_goto C 109 dX4_toOrder_104 (by decide) ?_
                  refine gw_istN C (ws2 := [(oa, .inl (cI, 4, .inl (fun j => nI ((up1 (up1 (up1 (up1 f (0) (to_a x)) (1) (to_b x)) (2) (2)) (3) ((((6) - (to_a x)) - (to_b x)) - (2))) j))))]) 0 0 dX4_toOrder_109 rfl rfl (by first | decide | omega) (by omega) rfl ?_
                  have eh : 6 - to_a x - to_b x - 2 = to_h x := by rw [to_h, el]
                  exact ret () dX4_toOrder_110 trivial (by rw [cu_to, if_pos (by assumption), if_pos (by assumption), to_h, el]) (Nat.le_refl 0) (Nat.le_refl 0)
          ·
            refine gw_iconst C 1 dX4_toOrder_41 (by decide) ?_
            refine gw_goto C 46 dX4_toOrder_42 (by decide) ?_
            refine gw_istore C (lv2 := [(4, iN (1)), (3, iN (to_b x)), (2, iN (to_a x)), (0, iN (x)), (1, .ref (oa))]) dX4_toOrder_46 (by omega) rfl ?_
            have el : to_l x = 1 := by rw [to_l, if_neg (by omega), if_pos (by omega)]
            refine gw_bipush C 6 dX4_toOrder_48 (by decide) ?_
            refine gw_iload_n C 2 dX4_toOrder_50 rfl rfl ?_
            refine gw_isub C dX4_toOrder_51 (by omega) ?_
            refine gw_iload_n C 1 dX4_toOrder_52 rfl rfl ?_
            refine gw_isub C dX4_toOrder_53 (by omega) ?_
            refine gw_iload C 0 dX4_toOrder_54 rfl ?_
            refine gw_isub C dX4_toOrder_56 (by omega) ?_
            refine gw_istore C (lv2 := [(5, iN ((((6) - (to_a x)) - (to_b x)) - (1))), (4, iN (1)), (3, iN (to_b x)), (2, iN (to_a x)), (0, iN (x)), (1, .ref (oa))]) dX4_toOrder_57 (by omega) rfl ?_
            refine gw_iload_n C 4 dX4_toOrder_59 rfl rfl ?_
            refine gw_iconst C 2 dX4_toOrder_60 (by decide) ?_
            refine gw_irem C dX4_toOrder_61 (by omega) (by omega) (by omega) ?_
            refine gw_if_ne C 69 dX4_toOrder_62 (by decide) (by omega) (fun h104 => ?_) (fun h104 => ?_)
            ·
              refine gw_iconst C 0 dX4_toOrder_69 (by decide) ?_
              refine gw_istore C (lv2 := [(6, iN (0)), (5, iN ((((6) - (to_a x)) - (to_b x)) - (1))), (4, iN (1)), (3, iN (to_b x)), (2, iN (to_a x)), (0, iN (x)), (1, .ref (oa))]) dX4_toOrder_70 (by omega) rfl ?_
              refine gw_aload_n C 6 dX4_toOrder_72 rfl rfl ?_
              refine gw_iconst C 0 dX4_toOrder_73 (by decide) ?_
              refine gw_iload_n C 4 dX4_toOrder_74 rfl rfl ?_
              refine gw_istN C (ws2 := [(oa, .inl (cI, 4, .inl (fun j => nI ((up1 f (0) (to_a x)) j))))]) 0 0 dX4_toOrder_75 rfl rfl (by first | decide | omega) (by omega) rfl ?_
              refine gw_aload_n C 6 dX4_toOrder_76 rfl rfl ?_
              refine gw_iconst C 1 dX4_toOrder_77 (by decide) ?_
              refine gw_iload_n C 3 dX4_toOrder_78 rfl rfl ?_
              refine gw_istN C (ws2 := [(oa, .inl (cI, 4, .inl (fun j => nI ((up1 (up1 f (0) (to_a x)) (1) (to_b x)) j))))]) 0 0 dX4_toOrder_79 rfl rfl (by first | decide | omega) (by omega) rfl ?_
              refine gw_aload_n C 6 dX4_toOrder_80 rfl rfl ?_
              refine gw_iconst C 2 dX4_toOrder_81 (by decide) ?_
              refine gw_iload C 0 dX4_toOrder_82 rfl ?_
              refine gw_if_eq C 92 dX4_toOrder_84 (by decide) (by omega) (fun h105 => ?_) (fun h105 => ?_)
              ·
                refine gw_iload C 1 dX4_toOrder_92 rfl ?_
                refine gw_istN C (ws2 := [(oa, .inl (cI, 4, .inl (fun j => nI ((up1 (up1 (up1 f (0) (to_a x)) (1) (to_b x)) (2) ((((6) - (to_a x)) - (to_b x)) - (1))) j))))]) 0 0 dX4_toOrder_94 rfl rfl (by first | decide | omega) (by omega) rfl ?_
                refine gw_aload_n C 6 dX4_toOrder_95 rfl rfl ?_
                refine gw_iconst C 3 dX4_toOrder_96 (by decide) ?_
                refine gw_iload C 0 dX4_toOrder_97 rfl ?_
                refine gw_if_eq C 107 dX4_toOrder_99 (by decide) (by omega) (fun h106 => ?_) (fun h106 => ?_)
                ·
                  refine gw_iload C 2 dX4_toOrder_107 rfl ?_
                  refine gw_istN C (ws2 := [(oa, .inl (cI, 4, .inl (fun j => nI ((up1 (up1 (up1 (up1 f (0) (to_a x)) (1) (to_b x)) (2) ((((6) - (to_a x)) - (to_b x)) - (1))) (3) (1)) j))))]) 0 0 dX4_toOrder_109 rfl rfl (by first | decide | omega) (by omega) rfl ?_
                  have eh : 6 - to_a x - to_b x - 1 = to_h x := by rw [to_h, el]
                  exact ret () dX4_toOrder_110 trivial (by rw [cu_to, if_neg (by assumption), if_neg (by assumption), to_h, el]) (Nat.le_refl 0) (Nat.le_refl 0)
                ·
                  exact absurd h106 (by decide)
              ·
                exact absurd h105 (by decide)
            ·
              refine gw_iconst C 1 dX4_toOrder_65 (by decide) ?_
              refine gw_goto C 70 dX4_toOrder_66 (by decide) ?_
              refine gw_istore C (lv2 := [(6, iN (1)), (5, iN ((((6) - (to_a x)) - (to_b x)) - (1))), (4, iN (1)), (3, iN (to_b x)), (2, iN (to_a x)), (0, iN (x)), (1, .ref (oa))]) dX4_toOrder_70 (by omega) rfl ?_
              refine gw_aload_n C 6 dX4_toOrder_72 rfl rfl ?_
              refine gw_iconst C 0 dX4_toOrder_73 (by decide) ?_
              refine gw_iload_n C 4 dX4_toOrder_74 rfl rfl ?_
              refine gw_istN C (ws2 := [(oa, .inl (cI, 4, .inl (fun j => nI ((up1 f (0) (to_a x)) j))))]) 0 0 dX4_toOrder_75 rfl rfl (by first | decide | omega) (by omega) rfl ?_
              refine gw_aload_n C 6 dX4_toOrder_76 rfl rfl ?_
              refine gw_iconst C 1 dX4_toOrder_77 (by decide) ?_
              refine gw_iload_n C 3 dX4_toOrder_78 rfl rfl ?_
              refine gw_istN C (ws2 := [(oa, .inl (cI, 4, .inl (fun j => nI ((up1 (up1 f (0) (to_a x)) (1) (to_b x)) j))))]) 0 0 dX4_toOrder_79 rfl rfl (by first | decide | omega) (by omega) rfl ?_
              refine gw_aload_n C 6 dX4_toOrder_80 rfl rfl ?_
              refine gw_iconst C 2 dX4_toOrder_81 (by decide) ?_
              refine gw_iload C 0 dX4_toOrder_82 rfl ?_
              refine gw_if_eq C 92 dX4_toOrder_84 (by decide) (by omega) (fun h107 => ?_) (fun h107 => ?_)
              ·
                exact absurd h107 (by decide)
              ·
                refine gw_iload C 2 dX4_toOrder_87 rfl ?_
                refine gw_goto C 94 dX4_toOrder_89 (by decide) ?_
                refine gw_istN C (ws2 := [(oa, .inl (cI, 4, .inl (fun j => nI ((up1 (up1 (up1 f (0) (to_a x)) (1) (to_b x)) (2) (1)) j))))]) 0 0 dX4_toOrder_94 rfl rfl (by first | decide | omega) (by omega) rfl ?_
                refine gw_aload_n C 6 dX4_toOrder_95 rfl rfl ?_
                refine gw_iconst C 3 dX4_toOrder_96 (by decide) ?_
                refine gw_iload C 0 dX4_toOrder_97 rfl ?_
                refine gw_if_eq C 107 dX4_toOrder_99 (by decide) (by omega) (fun h108 => ?_) (fun h108 => ?_)
                ·
                  exact absurd h108 (by decide)
                ·
                  refine gw_iload C 1 dX4_toOrder_102 rfl ?_
                  refine gw_goto C 109 dX4_toOrder_104 (by decide) ?_
                  refine gw_istN C (ws2 := [(oa, .inl (cI, 4, .inl (fun j => nI ((up1 (up1 (up1 (up1 f (0) (to_a x)) (1) (to_b x)) (2) (1)) (3) ((((6) - (to_a x)) - (to_b x)) - (1))) j))))]) 0 0 dX4_toOrder_109 rfl rfl (by first | decide | omega) (by omega) rfl ?_
                  have eh : 6 - to_a x - to_b x - 1 = to_h x := by rw [to_h, el]
                  exact ret () dX4_toOrder_110 trivial (by rw [cu_to, if_pos (by assumption), if_pos (by assumption), to_h, el]) (Nat.le_refl 0) (Nat.le_refl 0)
      ·
        refine gw_iconst C 0 dX4_toOrder_27 (by decide) ?_
        refine gw_goto C 46 dX4_toOrder_28 (by decide) ?_
        refine gw_istore C (lv2 := [(4, iN (0)), (3, iN (to_b x)), (2, iN (to_a x)), (0, iN (x)), (1, .ref (oa))]) dX4_toOrder_46 (by omega) rfl ?_
        have el : to_l x = 0 := by rw [to_l, if_pos (by omega)]
        refine gw_bipush C 6 dX4_toOrder_48 (by decide) ?_
        refine gw_iload_n C 2 dX4_toOrder_50 rfl rfl ?_
        refine gw_isub C dX4_toOrder_51 (by omega) ?_
        refine gw_iload_n C 1 dX4_toOrder_52 rfl rfl ?_
        refine gw_isub C dX4_toOrder_53 (by omega) ?_
        refine gw_iload C 0 dX4_toOrder_54 rfl ?_
        refine gw_isub C dX4_toOrder_56 (by omega) ?_
        refine gw_istore C (lv2 := [(5, iN ((((6) - (to_a x)) - (to_b x)) - (0))), (4, iN (0)), (3, iN (to_b x)), (2, iN (to_a x)), (0, iN (x)), (1, .ref (oa))]) dX4_toOrder_57 (by omega) rfl ?_
        refine gw_iload_n C 4 dX4_toOrder_59 rfl rfl ?_
        refine gw_iconst C 2 dX4_toOrder_60 (by decide) ?_
        refine gw_irem C dX4_toOrder_61 (by omega) (by omega) (by omega) ?_
        refine gw_if_ne C 69 dX4_toOrder_62 (by decide) (by omega) (fun h109 => ?_) (fun h109 => ?_)
        ·
          refine gw_iconst C 0 dX4_toOrder_69 (by decide) ?_
          refine gw_istore C (lv2 := [(6, iN (0)), (5, iN ((((6) - (to_a x)) - (to_b x)) - (0))), (4, iN (0)), (3, iN (to_b x)), (2, iN (to_a x)), (0, iN (x)), (1, .ref (oa))]) dX4_toOrder_70 (by omega) rfl ?_
          refine gw_aload_n C 6 dX4_toOrder_72 rfl rfl ?_
          refine gw_iconst C 0 dX4_toOrder_73 (by decide) ?_
          refine gw_iload_n C 4 dX4_toOrder_74 rfl rfl ?_
          refine gw_istN C (ws2 := [(oa, .inl (cI, 4, .inl (fun j => nI ((up1 f (0) (to_a x)) j))))]) 0 0 dX4_toOrder_75 rfl rfl (by first | decide | omega) (by omega) rfl ?_
          refine gw_aload_n C 6 dX4_toOrder_76 rfl rfl ?_
          refine gw_iconst C 1 dX4_toOrder_77 (by decide) ?_
          refine gw_iload_n C 3 dX4_toOrder_78 rfl rfl ?_
          refine gw_istN C (ws2 := [(oa, .inl (cI, 4, .inl (fun j => nI ((up1 (up1 f (0) (to_a x)) (1) (to_b x)) j))))]) 0 0 dX4_toOrder_79 rfl rfl (by first | decide | omega) (by omega) rfl ?_
          refine gw_aload_n C 6 dX4_toOrder_80 rfl rfl ?_
          refine gw_iconst C 2 dX4_toOrder_81 (by decide) ?_
          refine gw_iload C 0 dX4_toOrder_82 rfl ?_
          refine gw_if_eq C 92 dX4_toOrder_84 (by decide) (by omega) (fun h110 => ?_) (fun h110 => ?_)
          ·
            refine gw_iload C 1 dX4_toOrder_92 rfl ?_
            refine gw_istN C (ws2 := [(oa, .inl (cI, 4, .inl (fun j => nI ((up1 (up1 (up1 f (0) (to_a x)) (1) (to_b x)) (2) ((((6) - (to_a x)) - (to_b x)) - (0))) j))))]) 0 0 dX4_toOrder_94 rfl rfl (by first | decide | omega) (by omega) rfl ?_
            refine gw_aload_n C 6 dX4_toOrder_95 rfl rfl ?_
            refine gw_iconst C 3 dX4_toOrder_96 (by decide) ?_
            refine gw_iload C 0 dX4_toOrder_97 rfl ?_
            refine gw_if_eq C 107 dX4_toOrder_99 (by decide) (by omega) (fun h111 => ?_) (fun h111 => ?_)
            ·
              refine gw_iload C 2 dX4_toOrder_107 rfl ?_
              refine gw_istN C (ws2 := [(oa, .inl (cI, 4, .inl (fun j => nI ((up1 (up1 (up1 (up1 f (0) (to_a x)) (1) (to_b x)) (2) ((((6) - (to_a x)) - (to_b x)) - (0))) (3) (0)) j))))]) 0 0 dX4_toOrder_109 rfl rfl (by first | decide | omega) (by omega) rfl ?_
              have eh : 6 - to_a x - to_b x - 0 = to_h x := by rw [to_h, el]
              exact ret () dX4_toOrder_110 trivial (by rw [cu_to, if_neg (by assumption), if_neg (by assumption), to_h, el]) (Nat.le_refl 0) (Nat.le_refl 0)
            ·
              exact absurd h111 (by decide)
          ·
            exact absurd h110 (by decide)
        ·
          refine gw_iconst C 1 dX4_toOrder_65 (by decide) ?_
          refine gw_goto C 70 dX4_toOrder_66 (by decide) ?_
          refine gw_istore C (lv2 := [(6, iN (1)), (5, iN ((((6) - (to_a x)) - (to_b x)) - (0))), (4, iN (0)), (3, iN (to_b x)), (2, iN (to_a x)), (0, iN (x)), (1, .ref (oa))]) dX4_toOrder_70 (by omega) rfl ?_
          refine gw_aload_n C 6 dX4_toOrder_72 rfl rfl ?_
          refine gw_iconst C 0 dX4_toOrder_73 (by decide) ?_
          refine gw_iload_n C 4 dX4_toOrder_74 rfl rfl ?_
          refine gw_istN C (ws2 := [(oa, .inl (cI, 4, .inl (fun j => nI ((up1 f (0) (to_a x)) j))))]) 0 0 dX4_toOrder_75 rfl rfl (by first | decide | omega) (by omega) rfl ?_
          refine gw_aload_n C 6 dX4_toOrder_76 rfl rfl ?_
          refine gw_iconst C 1 dX4_toOrder_77 (by decide) ?_
          refine gw_iload_n C 3 dX4_toOrder_78 rfl rfl ?_
          refine gw_istN C (ws2 := [(oa, .inl (cI, 4, .inl (fun j => nI ((up1 (up1 f (0) (to_a x)) (1) (to_b x)) j))))]) 0 0 dX4_toOrder_79 rfl rfl (by first | decide | omega) (by omega) rfl ?_
          refine gw_aload_n C 6 dX4_toOrder_80 rfl rfl ?_
          refine gw_iconst C 2 dX4_toOrder_81 (by decide) ?_
          refine gw_iload C 0 dX4_toOrder_82 rfl ?_
          refine gw_if_eq C 92 dX4_toOrder_84 (by decide) (by omega) (fun h112 => ?_) (fun h112 => ?_)
          ·
            exact absurd h112 (by decide)
          ·
            refine gw_iload C 2 dX4_toOrder_87 rfl ?_
            refine gw_goto C 94 dX4_toOrder_89 (by decide) ?_
            refine gw_istN C (ws2 := [(oa, .inl (cI, 4, .inl (fun j => nI ((up1 (up1 (up1 f (0) (to_a x)) (1) (to_b x)) (2) (0)) j))))]) 0 0 dX4_toOrder_94 rfl rfl (by first | decide | omega) (by omega) rfl ?_
            refine gw_aload_n C 6 dX4_toOrder_95 rfl rfl ?_
            refine gw_iconst C 3 dX4_toOrder_96 (by decide) ?_
            refine gw_iload C 0 dX4_toOrder_97 rfl ?_
            refine gw_if_eq C 107 dX4_toOrder_99 (by decide) (by omega) (fun h113 => ?_) (fun h113 => ?_)
            ·
              exact absurd h113 (by decide)
            ·
              refine gw_iload C 1 dX4_toOrder_102 rfl ?_
              refine gw_goto C 109 dX4_toOrder_104 (by decide) ?_
              refine gw_istN C (ws2 := [(oa, .inl (cI, 4, .inl (fun j => nI ((up1 (up1 (up1 (up1 f (0) (to_a x)) (1) (to_b x)) (2) (0)) (3) ((((6) - (to_a x)) - (to_b x)) - (0))) j))))]) 0 0 dX4_toOrder_109 rfl rfl (by first | decide | omega) (by omega) rfl ?_
              have eh : 6 - to_a x - to_b x - 0 = to_h x := by rw [to_h, el]
              exact ret () dX4_toOrder_110 trivial (by rw [cu_to, if_pos (by assumption), if_pos (by assumption), to_h, el]) (Nat.le_refl 0) (Nat.le_refl 0)
  ·
    refine gw_iinc C (v := nI (((x) / (2)) % (3) + 1)) (lv2 := [(3, iN (((x) / (2)) % (3) + 1)), (2, iN ((x) / (6))), (0, iN (x)), (1, .ref (oa))]) 0 dX4_toOrder_16 rfl (nI_add _ _) (by omega) rfl ?_
    have eb : to_b x = ((x) / (2)) % (3) + 1 := by rw [to_b, if_neg (by omega)]
    have ea : to_a x = x / 6 := rfl
    rw [← eb, ← ea]
    refine gw_iload_n C 1 dX4_toOrder_19 rfl rfl ?_
    refine gw_if_eq C 31 dX4_toOrder_20 (by decide) (by omega) (fun h114 => ?_) (fun h114 => ?_)
    ·
      refine gw_iload_n C 1 dX4_toOrder_31 rfl rfl ?_
      refine gw_iconst C 1 dX4_toOrder_32 (by decide) ?_
      refine gw_icmp_eq C 45 dX4_toOrder_33 (by decide) (by omega) (by omega) (fun h115 => ?_) (fun h115 => ?_)
      ·
        refine gw_iconst C 2 dX4_toOrder_45 (by decide) ?_
        refine gw_istore C (lv2 := [(4, iN (2)), (3, iN (to_b x)), (2, iN (to_a x)), (0, iN (x)), (1, .ref (oa))]) dX4_toOrder_46 (by omega) rfl ?_
        have el : to_l x = 2 := by rw [to_l, if_neg (by omega), if_neg (by omega)]
        refine gw_bipush C 6 dX4_toOrder_48 (by decide) ?_
        refine gw_iload_n C 2 dX4_toOrder_50 rfl rfl ?_
        refine gw_isub C dX4_toOrder_51 (by omega) ?_
        refine gw_iload_n C 1 dX4_toOrder_52 rfl rfl ?_
        refine gw_isub C dX4_toOrder_53 (by omega) ?_
        refine gw_iload C 0 dX4_toOrder_54 rfl ?_
        refine gw_isub C dX4_toOrder_56 (by omega) ?_
        refine gw_istore C (lv2 := [(5, iN ((((6) - (to_a x)) - (to_b x)) - (2))), (4, iN (2)), (3, iN (to_b x)), (2, iN (to_a x)), (0, iN (x)), (1, .ref (oa))]) dX4_toOrder_57 (by omega) rfl ?_
        refine gw_iload_n C 4 dX4_toOrder_59 rfl rfl ?_
        refine gw_iconst C 2 dX4_toOrder_60 (by decide) ?_
        refine gw_irem C dX4_toOrder_61 (by omega) (by omega) (by omega) ?_
        refine gw_if_ne C 69 dX4_toOrder_62 (by decide) (by omega) (fun h116 => ?_) (fun h116 => ?_)
        ·
          refine gw_iconst C 0 dX4_toOrder_69 (by decide) ?_
          refine gw_istore C (lv2 := [(6, iN (0)), (5, iN ((((6) - (to_a x)) - (to_b x)) - (2))), (4, iN (2)), (3, iN (to_b x)), (2, iN (to_a x)), (0, iN (x)), (1, .ref (oa))]) dX4_toOrder_70 (by omega) rfl ?_
          refine gw_aload_n C 6 dX4_toOrder_72 rfl rfl ?_
          refine gw_iconst C 0 dX4_toOrder_73 (by decide) ?_
          refine gw_iload_n C 4 dX4_toOrder_74 rfl rfl ?_
          refine gw_istN C (ws2 := [(oa, .inl (cI, 4, .inl (fun j => nI ((up1 f (0) (to_a x)) j))))]) 0 0 dX4_toOrder_75 rfl rfl (by first | decide | omega) (by omega) rfl ?_
          refine gw_aload_n C 6 dX4_toOrder_76 rfl rfl ?_
          refine gw_iconst C 1 dX4_toOrder_77 (by decide) ?_
          refine gw_iload_n C 3 dX4_toOrder_78 rfl rfl ?_
          refine gw_istN C (ws2 := [(oa, .inl (cI, 4, .inl (fun j => nI ((up1 (up1 f (0) (to_a x)) (1) (to_b x)) j))))]) 0 0 dX4_toOrder_79 rfl rfl (by first | decide | omega) (by omega) rfl ?_
          refine gw_aload_n C 6 dX4_toOrder_80 rfl rfl ?_
          refine gw_iconst C 2 dX4_toOrder_81 (by decide) ?_
          refine gw_iload C 0 dX4_toOrder_82 rfl ?_
          refine gw_if_eq C 92 dX4_toOrder_84 (by decide) (by omega) (fun h117 => ?_) (fun h117 => ?_)
          ·
            refine gw_iload C 1 dX4_toOrder_92 rfl ?_
            refine gw_istN C (ws2 := [(oa, .inl (cI, 4, .inl (fun j => nI ((up1 (up1 (up1 f (0) (to_a x)) (1) (to_b x)) (2) ((((6) - (to_a x)) - (to_b x)) - (2))) j))))]) 0 0 dX4_toOrder_94 rfl rfl (by first | decide | omega) (by omega) rfl ?_
            refine gw_aload_n C 6 dX4_toOrder_95 rfl rfl ?_
            refine gw_iconst C 3 dX4_toOrder_96 (by decide) ?_
            refine gw_iload C 0 dX4_toOrder_97 rfl ?_
            refine gw_if_eq C 107 dX4_toOrder_99 (by decide) (by omega) (fun h118 => ?_) (fun h118 => ?_)
            ·
              refine gw_iload C 2 dX4_toOrder_107 rfl ?_
              refine gw_istN C (ws2 := [(oa, .inl (cI, 4, .inl (fun j => nI ((up1 (up1 (up1 (up1 f (0) (to_a x)) (1) (to_b x)) (2) ((((6) - (to_a x)) - (to_b x)) - (2))) (3) (2)) j))))]) 0 0 dX4_toOrder_109 rfl rfl (by first | decide | omega) (by omega) rfl ?_
              have eh : 6 - to_a x - to_b x - 2 = to_h x := by rw [to_h, el]
              exact ret () dX4_toOrder_110 trivial (by rw [cu_to, if_neg (by assumption), if_neg (by assumption), to_h, el]) (Nat.le_refl 0) (Nat.le_refl 0)
            ·
              exact absurd h118 (by decide)
          ·
            exact absurd h117 (by decide)
        ·
          refine gw_iconst C 1 dX4_toOrder_65 (by decide) ?_
          refine gw_goto C 70 dX4_toOrder_66 (by decide) ?_
          refine gw_istore C (lv2 := [(6, iN (1)), (5, iN ((((6) - (to_a x)) - (to_b x)) - (2))), (4, iN (2)), (3, iN (to_b x)), (2, iN (to_a x)), (0, iN (x)), (1, .ref (oa))]) dX4_toOrder_70 (by omega) rfl ?_
          refine gw_aload_n C 6 dX4_toOrder_72 rfl rfl ?_
          refine gw_iconst C 0 dX4_toOrder_73 (by decide) ?_
          refine gw_iload_n C 4 dX4_toOrder_74 rfl rfl ?_
          refine gw_istN C (ws2 := [(oa, .inl (cI, 4, .inl (fun j => nI ((up1 f (0) (to_a x)) j))))]) 0 0 dX4_toOrder_75 rfl rfl (by first | decide | omega) (by omega) rfl ?_
          refine gw_aload_n C 6 dX4_toOrder_76 rfl rfl ?_
          refine gw_iconst C 1 dX4_toOrder_77 (by decide) ?_
          refine gw_iload_n C 3 dX4_toOrder_78 rfl rfl ?_
          refine gw_istN C (ws2 := [(oa, .inl (cI, 4, .inl (fun j => nI ((up1 (up1 f (0) (to_a x)) (1) (to_b x)) j))))]) 0 0 dX4_toOrder_79 rfl rfl (by first | decide | omega) (by omega) rfl ?_
          refine gw_aload_n C 6 dX4_toOrder_80 rfl rfl ?_
          refine gw_iconst C 2 dX4_toOrder_81 (by decide) ?_
          refine gw_iload C 0 dX4_toOrder_82 rfl ?_
          refine gw_if_eq C 92 dX4_toOrder_84 (by decide) (by omega) (fun h119 => ?_) (fun h119 => ?_)
          ·
            exact absurd h119 (by decide)
          ·
            refine gw_iload C 2 dX4_toOrder_87 rfl ?_
            refine gw_goto C 94 dX4_toOrder_89 (by decide) ?_
            refine gw_istN C (ws2 := [(oa, .inl (cI, 4, .inl (fun j => nI ((up1 (up1 (up1 f (0) (to_a x)) (1) (to_b x)) (2) (2)) j))))]) 0 0 dX4_toOrder_94 rfl rfl (by first | decide | omega) (by omega) rfl ?_
            refine gw_aload_n C 6 dX4_toOrder_95 rfl rfl ?_
            refine gw_iconst C 3 dX4_toOrder_96 (by decide) ?_
            refine gw_iload C 0 dX4_toOrder_97 rfl ?_
            refine gw_if_eq C 107 dX4_toOrder_99 (by decide) (by omega) (fun h120 => ?_) (fun h120 => ?_)
            ·
              exact absurd h120 (by decide)
            ·
              refine gw_iload C 1 dX4_toOrder_102 rfl ?_
              refine gw_goto C 109 dX4_toOrder_104 (by decide) ?_
              refine gw_istN C (ws2 := [(oa, .inl (cI, 4, .inl (fun j => nI ((up1 (up1 (up1 (up1 f (0) (to_a x)) (1) (to_b x)) (2) (2)) (3) ((((6) - (to_a x)) - (to_b x)) - (2))) j))))]) 0 0 dX4_toOrder_109 rfl rfl (by first | decide | omega) (by omega) rfl ?_
              have eh : 6 - to_a x - to_b x - 2 = to_h x := by rw [to_h, el]
              exact ret () dX4_toOrder_110 trivial (by rw [cu_to, if_pos (by assumption), if_pos (by assumption), to_h, el]) (Nat.le_refl 0) (Nat.le_refl 0)
      ·
        refine gw_iload_n C 0 dX4_toOrder_36 rfl rfl ?_
        refine gw_iconst C 1 dX4_toOrder_37 (by decide) ?_
        refine gw_icmp_eq C 45 dX4_toOrder_38 (by decide) (by omega) (by omega) (fun h121 => ?_) (fun h121 => ?_)
        ·
          refine gw_iconst C 2 dX4_toOrder_45 (by decide) ?_
          refine gw_istore C (lv2 := [(4, iN (2)), (3, iN (to_b x)), (2, iN (to_a x)), (0, iN (x)), (1, .ref (oa))]) dX4_toOrder_46 (by omega) rfl ?_
          have el : to_l x = 2 := by rw [to_l, if_neg (by omega), if_neg (by omega)]
          refine gw_bipush C 6 dX4_toOrder_48 (by decide) ?_
          refine gw_iload_n C 2 dX4_toOrder_50 rfl rfl ?_
          refine gw_isub C dX4_toOrder_51 (by omega) ?_
          refine gw_iload_n C 1 dX4_toOrder_52 rfl rfl ?_
          refine gw_isub C dX4_toOrder_53 (by omega) ?_
          refine gw_iload C 0 dX4_toOrder_54 rfl ?_
          refine gw_isub C dX4_toOrder_56 (by omega) ?_
          refine gw_istore C (lv2 := [(5, iN ((((6) - (to_a x)) - (to_b x)) - (2))), (4, iN (2)), (3, iN (to_b x)), (2, iN (to_a x)), (0, iN (x)), (1, .ref (oa))]) dX4_toOrder_57 (by omega) rfl ?_
          refine gw_iload_n C 4 dX4_toOrder_59 rfl rfl ?_
          refine gw_iconst C 2 dX4_toOrder_60 (by decide) ?_
          refine gw_irem C dX4_toOrder_61 (by omega) (by omega) (by omega) ?_
          refine gw_if_ne C 69 dX4_toOrder_62 (by decide) (by omega) (fun h122 => ?_) (fun h122 => ?_)
          ·
            refine gw_iconst C 0 dX4_toOrder_69 (by decide) ?_
            refine gw_istore C (lv2 := [(6, iN (0)), (5, iN ((((6) - (to_a x)) - (to_b x)) - (2))), (4, iN (2)), (3, iN (to_b x)), (2, iN (to_a x)), (0, iN (x)), (1, .ref (oa))]) dX4_toOrder_70 (by omega) rfl ?_
            refine gw_aload_n C 6 dX4_toOrder_72 rfl rfl ?_
            refine gw_iconst C 0 dX4_toOrder_73 (by decide) ?_
            refine gw_iload_n C 4 dX4_toOrder_74 rfl rfl ?_
            refine gw_istN C (ws2 := [(oa, .inl (cI, 4, .inl (fun j => nI ((up1 f (0) (to_a x)) j))))]) 0 0 dX4_toOrder_75 rfl rfl (by first | decide | omega) (by omega) rfl ?_
            refine gw_aload_n C 6 dX4_toOrder_76 rfl rfl ?_
            refine gw_iconst C 1 dX4_toOrder_77 (by decide) ?_
            refine gw_iload_n C 3 dX4_toOrder_78 rfl rfl ?_
            refine gw_istN C (ws2 := [(oa, .inl (cI, 4, .inl (fun j => nI ((up1 (up1 f (0) (to_a x)) (1) (to_b x)) j))))]) 0 0 dX4_toOrder_79 rfl rfl (by first | decide | omega) (by omega) rfl ?_
            refine gw_aload_n C 6 dX4_toOrder_80 rfl rfl ?_
            refine gw_iconst C 2 dX4_toOrder_81 (by decide) ?_
            refine gw_iload C 0 dX4_toOrder_82 rfl ?_
            refine gw_if_eq C 92 dX4_toOrder_84 (by decide) (by omega) (fun h123 => ?_) (fun h123 => ?_)
            ·
              refine gw_iload C 1 dX4_toOrder_92 rfl ?_
              refine gw_istN C (ws2 := [(oa, .inl (cI, 4, .inl (fun j => nI ((up1 (up1 (up1 f (0) (to_a x)) (1) (to_b x)) (2) ((((6) - (to_a x)) - (to_b x)) - (2))) j))))]) 0 0 dX4_toOrder_94 rfl rfl (by first | decide | omega) (by omega) rfl ?_
              refine gw_aload_n C 6 dX4_toOrder_95 rfl rfl ?_
              refine gw_iconst C 3 dX4_toOrder_96 (by decide) ?_
              refine gw_iload C 0 dX4_toOrder_97 rfl ?_
              refine gw_if_eq C 107 dX4_toOrder_99 (by decide) (by omega) (fun h124 => ?_) (fun h124 => ?_)
              ·
                refine gw_iload C 2 dX4_toOrder_107 rfl ?_
                refine gw_istN C (ws2 := [(oa, .inl (cI, 4, .inl (fun j => nI ((up1 (up1 (up1 (up1 f (0) (to_a x)) (1) (to_b x)) (2) ((((6) - (to_a x)) - (to_b x)) - (2))) (3) (2)) j))))]) 0 0 dX4_toOrder_109 rfl rfl (by first | decide | omega) (by omega) rfl ?_
                have eh : 6 - to_a x - to_b x - 2 = to_h x := by rw [to_h, el]
                exact ret () dX4_toOrder_110 trivial (by rw [cu_to, if_neg (by assumption), if_neg (by assumption), to_h, el]) (Nat.le_refl 0) (Nat.le_refl 0)
              ·
                exact absurd h124 (by decide)
            ·
              exact absurd h123 (by decide)
          ·
            refine gw_iconst C 1 dX4_toOrder_65 (by decide) ?_
            refine gw_goto C 70 dX4_toOrder_66 (by decide) ?_
            refine gw_istore C (lv2 := [(6, iN (1)), (5, iN ((((6) - (to_a x)) - (to_b x)) - (2))), (4, iN (2)), (3, iN (to_b x)), (2, iN (to_a x)), (0, iN (x)), (1, .ref (oa))]) dX4_toOrder_70 (by omega) rfl ?_
            refine gw_aload_n C 6 dX4_toOrder_72 rfl rfl ?_
            refine gw_iconst C 0 dX4_toOrder_73 (by decide) ?_
            refine gw_iload_n C 4 dX4_toOrder_74 rfl rfl ?_
            refine gw_istN C (ws2 := [(oa, .inl (cI, 4, .inl (fun j => nI ((up1 f (0) (to_a x)) j))))]) 0 0 dX4_toOrder_75 rfl rfl (by first | decide | omega) (by omega) rfl ?_
            refine gw_aload_n C 6 dX4_toOrder_76 rfl rfl ?_
            refine gw_iconst C 1 dX4_toOrder_77 (by decide) ?_
            refine gw_iload_n C 3 dX4_toOrder_78 rfl rfl ?_
            refine gw_istN C (ws2 := [(oa, .inl (cI, 4, .inl (fun j => nI ((up1 (up1 f (0) (to_a x)) (1) (to_b x)) j))))]) 0 0 dX4_toOrder_79 rfl rfl (by first | decide | omega) (by omega) rfl ?_
            refine gw_aload_n C 6 dX4_toOrder_80 rfl rfl ?_
            refine gw_iconst C 2 dX4_toOrder_81 (by decide) ?_
            refine gw_iload C 0 dX4_toOrder_82 rfl ?_
            refine gw_if_eq C 92 dX4_toOrder_84 (by decide) (by omega) (fun h125 => ?_) (fun h125 => ?_)
            ·
              exact absurd h125 (by decide)
            ·
              refine gw_iload C 2 dX4_toOrder_87 rfl ?_
              refine gw_goto C 94 dX4_toOrder_89 (by decide) ?_
              refine gw_istN C (ws2 := [(oa, .inl (cI, 4, .inl (fun j => nI ((up1 (up1 (up1 f (0) (to_a x)) (1) (to_b x)) (2) (2)) j))))]) 0 0 dX4_toOrder_94 rfl rfl (by first | decide | omega) (by omega) rfl ?_
              refine gw_aload_n C 6 dX4_toOrder_95 rfl rfl ?_
              refine gw_iconst C 3 dX4_toOrder_96 (by decide) ?_
              refine gw_iload C 0 dX4_toOrder_97 rfl ?_
              refine gw_if_eq C 107 dX4_toOrder_99 (by decide) (by omega) (fun h126 => ?_) (fun h126 => ?_)
              ·
                exact absurd h126 (by decide)
              ·
                refine gw_iload C 1 dX4_toOrder_102 rfl ?_
                refine gw_goto C 109 dX4_toOrder_104 (by decide) ?_
                refine gw_istN C (ws2 := [(oa, .inl (cI, 4, .inl (fun j => nI ((up1 (up1 (up1 (up1 f (0) (to_a x)) (1) (to_b x)) (2) (2)) (3) ((((6) - (to_a x)) - (to_b x)) - (2))) j))))]) 0 0 dX4_toOrder_109 rfl rfl (by first | decide | omega) (by omega) rfl ?_
                have eh : 6 - to_a x - to_b x - 2 = to_h x := by rw [to_h, el]
                exact ret () dX4_toOrder_110 trivial (by rw [cu_to, if_pos (by assumption), if_pos (by assumption), to_h, el]) (Nat.le_refl 0) (Nat.le_refl 0)
        ·
          refine gw_iconst C 1 dX4_toOrder_41 (by decide) ?_
          refine gw_goto C 46 dX4_toOrder_42 (by decide) ?_
          refine gw_istore C (lv2 := [(4, iN (1)), (3, iN (to_b x)), (2, iN (to_a x)), (0, iN (x)), (1, .ref (oa))]) dX4_toOrder_46 (by omega) rfl ?_
          have el : to_l x = 1 := by rw [to_l, if_neg (by omega), if_pos (by omega)]
          refine gw_bipush C 6 dX4_toOrder_48 (by decide) ?_
          refine gw_iload_n C 2 dX4_toOrder_50 rfl rfl ?_
          refine gw_isub C dX4_toOrder_51 (by omega) ?_
          refine gw_iload_n C 1 dX4_toOrder_52 rfl rfl ?_
          refine gw_isub C dX4_toOrder_53 (by omega) ?_
          refine gw_iload C 0 dX4_toOrder_54 rfl ?_
          refine gw_isub C dX4_toOrder_56 (by omega) ?_
          refine gw_istore C (lv2 := [(5, iN ((((6) - (to_a x)) - (to_b x)) - (1))), (4, iN (1)), (3, iN (to_b x)), (2, iN (to_a x)), (0, iN (x)), (1, .ref (oa))]) dX4_toOrder_57 (by omega) rfl ?_
          refine gw_iload_n C 4 dX4_toOrder_59 rfl rfl ?_
          refine gw_iconst C 2 dX4_toOrder_60 (by decide) ?_
          refine gw_irem C dX4_toOrder_61 (by omega) (by omega) (by omega) ?_
          refine gw_if_ne C 69 dX4_toOrder_62 (by decide) (by omega) (fun h127 => ?_) (fun h127 => ?_)
          ·
            refine gw_iconst C 0 dX4_toOrder_69 (by decide) ?_
            refine gw_istore C (lv2 := [(6, iN (0)), (5, iN ((((6) - (to_a x)) - (to_b x)) - (1))), (4, iN (1)), (3, iN (to_b x)), (2, iN (to_a x)), (0, iN (x)), (1, .ref (oa))]) dX4_toOrder_70 (by omega) rfl ?_
            refine gw_aload_n C 6 dX4_toOrder_72 rfl rfl ?_
            refine gw_iconst C 0 dX4_toOrder_73 (by decide) ?_
            refine gw_iload_n C 4 dX4_toOrder_74 rfl rfl ?_
            refine gw_istN C (ws2 := [(oa, .inl (cI, 4, .inl (fun j => nI ((up1 f (0) (to_a x)) j))))]) 0 0 dX4_toOrder_75 rfl rfl (by first | decide | omega) (by omega) rfl ?_
            refine gw_aload_n C 6 dX4_toOrder_76 rfl rfl ?_
            refine gw_iconst C 1 dX4_toOrder_77 (by decide) ?_
            refine gw_iload_n C 3 dX4_toOrder_78 rfl rfl ?_
            refine gw_istN C (ws2 := [(oa, .inl (cI, 4, .inl (fun j => nI ((up1 (up1 f (0) (to_a x)) (1) (to_b x)) j))))]) 0 0 dX4_toOrder_79 rfl rfl (by first | decide | omega) (by omega) rfl ?_
            refine gw_aload_n C 6 dX4_toOrder_80 rfl rfl ?_
            refine gw_iconst C 2 dX4_toOrder_81 (by decide) ?_
            refine gw_iload C 0 dX4_toOrder_82 rfl ?_
            refine gw_if_eq C 92 dX4_toOrder_84 (by decide) (by omega) (fun h128 => ?_) (fun h128 => ?_)
            ·
              refine gw_iload C 1 dX4_toOrder_92 rfl ?_
              refine gw_istN C (ws2 := [(oa, .inl (cI, 4, .inl (fun j => nI ((up1 (up1 (up1 f (0) (to_a x)) (1) (to_b x)) (2) ((((6) - (to_a x)) - (to_b x)) - (1))) j))))]) 0 0 dX4_toOrder_94 rfl rfl (by first | decide | omega) (by omega) rfl ?_
              refine gw_aload_n C 6 dX4_toOrder_95 rfl rfl ?_
              refine gw_iconst C 3 dX4_toOrder_96 (by decide) ?_
              refine gw_iload C 0 dX4_toOrder_97 rfl ?_
              refine gw_if_eq C 107 dX4_toOrder_99 (by decide) (by omega) (fun h129 => ?_) (fun h129 => ?_)
              ·
                refine gw_iload C 2 dX4_toOrder_107 rfl ?_
                refine gw_istN C (ws2 := [(oa, .inl (cI, 4, .inl (fun j => nI ((up1 (up1 (up1 (up1 f (0) (to_a x)) (1) (to_b x)) (2) ((((6) - (to_a x)) - (to_b x)) - (1))) (3) (1)) j))))]) 0 0 dX4_toOrder_109 rfl rfl (by first | decide | omega) (by omega) rfl ?_
                have eh : 6 - to_a x - to_b x - 1 = to_h x := by rw [to_h, el]
                exact ret () dX4_toOrder_110 trivial (by rw [cu_to, if_neg (by assumption), if_neg (by assumption), to_h, el]) (Nat.le_refl 0) (Nat.le_refl 0)
              ·
                exact absurd h129 (by decide)
            ·
              exact absurd h128 (by decide)
          ·
            refine gw_iconst C 1 dX4_toOrder_65 (by decide) ?_
            refine gw_goto C 70 dX4_toOrder_66 (by decide) ?_
            refine gw_istore C (lv2 := [(6, iN (1)), (5, iN ((((6) - (to_a x)) - (to_b x)) - (1))), (4, iN (1)), (3, iN (to_b x)), (2, iN (to_a x)), (0, iN (x)), (1, .ref (oa))]) dX4_toOrder_70 (by omega) rfl ?_
            refine gw_aload_n C 6 dX4_toOrder_72 rfl rfl ?_
            refine gw_iconst C 0 dX4_toOrder_73 (by decide) ?_
            refine gw_iload_n C 4 dX4_toOrder_74 rfl rfl ?_
            refine gw_istN C (ws2 := [(oa, .inl (cI, 4, .inl (fun j => nI ((up1 f (0) (to_a x)) j))))]) 0 0 dX4_toOrder_75 rfl rfl (by first | decide | omega) (by omega) rfl ?_
            refine gw_aload_n C 6 dX4_toOrder_76 rfl rfl ?_
            refine gw_iconst C 1 dX4_toOrder_77 (by decide) ?_
            refine gw_iload_n C 3 dX4_toOrder_78 rfl rfl ?_
            refine gw_istN C (ws2 := [(oa, .inl (cI, 4, .inl (fun j => nI ((up1 (up1 f (0) (to_a x)) (1) (to_b x)) j))))]) 0 0 dX4_toOrder_79 rfl rfl (by first | decide | omega) (by omega) rfl ?_
            refine gw_aload_n C 6 dX4_toOrder_80 rfl rfl ?_
            refine gw_iconst C 2 dX4_toOrder_81 (by decide) ?_
            refine gw_iload C 0 dX4_toOrder_82 rfl ?_
            refine gw_if_eq C 92 dX4_toOrder_84 (by decide) (by omega) (fun h130 => ?_) (fun h130 => ?_)
            ·
              exact absurd h130 (by decide)
            ·
              refine gw_iload C 2 dX4_toOrder_87 rfl ?_
              refine gw_goto C 94 dX4_toOrder_89 (by decide) ?_
              refine gw_istN C (ws2 := [(oa, .inl (cI, 4, .inl (fun j => nI ((up1 (up1 (up1 f (0) (to_a x)) (1) (to_b x)) (2) (1)) j))))]) 0 0 dX4_toOrder_94 rfl rfl (by first | decide | omega) (by omega) rfl ?_
              refine gw_aload_n C 6 dX4_toOrder_95 rfl rfl ?_
              refine gw_iconst C 3 dX4_toOrder_96 (by decide) ?_
              refine gw_iload C 0 dX4_toOrder_97 rfl ?_
              refine gw_if_eq C 107 dX4_toOrder_99 (by decide) (by omega) (fun h131 => ?_) (fun h131 => ?_)
              ·
                exact absurd h131 (by decide)
              ·
                refine gw_iload C 1 dX4_toOrder_102 rfl ?_
                refine gw_goto C 109 dX4_toOrder_104 (by decide) ?_
                refine gw_istN C (ws2 := [(oa, .inl (cI, 4, .inl (fun j => nI ((up1 (up1 (up1 (up1 f (0) (to_a x)) (1) (to_b x)) (2) (1)) (3) ((((6) - (to_a x)) - (to_b x)) - (1))) j))))]) 0 0 dX4_toOrder_109 rfl rfl (by first | decide | omega) (by omega) rfl ?_
                have eh : 6 - to_a x - to_b x - 1 = to_h x := by rw [to_h, el]
                exact ret () dX4_toOrder_110 trivial (by rw [cu_to, if_pos (by assumption), if_pos (by assumption), to_h, el]) (Nat.le_refl 0) (Nat.le_refl 0)
    ·
      refine gw_iload_n C 0 dX4_toOrder_23 rfl rfl ?_
      refine gw_if_eq C 31 dX4_toOrder_24 (by decide) (by omega) (fun h132 => ?_) (fun h132 => ?_)
      ·
        refine gw_iload_n C 1 dX4_toOrder_31 rfl rfl ?_
        refine gw_iconst C 1 dX4_toOrder_32 (by decide) ?_
        refine gw_icmp_eq C 45 dX4_toOrder_33 (by decide) (by omega) (by omega) (fun h133 => ?_) (fun h133 => ?_)
        ·
          refine gw_iconst C 2 dX4_toOrder_45 (by decide) ?_
          refine gw_istore C (lv2 := [(4, iN (2)), (3, iN (to_b x)), (2, iN (to_a x)), (0, iN (x)), (1, .ref (oa))]) dX4_toOrder_46 (by omega) rfl ?_
          have el : to_l x = 2 := by rw [to_l, if_neg (by omega), if_neg (by omega)]
          refine gw_bipush C 6 dX4_toOrder_48 (by decide) ?_
          refine gw_iload_n C 2 dX4_toOrder_50 rfl rfl ?_
          refine gw_isub C dX4_toOrder_51 (by omega) ?_
          refine gw_iload_n C 1 dX4_toOrder_52 rfl rfl ?_
          refine gw_isub C dX4_toOrder_53 (by omega) ?_
          refine gw_iload C 0 dX4_toOrder_54 rfl ?_
          refine gw_isub C dX4_toOrder_56 (by omega) ?_
          refine gw_istore C (lv2 := [(5, iN ((((6) - (to_a x)) - (to_b x)) - (2))), (4, iN (2)), (3, iN (to_b x)), (2, iN (to_a x)), (0, iN (x)), (1, .ref (oa))]) dX4_toOrder_57 (by omega) rfl ?_
          refine gw_iload_n C 4 dX4_toOrder_59 rfl rfl ?_
          refine gw_iconst C 2 dX4_toOrder_60 (by decide) ?_
          refine gw_irem C dX4_toOrder_61 (by omega) (by omega) (by omega) ?_
          refine gw_if_ne C 69 dX4_toOrder_62 (by decide) (by omega) (fun h134 => ?_) (fun h134 => ?_)
          ·
            refine gw_iconst C 0 dX4_toOrder_69 (by decide) ?_
            refine gw_istore C (lv2 := [(6, iN (0)), (5, iN ((((6) - (to_a x)) - (to_b x)) - (2))), (4, iN (2)), (3, iN (to_b x)), (2, iN (to_a x)), (0, iN (x)), (1, .ref (oa))]) dX4_toOrder_70 (by omega) rfl ?_
            refine gw_aload_n C 6 dX4_toOrder_72 rfl rfl ?_
            refine gw_iconst C 0 dX4_toOrder_73 (by decide) ?_
            refine gw_iload_n C 4 dX4_toOrder_74 rfl rfl ?_
            refine gw_istN C (ws2 := [(oa, .inl (cI, 4, .inl (fun j => nI ((up1 f (0) (to_a x)) j))))]) 0 0 dX4_toOrder_75 rfl rfl (by first | decide | omega) (by omega) rfl ?_
            refine gw_aload_n C 6 dX4_toOrder_76 rfl rfl ?_
            refine gw_iconst C 1 dX4_toOrder_77 (by decide) ?_
            refine gw_iload_n C 3 dX4_toOrder_78 rfl rfl ?_
            refine gw_istN C (ws2 := [(oa, .inl (cI, 4, .inl (fun j => nI ((up1 (up1 f (0) (to_a x)) (1) (to_b x)) j))))]) 0 0 dX4_toOrder_79 rfl rfl (by first | decide | omega) (by omega) rfl ?_
            refine gw_aload_n C 6 dX4_toOrder_80 rfl rfl ?_
            refine gw_iconst C 2 dX4_toOrder_81 (by decide) ?_
            refine gw_iload C 0 dX4_toOrder_82 rfl ?_
            refine gw_if_eq C 92 dX4_toOrder_84 (by decide) (by omega) (fun h135 => ?_) (fun h135 => ?_)
            ·
              refine gw_iload C 1 dX4_toOrder_92 rfl ?_
              refine gw_istN C (ws2 := [(oa, .inl (cI, 4, .inl (fun j => nI ((up1 (up1 (up1 f (0) (to_a x)) (1) (to_b x)) (2) ((((6) - (to_a x)) - (to_b x)) - (2))) j))))]) 0 0 dX4_toOrder_94 rfl rfl (by first | decide | omega) (by omega) rfl ?_
              refine gw_aload_n C 6 dX4_toOrder_95 rfl rfl ?_
              refine gw_iconst C 3 dX4_toOrder_96 (by decide) ?_
              refine gw_iload C 0 dX4_toOrder_97 rfl ?_
              refine gw_if_eq C 107 dX4_toOrder_99 (by decide) (by omega) (fun h136 => ?_) (fun h136 => ?_)
              ·
                refine gw_iload C 2 dX4_toOrder_107 rfl ?_
                refine gw_istN C (ws2 := [(oa, .inl (cI, 4, .inl (fun j => nI ((up1 (up1 (up1 (up1 f (0) (to_a x)) (1) (to_b x)) (2) ((((6) - (to_a x)) - (to_b x)) - (2))) (3) (2)) j))))]) 0 0 dX4_toOrder_109 rfl rfl (by first | decide | omega) (by omega) rfl ?_
                have eh : 6 - to_a x - to_b x - 2 = to_h x := by rw [to_h, el]
                exact ret () dX4_toOrder_110 trivial (by rw [cu_to, if_neg (by assumption), if_neg (by assumption), to_h, el]) (Nat.le_refl 0) (Nat.le_refl 0)
              ·
                exact absurd h136 (by decide)
            ·
              exact absurd h135 (by decide)
          ·
            refine gw_iconst C 1 dX4_toOrder_65 (by decide) ?_
            refine gw_goto C 70 dX4_toOrder_66 (by decide) ?_
            refine gw_istore C (lv2 := [(6, iN (1)), (5, iN ((((6) - (to_a x)) - (to_b x)) - (2))), (4, iN (2)), (3, iN (to_b x)), (2, iN (to_a x)), (0, iN (x)), (1, .ref (oa))]) dX4_toOrder_70 (by omega) rfl ?_
            refine gw_aload_n C 6 dX4_toOrder_72 rfl rfl ?_
            refine gw_iconst C 0 dX4_toOrder_73 (by decide) ?_
            refine gw_iload_n C 4 dX4_toOrder_74 rfl rfl ?_
            refine gw_istN C (ws2 := [(oa, .inl (cI, 4, .inl (fun j => nI ((up1 f (0) (to_a x)) j))))]) 0 0 dX4_toOrder_75 rfl rfl (by first | decide | omega) (by omega) rfl ?_
            refine gw_aload_n C 6 dX4_toOrder_76 rfl rfl ?_
            refine gw_iconst C 1 dX4_toOrder_77 (by decide) ?_
            refine gw_iload_n C 3 dX4_toOrder_78 rfl rfl ?_
            refine gw_istN C (ws2 := [(oa, .inl (cI, 4, .inl (fun j => nI ((up1 (up1 f (0) (to_a x)) (1) (to_b x)) j))))]) 0 0 dX4_toOrder_79 rfl rfl (by first | decide | omega) (by omega) rfl ?_
            refine gw_aload_n C 6 dX4_toOrder_80 rfl rfl ?_
            refine gw_iconst C 2 dX4_toOrder_81 (by decide) ?_
            refine gw_iload C 0 dX4_toOrder_82 rfl ?_
            refine gw_if_eq C 92 dX4_toOrder_84 (by decide) (by omega) (fun h137 => ?_) (fun h137 => ?_)
            ·
              exact absurd h137 (by decide)
            ·
              refine gw_iload C 2 dX4_toOrder_87 rfl ?_
              refine gw_goto C 94 dX4_toOrder_89 (by decide) ?_
              refine gw_istN C (ws2 := [(oa, .inl (cI, 4, .inl (fun j => nI ((up1 (up1 (up1 f (0) (to_a x)) (1) (to_b x)) (2) (2)) j))))]) 0 0 dX4_toOrder_94 rfl rfl (by first | decide | omega) (by omega) rfl ?_
              refine gw_aload_n C 6 dX4_toOrder_95 rfl rfl ?_
              refine gw_iconst C 3 dX4_toOrder_96 (by decide) ?_
              refine gw_iload C 0 dX4_toOrder_97 rfl ?_
              refine gw_if_eq C 107 dX4_toOrder_99 (by decide) (by omega) (fun h138 => ?_) (fun h138 => ?_)
              ·
                exact absurd h138 (by decide)
              ·
                refine gw_iload C 1 dX4_toOrder_102 rfl ?_
                refine gw_goto C 109 dX4_toOrder_104 (by decide) ?_
                refine gw_istN C (ws2 := [(oa, .inl (cI, 4, .inl (fun j => nI ((up1 (up1 (up1 (up1 f (0) (to_a x)) (1) (to_b x)) (2) (2)) (3) ((((6) - (to_a x)) - (to_b x)) - (2))) j))))]) 0 0 dX4_toOrder_109 rfl rfl (by first | decide | omega) (by omega) rfl ?_
                have eh : 6 - to_a x - to_b x - 2 = to_h x := by rw [to_h, el]
                exact ret () dX4_toOrder_110 trivial (by rw [cu_to, if_pos (by assumption), if_pos (by assumption), to_h, el]) (Nat.le_refl 0) (Nat.le_refl 0)
        ·
          refine gw_iload_n C 0 dX4_toOrder_36 rfl rfl ?_
          refine gw_iconst C 1 dX4_toOrder_37 (by decide) ?_
          refine gw_icmp_eq C 45 dX4_toOrder_38 (by decide) (by omega) (by omega) (fun h139 => ?_) (fun h139 => ?_)
          ·
            refine gw_iconst C 2 dX4_toOrder_45 (by decide) ?_
            refine gw_istore C (lv2 := [(4, iN (2)), (3, iN (to_b x)), (2, iN (to_a x)), (0, iN (x)), (1, .ref (oa))]) dX4_toOrder_46 (by omega) rfl ?_
            have el : to_l x = 2 := by rw [to_l, if_neg (by omega), if_neg (by omega)]
            refine gw_bipush C 6 dX4_toOrder_48 (by decide) ?_
            refine gw_iload_n C 2 dX4_toOrder_50 rfl rfl ?_
            refine gw_isub C dX4_toOrder_51 (by omega) ?_
            refine gw_iload_n C 1 dX4_toOrder_52 rfl rfl ?_
            refine gw_isub C dX4_toOrder_53 (by omega) ?_
            refine gw_iload C 0 dX4_toOrder_54 rfl ?_
            refine gw_isub C dX4_toOrder_56 (by omega) ?_
            refine gw_istore C (lv2 := [(5, iN ((((6) - (to_a x)) - (to_b x)) - (2))), (4, iN (2)), (3, iN (to_b x)), (2, iN (to_a x)), (0, iN (x)), (1, .ref (oa))]) dX4_toOrder_57 (by omega) rfl ?_
            refine gw_iload_n C 4 dX4_toOrder_59 rfl rfl ?_
            refine gw_iconst C 2 dX4_toOrder_60 (by decide) ?_
            refine gw_irem C dX4_toOrder_61 (by omega) (by omega) (by omega) ?_
            refine gw_if_ne C 69 dX4_toOrder_62 (by decide) (by omega) (fun h140 => ?_) (fun h140 => ?_)
            ·
              refine gw_iconst C 0 dX4_toOrder_69 (by decide) ?_
              refine gw_istore C (lv2 := [(6, iN (0)), (5, iN ((((6) - (to_a x)) - (to_b x)) - (2))), (4, iN (2)), (3, iN (to_b x)), (2, iN (to_a x)), (0, iN (x)), (1, .ref (oa))]) dX4_toOrder_70 (by omega) rfl ?_
              refine gw_aload_n C 6 dX4_toOrder_72 rfl rfl ?_
              refine gw_iconst C 0 dX4_toOrder_73 (by decide) ?_
              refine gw_iload_n C 4 dX4_toOrder_74 rfl rfl ?_
              refine gw_istN C (ws2 := [(oa, .inl (cI, 4, .inl (fun j => nI ((up1 f (0) (to_a x)) j))))]) 0 0 dX4_toOrder_75 rfl rfl (by first | decide | omega) (by omega) rfl ?_
              refine gw_aload_n C 6 dX4_toOrder_76 rfl rfl ?_
              refine gw_iconst C 1 dX4_toOrder_77 (by decide) ?_
              refine gw_iload_n C 3 dX4_toOrder_78 rfl rfl ?_
              refine gw_istN C (ws2 := [(oa, .inl (cI, 4, .inl (fun j => nI ((up1 (up1 f (0) (to_a x)) (1) (to_b x)) j))))]) 0 0 dX4_toOrder_79 rfl rfl (by first | decide | omega) (by omega) rfl ?_
              refine gw_aload_n C 6 dX4_toOrder_80 rfl rfl ?_
              refine gw_iconst C 2 dX4_toOrder_81 (by decide) ?_
              refine gw_iload C 0 dX4_toOrder_82 rfl ?_
              refine gw_if_eq C 92 dX4_toOrder_84 (by decide) (by omega) (fun h141 => ?_) (fun h141 => ?_)
              ·
                refine gw_iload C 1 dX4_toOrder_92 rfl ?_
                refine gw_istN C (ws2 := [(oa, .inl (cI, 4, .inl (fun j => nI ((up1 (up1 (up1 f (0) (to_a x)) (1) (to_b x)) (2) ((((6) - (to_a x)) - (to_b x)) - (2))) j))))]) 0 0 dX4_toOrder_94 rfl rfl (by first | decide | omega) (by omega) rfl ?_
                refine gw_aload_n C 6 dX4_toOrder_95 rfl rfl ?_
                refine gw_iconst C 3 dX4_toOrder_96 (by decide) ?_
                refine gw_iload C 0 dX4_toOrder_97 rfl ?_
                refine gw_if_eq C 107 dX4_toOrder_99 (by decide) (by omega) (fun h142 => ?_) (fun h142 => ?_)
                ·
                  refine gw_iload C 2 dX4_toOrder_107 rfl ?_
                  refine gw_istN C (ws2 := [(oa, .inl (cI, 4, .inl (fun j => nI ((up1 (up1 (up1 (up1 f (0) (to_a x)) (1) (to_b x)) (2) ((((6) - (to_a x)) - (to_b x)) - (2))) (3) (2)) j))))]) 0 0 dX4_toOrder_109 rfl rfl (by first | decide | omega) (by omega) rfl ?_
                  have eh : 6 - to_a x - to_b x - 2 = to_h x := by rw [to_h, el]
                  exact ret () dX4_toOrder_110 trivial (by rw [cu_to, if_neg (by assumption), if_neg (by assumption), to_h, el]) (Nat.le_refl 0) (Nat.le_refl 0)
                ·
                  exact absurd h142 (by decide)
              ·
                exact absurd h141 (by decide)
            ·
              refine gw_iconst C 1 dX4_toOrder_65 (by decide) ?_
              refine gw_goto C 70 dX4_toOrder_66 (by decide) ?_
              refine gw_istore C (lv2 := [(6, iN (1)), (5, iN ((((6) - (to_a x)) - (to_b x)) - (2))), (4, iN (2)), (3, iN (to_b x)), (2, iN (to_a x)), (0, iN (x)), (1, .ref (oa))]) dX4_toOrder_70 (by omega) rfl ?_
              refine gw_aload_n C 6 dX4_toOrder_72 rfl rfl ?_
              refine gw_iconst C 0 dX4_toOrder_73 (by decide) ?_
              refine gw_iload_n C 4 dX4_toOrder_74 rfl rfl ?_
              refine gw_istN C (ws2 := [(oa, .inl (cI, 4, .inl (fun j => nI ((up1 f (0) (to_a x)) j))))]) 0 0 dX4_toOrder_75 rfl rfl (by first | decide | omega) (by omega) rfl ?_
              refine gw_aload_n C 6 dX4_toOrder_76 rfl rfl ?_
              refine gw_iconst C 1 dX4_toOrder_77 (by decide) ?_
              refine gw_iload_n C 3 dX4_toOrder_78 rfl rfl ?_
              refine gw_istN C (ws2 := [(oa, .inl (cI, 4, .inl (fun j => nI ((up1 (up1 f (0) (to_a x)) (1) (to_b x)) j))))]) 0 0 dX4_toOrder_79 rfl rfl (by first | decide | omega) (by omega) rfl ?_
              refine gw_aload_n C 6 dX4_toOrder_80 rfl rfl ?_
              refine gw_iconst C 2 dX4_toOrder_81 (by decide) ?_
              refine gw_iload C 0 dX4_toOrder_82 rfl ?_
              refine gw_if_eq C 92 dX4_toOrder_84 (by decide) (by omega) (fun h143 => ?_) (fun h143 => ?_)
              ·
                exact absurd h143 (by decide)
              ·
                refine gw_iload C 2 dX4_toOrder_87 rfl ?_
                refine gw_goto C 94 dX4_toOrder_89 (by decide) ?_
                refine gw_istN C (ws2 := [(oa, .inl (cI, 4, .inl (fun j => nI ((up1 (up1 (up1 f (0) (to_a x)) (1) (to_b x)) (2) (2)) j))))]) 0 0 dX4_toOrder_94 rfl rfl (by first | decide | omega) (by omega) rfl ?_
                refine gw_aload_n C 6 dX4_toOrder_95 rfl rfl ?_
                refine gw_iconst C 3 dX4_toOrder_96 (by decide) ?_
                refine gw_iload C 0 dX4_toOrder_97 rfl ?_
                refine gw_if_eq C 107 dX4_toOrder_99 (by decide) (by omega) (fun h144 => ?_) (fun h144 => ?_)
                ·
                  exact absurd h144 (by decide)
                ·
                  refine gw_iload C 1 dX4_toOrder_102 rfl ?_
                  refine gw_goto C 109 dX4_toOrder_104 (by decide) ?_
                  refine gw_istN C (ws2 := [(oa, .inl (cI, 4, .inl (fun j => nI ((up1 (up1 (up1 (up1 f (0) (to_a x)) (1) (to_b x)) (2) (2)) (3) ((((6) - (to_a x)) - (to_b x)) - (2))) j))))]) 0 0 dX4_toOrder_109 rfl rfl (by first | decide | omega) (by omega) rfl ?_
                  have eh : 6 - to_a x - to_b x - 2 = to_h x := by rw [to_h, el]
                  exact ret () dX4_toOrder_110 trivial (by rw [cu_to, if_pos (by assumption), if_pos (by assumption), to_h, el]) (Nat.le_refl 0) (Nat.le_refl 0)
          ·
            refine gw_iconst C 1 dX4_toOrder_41 (by decide) ?_
            refine gw_goto C 46 dX4_toOrder_42 (by decide) ?_
            refine gw_istore C (lv2 := [(4, iN (1)), (3, iN (to_b x)), (2, iN (to_a x)), (0, iN (x)), (1, .ref (oa))]) dX4_toOrder_46 (by omega) rfl ?_
            have el : to_l x = 1 := by rw [to_l, if_neg (by omega), if_pos (by omega)]
            refine gw_bipush C 6 dX4_toOrder_48 (by decide) ?_
            refine gw_iload_n C 2 dX4_toOrder_50 rfl rfl ?_
            refine gw_isub C dX4_toOrder_51 (by omega) ?_
            refine gw_iload_n C 1 dX4_toOrder_52 rfl rfl ?_
            refine gw_isub C dX4_toOrder_53 (by omega) ?_
            refine gw_iload C 0 dX4_toOrder_54 rfl ?_
            refine gw_isub C dX4_toOrder_56 (by omega) ?_
            refine gw_istore C (lv2 := [(5, iN ((((6) - (to_a x)) - (to_b x)) - (1))), (4, iN (1)), (3, iN (to_b x)), (2, iN (to_a x)), (0, iN (x)), (1, .ref (oa))]) dX4_toOrder_57 (by omega) rfl ?_
            refine gw_iload_n C 4 dX4_toOrder_59 rfl rfl ?_
            refine gw_iconst C 2 dX4_toOrder_60 (by decide) ?_
            refine gw_irem C dX4_toOrder_61 (by omega) (by omega) (by omega) ?_
            refine gw_if_ne C 69 dX4_toOrder_62 (by decide) (by omega) (fun h145 => ?_) (fun h145 => ?_)
            ·
              refine gw_iconst C 0 dX4_toOrder_69 (by decide) ?_
              refine gw_istore C (lv2 := [(6, iN (0)), (5, iN ((((6) - (to_a x)) - (to_b x)) - (1))), (4, iN (1)), (3, iN (to_b x)), (2, iN (to_a x)), (0, iN (x)), (1, .ref (oa))]) dX4_toOrder_70 (by omega) rfl ?_
              refine gw_aload_n C 6 dX4_toOrder_72 rfl rfl ?_
              refine gw_iconst C 0 dX4_toOrder_73 (by decide) ?_
              refine gw_iload_n C 4 dX4_toOrder_74 rfl rfl ?_
              refine gw_istN C (ws2 := [(oa, .inl (cI, 4, .inl (fun j => nI ((up1 f (0) (to_a x)) j))))]) 0 0 dX4_toOrder_75 rfl rfl (by first | decide | omega) (by omega) rfl ?_
              refine gw_aload_n C 6 dX4_toOrder_76 rfl rfl ?_
              refine gw_iconst C 1 dX4_toOrder_77 (by decide) ?_
              refine gw_iload_n C 3 dX4_toOrder_78 rfl rfl ?_
              refine gw_istN C (ws2 := [(oa, .inl (cI, 4, .inl (fun j => nI ((up1 (up1 f (0) (to_a x)) (1) (to_b x)) j))))]) 0 0 dX4_toOrder_79 rfl rfl (by first | decide | omega) (by omega) rfl ?_
              refine gw_aload_n C 6 dX4_toOrder_80 rfl rfl ?_
              refine gw_iconst C 2 dX4_toOrder_81 (by decide) ?_
              refine gw_iload C 0 dX4_toOrder_82 rfl ?_
              refine gw_if_eq C 92 dX4_toOrder_84 (by decide) (by omega) (fun h146 => ?_) (fun h146 => ?_)
              ·
                refine gw_iload C 1 dX4_toOrder_92 rfl ?_
                refine gw_istN C (ws2 := [(oa, .inl (cI, 4, .inl (fun j => nI ((up1 (up1 (up1 f (0) (to_a x)) (1) (to_b x)) (2) ((((6) - (to_a x)) - (to_b x)) - (1))) j))))]) 0 0 dX4_toOrder_94 rfl rfl (by first | decide | omega) (by omega) rfl ?_
                refine gw_aload_n C 6 dX4_toOrder_95 rfl rfl ?_
                refine gw_iconst C 3 dX4_toOrder_96 (by decide) ?_
                refine gw_iload C 0 dX4_toOrder_97 rfl ?_
                refine gw_if_eq C 107 dX4_toOrder_99 (by decide) (by omega) (fun h147 => ?_) (fun h147 => ?_)
                ·
                  refine gw_iload C 2 dX4_toOrder_107 rfl ?_
                  refine gw_istN C (ws2 := [(oa, .inl (cI, 4, .inl (fun j => nI ((up1 (up1 (up1 (up1 f (0) (to_a x)) (1) (to_b x)) (2) ((((6) - (to_a x)) - (to_b x)) - (1))) (3) (1)) j))))]) 0 0 dX4_toOrder_109 rfl rfl (by first | decide | omega) (by omega) rfl ?_
                  have eh : 6 - to_a x - to_b x - 1 = to_h x := by rw [to_h, el]
                  exact ret () dX4_toOrder_110 trivial (by rw [cu_to, if_neg (by assumption), if_neg (by assumption), to_h, el]) (Nat.le_refl 0) (Nat.le_refl 0)
                ·
                  exact absurd h147 (by decide)
              ·
                exact absurd h146 (by decide)
            ·
              refine gw_iconst C 1 dX4_toOrder_65 (by decide) ?_
              refine gw_goto C 70 dX4_toOrder_66 (by decide) ?_
              refine gw_istore C (lv2 := [(6, iN (1)), (5, iN ((((6) - (to_a x)) - (to_b x)) - (1))), (4, iN (1)), (3, iN (to_b x)), (2, iN (to_a x)), (0, iN (x)), (1, .ref (oa))]) dX4_toOrder_70 (by omega) rfl ?_
              refine gw_aload_n C 6 dX4_toOrder_72 rfl rfl ?_
              refine gw_iconst C 0 dX4_toOrder_73 (by decide) ?_
              refine gw_iload_n C 4 dX4_toOrder_74 rfl rfl ?_
              refine gw_istN C (ws2 := [(oa, .inl (cI, 4, .inl (fun j => nI ((up1 f (0) (to_a x)) j))))]) 0 0 dX4_toOrder_75 rfl rfl (by first | decide | omega) (by omega) rfl ?_
              refine gw_aload_n C 6 dX4_toOrder_76 rfl rfl ?_
              refine gw_iconst C 1 dX4_toOrder_77 (by decide) ?_
              refine gw_iload_n C 3 dX4_toOrder_78 rfl rfl ?_
              refine gw_istN C (ws2 := [(oa, .inl (cI, 4, .inl (fun j => nI ((up1 (up1 f (0) (to_a x)) (1) (to_b x)) j))))]) 0 0 dX4_toOrder_79 rfl rfl (by first | decide | omega) (by omega) rfl ?_
              refine gw_aload_n C 6 dX4_toOrder_80 rfl rfl ?_
              refine gw_iconst C 2 dX4_toOrder_81 (by decide) ?_
              refine gw_iload C 0 dX4_toOrder_82 rfl ?_
              refine gw_if_eq C 92 dX4_toOrder_84 (by decide) (by omega) (fun h148 => ?_) (fun h148 => ?_)
              ·
                exact absurd h148 (by decide)
              ·
                refine gw_iload C 2 dX4_toOrder_87 rfl ?_
                refine gw_goto C 94 dX4_toOrder_89 (by decide) ?_
                refine gw_istN C (ws2 := [(oa, .inl (cI, 4, .inl (fun j => nI ((up1 (up1 (up1 f (0) (to_a x)) (1) (to_b x)) (2) (1)) j))))]) 0 0 dX4_toOrder_94 rfl rfl (by first | decide | omega) (by omega) rfl ?_
                refine gw_aload_n C 6 dX4_toOrder_95 rfl rfl ?_
                refine gw_iconst C 3 dX4_toOrder_96 (by decide) ?_
                refine gw_iload C 0 dX4_toOrder_97 rfl ?_
                refine gw_if_eq C 107 dX4_toOrder_99 (by decide) (by omega) (fun h149 => ?_) (fun h149 => ?_)
                ·
                  exact absurd h149 (by decide)
                ·
                  refine gw_iload C 1 dX4_toOrder_102 rfl ?_
                  refine gw_goto C 109 dX4_toOrder_104 (by decide) ?_
                  refine gw_istN C (ws2 := [(oa, .inl (cI, 4, .inl (fun j => nI ((up1 (up1 (up1 (up1 f (0) (to_a x)) (1) (to_b x)) (2) (1)) (3) ((((6) - (to_a x)) - (to_b x)) - (1))) j))))]) 0 0 dX4_toOrder_109 rfl rfl (by first | decide | omega) (by omega) rfl ?_
                  have eh : 6 - to_a x - to_b x - 1 = to_h x := by rw [to_h, el]
                  exact ret () dX4_toOrder_110 trivial (by rw [cu_to, if_pos (by assumption), if_pos (by assumption), to_h, el]) (Nat.le_refl 0) (Nat.le_refl 0)
      ·
        refine gw_iconst C 0 dX4_toOrder_27 (by decide) ?_
        refine gw_goto C 46 dX4_toOrder_28 (by decide) ?_
        refine gw_istore C (lv2 := [(4, iN (0)), (3, iN (to_b x)), (2, iN (to_a x)), (0, iN (x)), (1, .ref (oa))]) dX4_toOrder_46 (by omega) rfl ?_
        have el : to_l x = 0 := by rw [to_l, if_pos (by omega)]
        refine gw_bipush C 6 dX4_toOrder_48 (by decide) ?_
        refine gw_iload_n C 2 dX4_toOrder_50 rfl rfl ?_
        refine gw_isub C dX4_toOrder_51 (by omega) ?_
        refine gw_iload_n C 1 dX4_toOrder_52 rfl rfl ?_
        refine gw_isub C dX4_toOrder_53 (by omega) ?_
        refine gw_iload C 0 dX4_toOrder_54 rfl ?_
        refine gw_isub C dX4_toOrder_56 (by omega) ?_
        refine gw_istore C (lv2 := [(5, iN ((((6) - (to_a x)) - (to_b x)) - (0))), (4, iN (0)), (3, iN (to_b x)), (2, iN (to_a x)), (0, iN (x)), (1, .ref (oa))]) dX4_toOrder_57 (by omega) rfl ?_
        refine gw_iload_n C 4 dX4_toOrder_59 rfl rfl ?_
        refine gw_iconst C 2 dX4_toOrder_60 (by decide) ?_
        refine gw_irem C dX4_toOrder_61 (by omega) (by omega) (by omega) ?_
        refine gw_if_ne C 69 dX4_toOrder_62 (by decide) (by omega) (fun h150 => ?_) (fun h150 => ?_)
        ·
          refine gw_iconst C 0 dX4_toOrder_69 (by decide) ?_
          refine gw_istore C (lv2 := [(6, iN (0)), (5, iN ((((6) - (to_a x)) - (to_b x)) - (0))), (4, iN (0)), (3, iN (to_b x)), (2, iN (to_a x)), (0, iN (x)), (1, .ref (oa))]) dX4_toOrder_70 (by omega) rfl ?_
          refine gw_aload_n C 6 dX4_toOrder_72 rfl rfl ?_
          refine gw_iconst C 0 dX4_toOrder_73 (by decide) ?_
          refine gw_iload_n C 4 dX4_toOrder_74 rfl rfl ?_
          refine gw_istN C (ws2 := [(oa, .inl (cI, 4, .inl (fun j => nI ((up1 f (0) (to_a x)) j))))]) 0 0 dX4_toOrder_75 rfl rfl (by first | decide | omega) (by omega) rfl ?_
          refine gw_aload_n C 6 dX4_toOrder_76 rfl rfl ?_
          refine gw_iconst C 1 dX4_toOrder_77 (by decide) ?_
          refine gw_iload_n C 3 dX4_toOrder_78 rfl rfl ?_
          refine gw_istN C (ws2 := [(oa, .inl (cI, 4, .inl (fun j => nI ((up1 (up1 f (0) (to_a x)) (1) (to_b x)) j))))]) 0 0 dX4_toOrder_79 rfl rfl (by first | decide | omega) (by omega) rfl ?_
          refine gw_aload_n C 6 dX4_toOrder_80 rfl rfl ?_
          refine gw_iconst C 2 dX4_toOrder_81 (by decide) ?_
          refine gw_iload C 0 dX4_toOrder_82 rfl ?_
          refine gw_if_eq C 92 dX4_toOrder_84 (by decide) (by omega) (fun h151 => ?_) (fun h151 => ?_)
          ·
            refine gw_iload C 1 dX4_toOrder_92 rfl ?_
            refine gw_istN C (ws2 := [(oa, .inl (cI, 4, .inl (fun j => nI ((up1 (up1 (up1 f (0) (to_a x)) (1) (to_b x)) (2) ((((6) - (to_a x)) - (to_b x)) - (0))) j))))]) 0 0 dX4_toOrder_94 rfl rfl (by first | decide | omega) (by omega) rfl ?_
            refine gw_aload_n C 6 dX4_toOrder_95 rfl rfl ?_
            refine gw_iconst C 3 dX4_toOrder_96 (by decide) ?_
            refine gw_iload C 0 dX4_toOrder_97 rfl ?_
            refine gw_if_eq C 107 dX4_toOrder_99 (by decide) (by omega) (fun h152 => ?_) (fun h152 => ?_)
            ·
              refine gw_iload C 2 dX4_toOrder_107 rfl ?_
              refine gw_istN C (ws2 := [(oa, .inl (cI, 4, .inl (fun j => nI ((up1 (up1 (up1 (up1 f (0) (to_a x)) (1) (to_b x)) (2) ((((6) - (to_a x)) - (to_b x)) - (0))) (3) (0)) j))))]) 0 0 dX4_toOrder_109 rfl rfl (by first | decide | omega) (by omega) rfl ?_
              have eh : 6 - to_a x - to_b x - 0 = to_h x := by rw [to_h, el]
              exact ret () dX4_toOrder_110 trivial (by rw [cu_to, if_neg (by assumption), if_neg (by assumption), to_h, el]) (Nat.le_refl 0) (Nat.le_refl 0)
            ·
              exact absurd h152 (by decide)
          ·
            exact absurd h151 (by decide)
        ·
          refine gw_iconst C 1 dX4_toOrder_65 (by decide) ?_
          refine gw_goto C 70 dX4_toOrder_66 (by decide) ?_
          refine gw_istore C (lv2 := [(6, iN (1)), (5, iN ((((6) - (to_a x)) - (to_b x)) - (0))), (4, iN (0)), (3, iN (to_b x)), (2, iN (to_a x)), (0, iN (x)), (1, .ref (oa))]) dX4_toOrder_70 (by omega) rfl ?_
          refine gw_aload_n C 6 dX4_toOrder_72 rfl rfl ?_
          refine gw_iconst C 0 dX4_toOrder_73 (by decide) ?_
          refine gw_iload_n C 4 dX4_toOrder_74 rfl rfl ?_
          refine gw_istN C (ws2 := [(oa, .inl (cI, 4, .inl (fun j => nI ((up1 f (0) (to_a x)) j))))]) 0 0 dX4_toOrder_75 rfl rfl (by first | decide | omega) (by omega) rfl ?_
          refine gw_aload_n C 6 dX4_toOrder_76 rfl rfl ?_
          refine gw_iconst C 1 dX4_toOrder_77 (by decide) ?_
          refine gw_iload_n C 3 dX4_toOrder_78 rfl rfl ?_
          refine gw_istN C (ws2 := [(oa, .inl (cI, 4, .inl (fun j => nI ((up1 (up1 f (0) (to_a x)) (1) (to_b x)) j))))]) 0 0 dX4_toOrder_79 rfl rfl (by first | decide | omega) (by omega) rfl ?_
          refine gw_aload_n C 6 dX4_toOrder_80 rfl rfl ?_
          refine gw_iconst C 2 dX4_toOrder_81 (by decide) ?_
          refine gw_iload C 0 dX4_toOrder_82 rfl ?_
          refine gw_if_eq C 92 dX4_toOrder_84 (by decide) (by omega) (fun h153 => ?_) (fun h153 => ?_)
          ·
            exact absurd h153 (by decide)
          ·
            refine gw_iload C 2 dX4_toOrder_87 rfl ?_
            refine gw_goto C 94 dX4_toOrder_89 (by decide) ?_
            refine gw_istN C (ws2 := [(oa, .inl (cI, 4, .inl (fun j => nI ((up1 (up1 (up1 f (0) (to_a x)) (1) (to_b x)) (2) (0)) j))))]) 0 0 dX4_toOrder_94 rfl rfl (by first | decide | omega) (by omega) rfl ?_
            refine gw_aload_n C 6 dX4_toOrder_95 rfl rfl ?_
            refine gw_iconst C 3 dX4_toOrder_96 (by decide) ?_
            refine gw_iload C 0 dX4_toOrder_97 rfl ?_
            refine gw_if_eq C 107 dX4_toOrder_99 (by decide) (by omega) (fun h154 => ?_) (fun h154 => ?_)
            ·
              exact absurd h154 (by decide)
            ·
              refine gw_iload C 1 dX4_toOrder_102 rfl ?_
              refine gw_goto C 109 dX4_toOrder_104 (by decide) ?_
              refine gw_istN C (ws2 := [(oa, .inl (cI, 4, .inl (fun j => nI ((up1 (up1 (up1 (up1 f (0) (to_a x)) (1) (to_b x)) (2) (0)) (3) ((((6) - (to_a x)) - (to_b x)) - (0))) j))))]) 0 0 dX4_toOrder_109 rfl rfl (by first | decide | omega) (by omega) rfl ?_
              have eh : 6 - to_a x - to_b x - 0 = to_h x := by rw [to_h, el]
              exact ret () dX4_toOrder_110 trivial (by rw [cu_to, if_pos (by assumption), if_pos (by assumption), to_h, el]) (Nat.le_refl 0) (Nat.le_refl 0)
