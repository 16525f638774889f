theorem in_X3_read_X7 : ∀ w ∈ wsX70, w ∈ wsX3_read := fun _ h => List.mem_cons_of_mem _ (List.mem_append_right _ (h))
theorem in_X3_show_X7 : ∀ w ∈ wsX70, w ∈ wsX3_show := fun _ h => List.mem_cons_of_mem _ (List.mem_append_right _ (h))
theorem in_X5_read_X5 : ∀ w ∈ wsX50, w ∈ wsX5_read := fun _ h => List.mem_cons_of_mem _ (List.mem_append_right _ (h))
theorem in_X5_read_X7 : ∀ w ∈ wsX70, w ∈ wsX5_read := fun _ h => List.mem_cons_of_mem _ (List.mem_append_left _ (List.mem_append_right _ (h)))
theorem in_X5_show_X5 : ∀ w ∈ wsX50, w ∈ wsX5_show := fun _ h => List.mem_cons_of_mem _ (List.mem_append_left _ (List.mem_append_right _ (h)))
theorem in_X5_show_X7 : ∀ w ∈ wsX70, w ∈ wsX5_show := fun _ h => List.mem_cons_of_mem _ (List.mem_append_right _ (h))
theorem in_X8_position_X8 : ∀ w ∈ wsX80, w ∈ wsX8_position := fun _ h => List.mem_cons_of_mem _ (List.mem_append_right _ (h))
theorem in_X8_read_X7 : ∀ w ∈ wsX70, w ∈ wsX8_read := fun _ h => List.mem_cons_of_mem _ (List.mem_append_right _ (h))
theorem in_X8_read_X8 : ∀ w ∈ wsX80, w ∈ wsX8_read := fun _ h => List.mem_cons_of_mem _ (List.mem_append_left _ (List.mem_append_right _ (h)))
theorem in_X8_show_X7 : ∀ w ∈ wsX70, w ∈ wsX8_show := fun _ h => List.mem_cons_of_mem _ (List.mem_append_right _ (h))
theorem in_X8_show_X8 : ∀ w ∈ wsX80, w ∈ wsX8_show := fun _ h => List.mem_cons_of_mem _ (List.mem_append_left _ (List.mem_append_right _ (h)))
theorem lk_X3_read_7 : Cond.fieldLink RX3 7 "StageCube$Pieces" "count" "I" ∈ wsX3_read := by decide +kernel
theorem lk_X3_read_13 : Cond.fieldLink RX3 13 "StageCube$Pieces" "marks" "I" ∈ wsX3_read := by decide +kernel
theorem lk_X3_read_16 : Cond.fieldLink RX3 16 "StageCube$Pieces" "mark" "[I" ∈ wsX3_read := by decide +kernel
theorem lk_X3_show_7 : Cond.fieldLink RX3 7 "StageCube$Pieces" "count" "I" ∈ wsX3_show := by decide +kernel
theorem lk_X3_show_13 : Cond.fieldLink RX3 13 "StageCube$Pieces" "marks" "I" ∈ wsX3_show := by decide +kernel
theorem lk_X3_show_16 : Cond.fieldLink RX3 16 "StageCube$Pieces" "mark" "[I" ∈ wsX3_show := by decide +kernel
theorem lk_X5_read_9 : Cond.fieldLink RX5 9 "StageCube$Orders" "first" "I" ∈ wsX5_read := by decide +kernel
theorem lk_X5_read_19 : Cond.fieldLink RX5 19 "StageCube$Pieces" "piece" "[I" ∈ wsX5_read := by decide +kernel
theorem lk_X5_show_9 : Cond.fieldLink RX5 9 "StageCube$Orders" "first" "I" ∈ wsX5_show := by decide +kernel
theorem lk_X5_show_15 : Cond.fieldLink RX5 15 "StageCube$Orders" "order" "[I" ∈ wsX5_show := by decide +kernel
theorem lk_X5_show_19 : Cond.fieldLink RX5 19 "StageCube$Pieces" "piece" "[I" ∈ wsX5_show := by decide +kernel
theorem lk_X8_position_11 : Cond.fieldLink RX8 11 "StageCube$Places" "family" "I" ∈ wsX8_position := by decide +kernel
theorem lk_X8_position_17 : Cond.fieldLink RX8 17 "StageCube$Places" "positions" "I" ∈ wsX8_position := by decide +kernel
theorem lk_X8_read_11 : Cond.fieldLink RX8 11 "StageCube$Places" "family" "I" ∈ wsX8_read := by decide +kernel
theorem lk_X8_read_17 : Cond.fieldLink RX8 17 "StageCube$Places" "positions" "I" ∈ wsX8_read := by decide +kernel
theorem lk_X8_read_20 : Cond.fieldLink RX8 20 "StageCube$Pieces" "piece" "[I" ∈ wsX8_read := by decide +kernel
theorem lk_X8_show_11 : Cond.fieldLink RX8 11 "StageCube$Places" "family" "I" ∈ wsX8_show := by decide +kernel
theorem lk_X8_show_17 : Cond.fieldLink RX8 17 "StageCube$Places" "positions" "I" ∈ wsX8_show := by decide +kernel
theorem lk_X8_show_20 : Cond.fieldLink RX8 20 "StageCube$Pieces" "piece" "[I" ∈ wsX8_show := by decide +kernel
def mr_ (kk : Nat) (M : Nat → Nat) : Nat → Nat
  | 0 => 0
  | i + 1 => mr_ kk M i * kk + M i
set_option maxHeartbeats 4000000 in
set_option maxRecDepth 100000 in
theorem c_marksRead (l : Launch) (D : va_G) (cI cB cS cJ cF cG : ClassId) (tt : Nat → Nat) (ft ofc size : Nat) (nx : Value) (p pa ma rt gt nn kk : Nat) (P M : Nat → Nat) (hn : nn ≤ 12) (hn1 : 1 ≤ nn) : gw_CI (S := Unit) l yX3_read wsX3_read 0 0 0 0 D (mo_ty cI cB cS cJ cF cG) (zs tt) ([(ft, .inr (2, [iN (ofc), iN (size), nx]))] ++ pc_ws cI p pa ma rt gt nn kk (P) (M)) [.ref ft, .ref p] (fun r _ => r = nI (mr_ kk M (nn - 1))) (fun _ => [(ft, .inr (2, [iN (ofc), iN (size), nx]))] ++ pc_ws cI p pa ma rt gt nn kk (P) (M)) := by
  refine gw_CI.of (cc := cX3_read) (maxL := 4) (rt := .int) (zs_ok tt) (by decide) rfl (Nat.le_of_ble_eq_true rfl) ?_
  intro K C hkl hkn hkR hkD hmn ret
  have C : gw_x K cX3_read RX3 wsX3_read (mo_ty cI cB cS cJ cF cG) (zs tt) := C
  subst hkl hkD
  refine gw_iconst C 0 dX3_read_0 (by decide) ?_
  refine gw_istore_n C (lv2 := [(2, iN (0)), (0, .ref (ft)), (1, .ref (p))]) dX3_read_1 rfl (by omega) rfl ?_
  refine gw_iconst C 0 dX3_read_2 (by decide) ?_
  refine gw_istore_n C (lv2 := [(3, iN (0)), (2, iN (0)), (0, .ref (ft)), (1, .ref (p))]) dX3_read_3 rfl (by omega) rfl ?_
  have lp : ∀ ni i : Nat, i + ni = (nn - 1) → gw_G K ([(ft, .inr (2, [iN (ofc), iN (size), nx])), (p, .inr (5, [iN (nn), iN (kk), .ref (pa), .ref (ma), .ref (rt), .ref (gt)])), (pa, .inl (cI, nn, .inl (fun j => nI (P j)))), (ma, .inl (cI, nn, .inl (fun j => nI (M j))))]) 0 0 4 [(3, iN (i)), (2, iN (mr_ kk M i)), (0, .ref (ft)), (1, .ref (p))] [] := by
    intro ni
    induction ni with
    | zero =>
      intro i hii
      refine gw_iload_n C 0 dX3_read_4 rfl rfl ?_
      refine gw_aload_n C 3 dX3_read_5 rfl rfl ?_
      refine gw_get C 1 0 in_X3_read_X7 dX3_read_6 lk_X3_read_7 rfl rfl (by decide) rfl rfl ?_
      refine gw_iconst C 1 dX3_read_9 (by decide) ?_
      refine gw_isub C dX3_read_10 (by omega) ?_
      refine gw_icmp_ge C 34 dX3_read_11 (by decide) (by omega) (by omega) (fun h61 => ?_) (fun h61 => ?_)
      ·
        refine gw_iload_n C 1 dX3_read_34 rfl rfl ?_
        exact ret () dX3_read_35 rfl (by rw [show i = nn - 1 by omega]) rfl (Nat.le_refl 0) (Nat.le_refl 0)
      ·
        exact absurd h61 (by omega)
    | succ ni ihi =>
      intro i hii
      refine gw_iload_n C 0 dX3_read_4 rfl rfl ?_
      refine gw_aload_n C 3 dX3_read_5 rfl rfl ?_
      refine gw_get C 1 0 in_X3_read_X7 dX3_read_6 lk_X3_read_7 rfl rfl (by decide) rfl rfl ?_
      refine gw_iconst C 1 dX3_read_9 (by decide) ?_
      refine gw_isub C dX3_read_10 (by omega) ?_
      refine gw_icmp_ge C 34 dX3_read_11 (by decide) (by omega) (by omega) (fun h62 => ?_) (fun h62 => ?_)
      ·
        exact absurd h62 (by omega)
      ·
        refine gw_iload_n C 1 dX3_read_14 rfl rfl ?_
        refine gw_aload_n C 3 dX3_read_15 rfl rfl ?_
        refine gw_get C 1 1 in_X3_read_X7 dX3_read_16 lk_X3_read_13 rfl rfl (by decide) rfl rfl ?_
        refine gw_imul C dX3_read_19 ?_
        refine gw_aload_n C 3 dX3_read_20 rfl rfl ?_
        refine gw_get C 1 3 in_X3_read_X7 dX3_read_21 lk_X3_read_16 rfl rfl (by decide) rfl rfl ?_
        refine gw_iload_n C 0 dX3_read_24 rfl rfl ?_
        refine gw_ild C (v := nI (M (i))) 3 0 dX3_read_25 rfl rfl (by first | decide | omega) (by omega) rfl ?_
        refine gw_iadd C dX3_read_26 ?_
        refine gw_istore_n C (lv2 := [(2, iN (((mr_ kk M i) * (kk)) + (M (i)))), (3, iN (i)), (0, .ref (ft)), (1, .ref (p))]) dX3_read_27 rfl (by omega) rfl ?_
        refine gw_iinc C (v := nI (i + 1)) (lv2 := [(3, iN (i + 1)), (2, iN (((mr_ kk M i) * (kk)) + (M (i)))), (0, .ref (ft)), (1, .ref (p))]) 1 dX3_read_28 rfl (nI_add _ _) (by omega) rfl ?_
        refine gw_goto C 4 dX3_read_31 (by decide) ?_
        refine gw_lv (lv2 := [(3, iN (i + 1)), (2, iN (((mr_ kk M i) * (kk)) + (M (i)))), (0, .ref (ft)), (1, .ref (p))]) [0, 1, 2, 3] rfl ?_
        exact ihi (i + 1) (by omega)
  refine gw_lv (lv2 := [(3, iN (0)), (2, iN (0)), (0, .ref (ft)), (1, .ref (p))]) [0, 1, 2, 3] rfl ?_
  exact lp ((nn - 1) - 0) 0 (by omega)
def ms_r (num kk : Nat) : Nat → Nat
  | 0 => num
  | t + 1 => ms_r num kk t / kk
def ms_s (num kk : Nat) : Nat → Nat
  | 0 => 0
  | t + 1 => ms_s num kk t + ms_r num kk t % kk
def ms_M (num kk n : Nat) (M : Nat → Nat) : Nat → Nat → Nat
  | 0 => M
  | t + 1 => up1 (ms_M num kk n M t) (n - 1 - 1 - t) (ms_r num kk t % kk)
def msM (num kk n : Nat) (M : Nat → Nat) : Nat → Nat := up1 (ms_M num kk n M (n - 1)) (n - 1) ((kk - ms_s num kk (n - 1) % kk) % kk)
theorem ms_r_le (num kk : Nat) : ∀ t, ms_r num kk t ≤ num
  | 0 => Nat.le_refl _
  | t + 1 => Nat.le_trans (Nat.div_le_self _ _) (ms_r_le num kk t)
theorem ms_s_le (num : Nat) {kk : Nat} (h0 : 0 < kk) (h : kk ≤ 3) : ∀ t, ms_s num kk t ≤ 3 * t
  | 0 => Nat.le_refl _
  | t + 1 => by have := ms_s_le num h0 h t; have := Nat.mod_lt (ms_r num kk t) h0; rw [ms_s]; omega
set_option maxHeartbeats 4000000 in
set_option maxRecDepth 100000 in
theorem c_marksShow (l : Launch) (D : va_G) (cI cB cS cJ cF cG : ClassId) (tt : Nat → Nat) (ft ofc size : Nat) (nx : Value) (p pa ma rt gt nn kk : Nat) (P M : Nat → Nat) (num : Nat) (hnum : num < 2 ^ 31) (hn : nn ≤ 12) (hn1 : 2 ≤ nn) (hk : 2 ≤ kk) (hk3 : kk ≤ 3) : gw_CV (S := Unit) l yX3_show wsX3_show 0 0 0 0 D (mo_ty cI cB cS cJ cF cG) (zs tt) ([(ft, .inr (2, [iN (ofc), iN (size), nx]))] ++ pc_ws cI p pa ma rt gt nn kk (P) (M)) [.ref ft, iN num, .ref p] (fun _ => True) (fun _ => [(ft, .inr (2, [iN (ofc), iN (size), nx]))] ++ pc_ws cI p pa ma rt gt nn kk (P) (msM num kk nn M)) := by
  refine gw_CV.of (cc := cX3_show) (maxL := 7) (zs_ok tt) (by decide) rfl (Nat.le_of_ble_eq_true rfl) ?_
  intro K C hkl hkn hkR hkD hmn ret
  have C : gw_x K cX3_show RX3 wsX3_show (mo_ty cI cB cS cJ cF cG) (zs tt) := C
  subst hkl hkD
  refine gw_iload_n C 1 dX3_show_0 rfl rfl ?_
  refine gw_istore_n C (lv2 := [(3, iN (num)), (0, .ref (ft)), (1, iN (num)), (2, .ref (p))]) dX3_show_1 rfl (by omega) rfl ?_
  refine gw_iconst C 0 dX3_show_2 (by decide) ?_
  refine gw_istore C (lv2 := [(4, iN (0)), (3, iN (num)), (0, .ref (ft)), (1, iN (num)), (2, .ref (p))]) dX3_show_3 (by omega) rfl ?_
  refine gw_aload_n C 4 dX3_show_5 rfl rfl ?_
  refine gw_get C 1 0 in_X3_show_X7 dX3_show_6 lk_X3_show_7 rfl rfl (by decide) rfl rfl ?_
  refine gw_iconst C 2 dX3_show_9 (by decide) ?_
  refine gw_isub C dX3_show_10 (by omega) ?_
  refine gw_istore C (lv2 := [(5, iN ((nn) - (2))), (4, iN (0)), (3, iN (num)), (0, .ref (ft)), (1, iN (num)), (2, .ref (p))]) dX3_show_11 (by omega) rfl ?_
  rw [show nn - 2 = mo_dn (nn - 1) 0 by rw [mo_dn_lt (by omega)]; omega]
  refine gw_lv (lv2 := [(5, iN (mo_dn (nn - 1) 0)), (4, iN (ms_s num kk 0)), (3, iN (ms_r num kk 0)), (0, .ref ft), (2, .ref p)]) [0, 1, 2, 3, 5] rfl ?_
  have lp : ∀ nt t : Nat, t + nt = (nn - 1) → gw_G K ([(ft, .inr (2, [iN (ofc), iN (size), nx])), (p, .inr (5, [iN (nn), iN (kk), .ref (pa), .ref (ma), .ref (rt), .ref (gt)])), (pa, .inl (cI, nn, .inl (fun j => nI (P j)))), (ma, .inl (cI, nn, .inl (fun j => nI ((ms_M num kk nn M t) j))))]) 0 0 13 [(5, iN (mo_dn (nn - 1) t)), (4, iN (ms_s num kk t)), (3, iN (ms_r num kk t)), (0, .ref (ft)), (2, .ref (p))] [] := by
    intro nt
    induction nt with
    | zero =>
      intro t hit
      have d32 := mo_dn_32 (n := nn - 1) (t := t) (by omega)
      have d33 : t < nn - 1 → mo_dn (nn - 1) t = nn - 1 - 1 - t := mo_dn_lt
      have d34 : ¬ t < nn - 1 → mo_dn (nn - 1) t = 4294967295 := mo_dn_ge
      have r1 := ms_r_le num kk t
      have s1 := ms_s_le num (show 0 < kk by omega) hk3 t
      refine gw_iload C 0 dX3_show_13 rfl ?_
      refine gw_if_lt32 C 55 dX3_show_15 (by decide) (by omega) (fun h63 => ?_) (fun h63 => ?_)
      ·
        rw [show t = nn - 1 by omega]
        have s2 := ms_s_le num (show 0 < kk by omega) hk3 (nn - 1)
        have s3 := Nat.mod_lt (ms_s num kk (nn - 1)) (show 0 < kk by omega)
        refine gw_aload_n C 4 dX3_show_55 rfl rfl ?_
        refine gw_get C 1 3 in_X3_show_X7 dX3_show_56 lk_X3_show_16 rfl rfl (by decide) rfl rfl ?_
        refine gw_aload_n C 4 dX3_show_59 rfl rfl ?_
        refine gw_get C 1 0 in_X3_show_X7 dX3_show_60 lk_X3_show_7 rfl rfl (by decide) rfl rfl ?_
        refine gw_iconst C 1 dX3_show_63 (by decide) ?_
        refine gw_isub C dX3_show_64 (by omega) ?_
        refine gw_aload_n C 4 dX3_show_65 rfl rfl ?_
        refine gw_get C 1 1 in_X3_show_X7 dX3_show_66 lk_X3_show_13 rfl rfl (by decide) rfl rfl ?_
        refine gw_iload C 1 dX3_show_69 rfl ?_
        refine gw_aload_n C 4 dX3_show_71 rfl rfl ?_
        refine gw_get C 1 1 in_X3_show_X7 dX3_show_72 lk_X3_show_13 rfl rfl (by decide) rfl rfl ?_
        refine gw_irem C dX3_show_75 (by omega) (by omega) (by omega) ?_
        refine gw_isub C dX3_show_76 (by omega) ?_
        refine gw_aload_n C 4 dX3_show_77 rfl rfl ?_
        refine gw_get C 1 1 in_X3_show_X7 dX3_show_78 lk_X3_show_13 rfl rfl (by decide) rfl rfl ?_
        refine gw_irem C dX3_show_81 (by omega) (by omega) (by omega) ?_
        refine gw_istN C (ws2 := [(ft, .inr (2, [iN (ofc), iN (size), nx])), (p, .inr (5, [iN (nn), iN (kk), .ref (pa), .ref (ma), .ref (rt), .ref (gt)])), (pa, .inl (cI, nn, .inl (fun j => nI (P j)))), (ma, .inl (cI, nn, .inl (fun j => nI ((up1 (ms_M num kk nn M (nn - 1)) ((nn) - (1)) (((kk) - ((ms_s num kk (nn - 1)) % (kk))) % (kk))) j))))]) 3 0 dX3_show_82 rfl rfl (by first | decide | omega) (by omega) rfl ?_
        exact ret () dX3_show_83 trivial rfl (Nat.le_refl 0) (Nat.le_refl 0)
      ·
        exact absurd h63 (by omega)
    | succ nt iht =>
      intro t hit
      have d32 := mo_dn_32 (n := nn - 1) (t := t) (by omega)
      have d33 : t < nn - 1 → mo_dn (nn - 1) t = nn - 1 - 1 - t := mo_dn_lt
      have d34 : ¬ t < nn - 1 → mo_dn (nn - 1) t = 4294967295 := mo_dn_ge
      have r1 := ms_r_le num kk t
      have s1 := ms_s_le num (show 0 < kk by omega) hk3 t
      refine gw_iload C 0 dX3_show_13 rfl ?_
      refine gw_if_lt32 C 55 dX3_show_15 (by decide) (by omega) (fun h64 => ?_) (fun h64 => ?_)
      ·
        exact absurd h64 (by omega)
      ·
        rw [mo_dn_lt (show t < nn - 1 by omega)]
        refine gw_iload_n C 2 dX3_show_18 rfl rfl ?_
        refine gw_aload_n C 4 dX3_show_19 rfl rfl ?_
        refine gw_get C 1 1 in_X3_show_X7 dX3_show_20 lk_X3_show_13 rfl rfl (by decide) rfl rfl ?_
        refine gw_irem C dX3_show_23 (by omega) (by omega) (by omega) ?_
        refine gw_istore C (lv2 := [(6, iN ((ms_r num kk t) % (kk))), (5, iN (nn - 1 - 1 - t)), (4, iN (ms_s num kk t)), (3, iN (ms_r num kk t)), (0, .ref (ft)), (2, .ref (p))]) dX3_show_24 (by omega) rfl ?_
        refine gw_aload_n C 5 dX3_show_26 rfl rfl ?_
        refine gw_get C 1 3 in_X3_show_X7 dX3_show_27 lk_X3_show_16 rfl rfl (by decide) rfl rfl ?_
        refine gw_iload C 1 dX3_show_30 rfl ?_
        refine gw_iload C 0 dX3_show_32 rfl ?_
        refine gw_istN C (ws2 := [(ft, .inr (2, [iN (ofc), iN (size), nx])), (p, .inr (5, [iN (nn), iN (kk), .ref (pa), .ref (ma), .ref (rt), .ref (gt)])), (pa, .inl (cI, nn, .inl (fun j => nI (P j)))), (ma, .inl (cI, nn, .inl (fun j => nI ((up1 (ms_M num kk nn M t) (nn - 1 - 1 - t) ((ms_r num kk t) % (kk))) j))))]) 3 0 dX3_show_34 rfl rfl (by first | decide | omega) (by omega) rfl ?_
        refine gw_iload C 2 dX3_show_35 rfl ?_
        refine gw_iload C 0 dX3_show_37 rfl ?_
        refine gw_iadd C dX3_show_39 ?_
        refine gw_istore C (lv2 := [(4, iN ((ms_s num kk t) + ((ms_r num kk t) % (kk)))), (6, iN ((ms_r num kk t) % (kk))), (5, iN (nn - 1 - 1 - t)), (3, iN (ms_r num kk t)), (0, .ref (ft)), (2, .ref (p))]) dX3_show_40 (by omega) rfl ?_
        refine gw_iload_n C 3 dX3_show_42 rfl rfl ?_
        refine gw_aload_n C 5 dX3_show_43 rfl rfl ?_
        refine gw_get C 1 1 in_X3_show_X7 dX3_show_44 lk_X3_show_13 rfl rfl (by decide) rfl rfl ?_
        refine gw_idiv C dX3_show_47 (by omega) (by omega) (by omega) ?_
        refine gw_istore_n C (lv2 := [(3, iN ((ms_r num kk t) / (kk))), (4, iN ((ms_s num kk t) + ((ms_r num kk t) % (kk)))), (6, iN ((ms_r num kk t) % (kk))), (5, iN (nn - 1 - 1 - t)), (0, .ref (ft)), (2, .ref (p))]) dX3_show_48 rfl (by omega) rfl ?_
        refine gw_iinc C (v := nI (mo_dn (nn - 1) (t + 1))) (lv2 := [(5, iN (mo_dn (nn - 1) (t + 1))), (3, iN ((ms_r num kk t) / (kk))), (4, iN ((ms_s num kk t) + ((ms_r num kk t) % (kk)))), (6, iN ((ms_r num kk t) % (kk))), (0, .ref (ft)), (2, .ref (p))]) 3 dX3_show_49 rfl (mo_dn_dec (by omega)) (by omega) rfl ?_
        refine gw_goto C 13 dX3_show_52 (by decide) ?_
        refine gw_lv (lv2 := [(5, iN (mo_dn (nn - 1) (t + 1))), (4, iN ((ms_s num kk t) + ((ms_r num kk t) % (kk)))), (3, iN ((ms_r num kk t) / (kk))), (0, .ref (ft)), (2, .ref (p))]) [0, 2, 1, 4, 5] rfl ?_
        exact iht (t + 1) (by omega)
  refine gw_lv (lv2 := [(5, iN (mo_dn (nn - 1) 0)), (4, iN (ms_s num kk 0)), (3, iN (ms_r num kk 0)), (0, .ref (ft)), (2, .ref (p))]) [0, 1, 2, 3, 4] rfl ?_
  exact lp ((nn - 1) - 0) 0 (by omega)
set_option maxHeartbeats 4000000 in
set_option maxRecDepth 100000 in
theorem c_position (l : Launch) (D : va_G) (cI cB cS cJ cF cG : ClassId) (tt : Nat → Nat) (ft ofc size : Nat) (nx : Value) (p pa ma rt gt nn kk : Nat) (P M : Nat → Nat) (fam psn : Nat) (i : Nat) (hi : i < 12) (hf : fam < 3) (hp : psn ≤ 12) (hp1 : 8 ≤ psn) : gw_CI (S := Unit) l yX8_position wsX8_position 0 0 0 0 D (mo_ty cI cB cS cJ cF cG) (zs tt) ([(ft, .inr (6, [iN (ofc), iN (size), nx, iN (fam), iN (psn)]))] ++ pc_ws cI p pa ma rt gt nn kk (P) (M)) [.ref ft, iN i] (fun r _ => r = nI ((4 * fam + i) % psn)) (fun _ => [(ft, .inr (6, [iN (ofc), iN (size), nx, iN (fam), iN (psn)]))] ++ pc_ws cI p pa ma rt gt nn kk (P) (M)) := by
  refine gw_CI.of (cc := cX8_position) (maxL := 2) (rt := .int) (zs_ok tt) (by decide) rfl (Nat.le_of_ble_eq_true rfl) ?_
  intro K C hkl hkn hkR hkD hmn ret
  have C : gw_x K cX8_position RX8 wsX8_position (mo_ty cI cB cS cJ cF cG) (zs tt) := C
  subst hkl hkD
  refine gw_iconst C 4 dX8_position_0 (by decide) ?_
  refine gw_aload_n C 0 dX8_position_1 rfl rfl ?_
  refine gw_get C 0 3 in_X8_position_X8 dX8_position_2 lk_X8_position_11 rfl rfl (by decide) rfl rfl ?_
  refine gw_imul C dX8_position_5 ?_
  refine gw_iload_n C 1 dX8_position_6 rfl rfl ?_
  refine gw_iadd C dX8_position_7 ?_
  refine gw_aload_n C 0 dX8_position_8 rfl rfl ?_
  refine gw_get C 0 4 in_X8_position_X8 dX8_position_9 lk_X8_position_17 rfl rfl (by decide) rfl rfl ?_
  refine gw_irem C dX8_position_12 (by omega) (by omega) (by omega) ?_
  exact ret () dX8_position_13 rfl rfl rfl (Nat.le_refl 0) (Nat.le_refl 0)
def pl_s (P : Nat → Nat) (fam psn : Nat) : Nat → Nat
  | 0 => 0
  | i + 1 => if P ((4 * fam + i) % psn) / 4 = fam then pl_s P fam psn i ||| 1 * 2 ^ i else pl_s P fam psn i
theorem pl_s_lt (P : Nat → Nat) (fam psn : Nat) : ∀ i, pl_s P fam psn i < 2 ^ i := by
  intro i
  induction i with
  | zero => show 0 < 1; decide
  | succ i ih =>
    have h1 : 2 ^ (i + 1) = 2 ^ i * 2 := Nat.pow_succ ..
    have h2 := Nat.two_pow_pos i
    rw [pl_s]
    split
    · exact Nat.or_lt_two_pow (by omega) (by omega)
    · omega
set_option maxHeartbeats 4000000 in
set_option maxRecDepth 100000 in
theorem c_placesRead (l : Launch) (D : va_G) (cI cB cS cJ cF cG : ClassId) (tt : Nat → Nat) (ft ofc size : Nat) (nx : Value) (p pa ma rt gt nn kk : Nat) (P M : Nat → Nat) (fam psn : Nat) (hf : fam < 3) (hp : psn ≤ 12) (hp1 : 8 ≤ psn) (hn : nn = 12) (hP : ∀ j, j < 12 → P j < 12) : gw_CI (S := Unit) l yX8_read wsX8_read 1 24 0 0 D (mo_ty cI cB cS cJ cF cG) (zs tt) ([(ft, .inr (6, [iN (ofc), iN (size), nx, iN (fam), iN (psn)]))] ++ pc_ws cI p pa ma rt gt nn kk (P) (M)) [.ref ft, .ref p] (fun r _ => r = nI (cu_os (pl_s P fam psn psn) psn).1) (fun _ => [(ft, .inr (6, [iN (ofc), iN (size), nx, iN (fam), iN (psn)]))] ++ pc_ws cI p pa ma rt gt nn kk (P) (M)) := by
  refine gw_CI.of (cc := cX8_read) (maxL := 4) (rt := .int) (zs_ok tt) (by decide) rfl (Nat.le_of_ble_eq_true rfl) ?_
  intro K C hkl hkn hkR hkD hmn ret
  have C : gw_x K cX8_read RX8 wsX8_read (mo_ty cI cB cS cJ cF cG) (zs tt) := C
  subst hkl hkD
  refine gw_iconst C 0 dX8_read_0 (by decide) ?_
  refine gw_istore_n C (lv2 := [(2, iN (0)), (0, .ref (ft)), (1, .ref (p))]) dX8_read_1 rfl (by omega) rfl ?_
  refine gw_iconst C 0 dX8_read_2 (by decide) ?_
  refine gw_istore_n C (lv2 := [(3, iN (0)), (2, iN (0)), (0, .ref (ft)), (1, .ref (p))]) dX8_read_3 rfl (by omega) rfl ?_
  have lp : ∀ ni i : Nat, i + ni = psn → gw_G K ([(ft, .inr (6, [iN (ofc), iN (size), nx, iN (fam), iN (psn)])), (p, .inr (5, [iN (nn), iN (kk), .ref (pa), .ref (ma), .ref (rt), .ref (gt)])), (pa, .inl (cI, nn, .inl (fun j => nI (P j)))), (ma, .inl (cI, nn, .inl (fun j => nI (M j))))]) 0 0 4 [(3, iN (i)), (2, iN (pl_s P fam psn i)), (0, .ref (ft)), (1, .ref (p))] [] := by
    intro ni
    induction ni with
    | zero =>
      intro i hii
      refine gw_iload_n C 0 dX8_read_4 rfl rfl ?_
      refine gw_aload_n C 2 dX8_read_5 rfl rfl ?_
      refine gw_get C 0 4 in_X8_read_X8 dX8_read_6 lk_X8_read_17 rfl rfl (by decide) rfl rfl ?_
      refine gw_icmp_ge C 43 dX8_read_9 (by decide) (by omega) (by omega) (fun h65 => ?_) (fun h65 => ?_)
      ·
        rw [show i = psn by omega]
        have z1 := pl_s_lt P fam psn psn
        have z2 : 2 ^ psn ≤ 2 ^ 12 := Nat.pow_le_pow_right (by decide) hp
        refine gw_iload_n C 1 dX8_read_43 rfl rfl ?_
        refine gw_aload_n C 2 dX8_read_44 rfl rfl ?_
        refine gw_get C 0 4 in_X8_read_X8 dX8_read_45 lk_X8_read_17 rfl rfl (by decide) rfl rfl ?_
        refine gw_allSI (n := 2) C (c_ofSet (kl K) (kD K) _ tt _ (pl_s P fam psn psn) psn (by omega) hp) gX8_read_X4_ofSet rfl (by decide +kernel) dX8_read_48 (by rw [hkR]; decide) (by rw [hkR]; decide) rfl (Nat.le_of_ble_eq_true rfl) rfl (fun rv v hv => ?_)
        subst hv
        exact ret () dX8_read_51 rfl rfl rfl (Nat.le_refl 0) (Nat.le_refl 0)
      ·
        exact absurd h65 (by omega)
    | succ ni ihi =>
      intro i hii
      refine gw_iload_n C 0 dX8_read_4 rfl rfl ?_
      refine gw_aload_n C 2 dX8_read_5 rfl rfl ?_
      refine gw_get C 0 4 in_X8_read_X8 dX8_read_6 lk_X8_read_17 rfl rfl (by decide) rfl rfl ?_
      refine gw_icmp_ge C 43 dX8_read_9 (by decide) (by omega) (by omega) (fun h66 => ?_) (fun h66 => ?_)
      ·
        exact absurd h66 (by omega)
      ·
        refine gw_aload_n C 3 dX8_read_12 rfl rfl ?_
        refine gw_get C 1 2 in_X8_read_X7 dX8_read_13 lk_X8_read_20 rfl rfl (by decide) rfl rfl ?_
        refine gw_aload_n C 2 dX8_read_16 rfl rfl ?_
        refine gw_iload_n C 0 dX8_read_17 rfl rfl ?_
        refine gw_allVI (n := 1) C (c_position (kl K) (kD K) cI cB cS cJ cF cG tt ft ofc size nx p pa ma rt gt nn kk P M fam psn i (by omega) hf hp hp1) 0 rfl rfl rfl gX8_read_X8_position rfl (by decide +kernel) dX8_read_18 (by rw [hkR]; decide) (by rw [hkR]; decide) rfl (Nat.le_of_ble_eq_true rfl) rfl (fun rv v hv => ?_)
        subst hv
        have pl := Nat.mod_lt (4 * fam + i) (show 0 < psn by omega)
        have q1 := hP ((4 * fam + i) % psn) (by omega)
        refine gw_ild C (v := nI (P ((4 * fam + i) % psn))) 2 0 dX8_read_21 rfl rfl (by first | decide | omega) (by omega) rfl ?_
        refine gw_iconst C 4 dX8_read_22 (by decide) ?_
        refine gw_idiv C dX8_read_23 (by omega) (by omega) (by omega) ?_
        refine gw_aload_n C 2 dX8_read_24 rfl rfl ?_
        refine gw_get C 0 3 in_X8_read_X8 dX8_read_25 lk_X8_read_11 rfl rfl (by decide) rfl rfl ?_
        refine gw_icmp_ne C 37 dX8_read_28 (by decide) (by omega) (by omega) (fun h67 => ?_) (fun h67 => ?_)
        ·
          refine gw_iinc C (v := nI (i + 1)) (lv2 := [(3, iN (i + 1)), (2, iN (pl_s P fam psn i)), (0, .ref (ft)), (1, .ref (p))]) 0 dX8_read_37 rfl (nI_add _ _) (by omega) rfl ?_
          refine gw_goto C 4 dX8_read_40 (by decide) ?_
          refine gw_lv (lv2 := [(3, iN (i + 1)), (2, iN (pl_s P fam psn i)), (0, .ref (ft)), (1, .ref (p))]) [0, 1, 2, 3] rfl ?_
          have q := ihi (i + 1) (by omega)
          rw [pl_s, if_neg (by assumption)] at q
          exact q
        ·
          refine gw_iload_n C 1 dX8_read_31 rfl rfl ?_
          refine gw_iconst C 1 dX8_read_32 (by decide) ?_
          refine gw_iload_n C 0 dX8_read_33 rfl rfl ?_
          refine gw_ishl C dX8_read_34 (by omega) (by exact gw_p2 (by omega)) ?_
          refine gw_ior C dX8_read_35 ?_
          refine gw_istore_n C (lv2 := [(2, iN ((pl_s P fam psn i) ||| ((1) * 2 ^ (i)))), (3, iN (i)), (0, .ref (ft)), (1, .ref (p))]) dX8_read_36 rfl (by omega) rfl ?_
          refine gw_iinc C (v := nI (i + 1)) (lv2 := [(3, iN (i + 1)), (2, iN ((pl_s P fam psn i) ||| ((1) * 2 ^ (i)))), (0, .ref (ft)), (1, .ref (p))]) 1 dX8_read_37 rfl (nI_add _ _) (by omega) rfl ?_
          refine gw_goto C 4 dX8_read_40 (by decide) ?_
          refine gw_lv (lv2 := [(3, iN (i + 1)), (2, iN ((pl_s P fam psn i) ||| ((1) * 2 ^ (i)))), (0, .ref (ft)), (1, .ref (p))]) [0, 1, 2, 3] rfl ?_
          have q := ihi (i + 1) (by omega)
          rw [pl_s, if_pos (by assumption)] at q
          exact q
  refine gw_lv (lv2 := [(3, iN (0)), (2, iN (0)), (0, .ref (ft)), (1, .ref (p))]) [0, 1, 2, 3] rfl ?_
  exact lp (psn - 0) 0 (by omega)
def ps_P (set fam psn : Nat) (P : Nat → Nat) : Nat → Nat → Nat
  | 0 => P
  | i + 1 => up1 (ps_P set fam psn P i) ((4 * fam + i) % psn) (if (set / 2 ^ i &&& 1) = 0 then 4 * ((fam + 1) % 3) else 4 * fam)
theorem cu_ts_lt (num things : Nat) (h : things ≤ 12) : ∀ t, (cu_ts num things t).1 < 2 ^ 12 := by
  intro t
  induction t with
  | zero => exact Nat.two_pow_pos 12
  | succ t ih =>
    rw [cu_ts]
    split
    · refine Nat.or_lt_two_pow ih ?_
      rw [Nat.one_mul]
      exact Nat.pow_lt_pow_right (by decide) (by omega)
    · exact ih
set_option maxHeartbeats 4000000 in
set_option maxRecDepth 100000 in
theorem c_placesShow (l : Launch) (D : va_G) (cI cB cS cJ cF cG : ClassId) (tt : Nat → Nat) (ft ofc size : Nat) (nx : Value) (p pa ma rt gt nn kk : Nat) (P M : Nat → Nat) (fam psn : Nat) (num : Nat) (hnum : num < 2 ^ 30) (hf : fam < 3) (hp : psn ≤ 12) (hp1 : 8 ≤ psn) (hn : nn = 12) : gw_CV (S := Unit) l yX8_show wsX8_show 1 26 0 0 D (mo_ty cI cB cS cJ cF cG) (zs tt) ([(ft, .inr (6, [iN (ofc), iN (size), nx, iN (fam), iN (psn)]))] ++ pc_ws cI p pa ma rt gt nn kk (P) (M)) [.ref ft, iN num, .ref p] (fun _ => True) (fun _ => [(ft, .inr (6, [iN (ofc), iN (size), nx, iN (fam), iN (psn)]))] ++ pc_ws cI p pa ma rt gt nn kk (ps_P (cu_ts num psn psn).1 fam psn P psn) (M)) := by
  refine gw_CV.of (cc := cX8_show) (maxL := 6) (zs_ok tt) (by decide) rfl (Nat.le_of_ble_eq_true rfl) ?_
  intro K C hkl hkn hkR hkD hmn ret
  have C : gw_x K cX8_show RX8 wsX8_show (mo_ty cI cB cS cJ cF cG) (zs tt) := C
  subst hkl hkD
  refine gw_iload_n C 1 dX8_show_0 rfl rfl ?_
  refine gw_aload_n C 0 dX8_show_1 rfl rfl ?_
  refine gw_get C 0 4 in_X8_show_X8 dX8_show_2 lk_X8_show_17 rfl rfl (by decide) rfl rfl ?_
  refine gw_allSI (n := 2) C (c_toSet (kl K) (kD K) _ tt _ num psn hnum hp (by omega)) gX8_show_X4_toSet rfl (by decide +kernel) dX8_show_5 (by rw [hkR]; decide) (by rw [hkR]; decide) rfl (Nat.le_of_ble_eq_true rfl) rfl (fun rv v hv => ?_)
  subst hv
  have z1 := cu_ts_lt num psn hp psn
  refine gw_istore_n C (lv2 := [(3, iN ((cu_ts num psn psn).1)), (0, .ref (ft)), (1, iN (num)), (2, .ref (p))]) dX8_show_8 rfl (by omega) rfl ?_
  refine gw_iconst C 4 dX8_show_9 (by decide) ?_
  refine gw_aload_n C 1 dX8_show_10 rfl rfl ?_
  refine gw_get C 0 3 in_X8_show_X8 dX8_show_11 lk_X8_show_11 rfl rfl (by decide) rfl rfl ?_
  refine gw_iconst C 1 dX8_show_14 (by decide) ?_
  refine gw_iadd C dX8_show_15 ?_
  refine gw_iconst C 3 dX8_show_16 (by decide) ?_
  refine gw_irem C dX8_show_17 (by omega) (by omega) (by omega) ?_
  refine gw_imul C dX8_show_18 ?_
  refine gw_istore C (lv2 := [(4, iN ((4) * (((fam) + (1)) % (3)))), (3, iN ((cu_ts num psn psn).1)), (0, .ref (ft)), (1, iN (num)), (2, .ref (p))]) dX8_show_19 (by omega) rfl ?_
  refine gw_iconst C 0 dX8_show_21 (by decide) ?_
  refine gw_istore C (lv2 := [(5, iN (0)), (4, iN ((4) * (((fam) + (1)) % (3)))), (3, iN ((cu_ts num psn psn).1)), (0, .ref (ft)), (1, iN (num)), (2, .ref (p))]) dX8_show_22 (by omega) rfl ?_
  have lp : ∀ ni i : Nat, i + ni = psn → gw_G K ([(ft, .inr (6, [iN (ofc), iN (size), nx, iN (fam), iN (psn)])), (p, .inr (5, [iN (nn), iN (kk), .ref (pa), .ref (ma), .ref (rt), .ref (gt)])), (pa, .inl (cI, nn, .inl (fun j => nI ((ps_P (cu_ts num psn psn).1 fam psn P i) j)))), (ma, .inl (cI, nn, .inl (fun j => nI (M j))))]) 0 0 24 [(5, iN (i)), (4, iN (4 * ((fam + 1) % 3))), (3, iN ((cu_ts num psn psn).1)), (0, .ref (ft)), (2, .ref (p))] [] := by
    intro ni
    induction ni with
    | zero =>
      intro i hii
      refine gw_iload C 0 dX8_show_24 rfl ?_
      refine gw_aload_n C 3 dX8_show_26 rfl rfl ?_
      refine gw_get C 0 4 in_X8_show_X8 dX8_show_27 lk_X8_show_17 rfl rfl (by decide) rfl rfl ?_
      refine gw_icmp_ge C 70 dX8_show_30 (by decide) (by omega) (by omega) (fun h68 => ?_) (fun h68 => ?_)
      ·
        exact ret () dX8_show_70 trivial (by rw [show i = psn by omega]; rfl) (Nat.le_refl 0) (Nat.le_refl 0)
      ·
        exact absurd h68 (by omega)
    | succ ni ihi =>
      intro i hii
      refine gw_iload C 0 dX8_show_24 rfl ?_
      refine gw_aload_n C 3 dX8_show_26 rfl rfl ?_
      refine gw_get C 0 4 in_X8_show_X8 dX8_show_27 lk_X8_show_17 rfl rfl (by decide) rfl rfl ?_
      refine gw_icmp_ge C 70 dX8_show_30 (by decide) (by omega) (by omega) (fun h69 => ?_) (fun h69 => ?_)
      ·
        exact absurd h69 (by omega)
      ·
        have q1 : (cu_ts num psn psn).1 / 2 ^ i &&& 1 ≤ 1 := Nat.and_le_right
        refine gw_aload_n C 4 dX8_show_33 rfl rfl ?_
        refine gw_get C 1 2 in_X8_show_X7 dX8_show_34 lk_X8_show_20 rfl rfl (by decide) rfl rfl ?_
        refine gw_aload_n C 3 dX8_show_37 rfl rfl ?_
        refine gw_iload C 0 dX8_show_38 rfl ?_
        refine gw_allVI (n := 1) C (c_position (kl K) (kD K) cI cB cS cJ cF cG tt ft ofc size nx p pa ma rt gt nn kk (ps_P (cu_ts num psn psn).1 fam psn P i) M fam psn i (by omega) hf hp hp1) 0 rfl rfl rfl gX8_show_X8_position rfl (by decide +kernel) dX8_show_40 (by rw [hkR]; decide) (by rw [hkR]; decide) rfl (Nat.le_of_ble_eq_true rfl) rfl (fun rv v hv => ?_)
        subst hv
        have pl := Nat.mod_lt (4 * fam + i) (show 0 < psn by omega)
        refine gw_iload_n C 2 dX8_show_43 rfl rfl ?_
        refine gw_iload C 0 dX8_show_44 rfl ?_
        refine gw_ishr C dX8_show_46 (by omega) (by omega) ?_
        refine gw_iconst C 1 dX8_show_47 (by decide) ?_
        refine gw_iand C dX8_show_48 ?_
        refine gw_if_eq C 61 dX8_show_49 (by decide) (by omega) (fun h70 => ?_) (fun h70 => ?_)
        ·
          refine gw_iload C 1 dX8_show_61 rfl ?_
          refine gw_istN C (ws2 := [(ft, .inr (6, [iN (ofc), iN (size), nx, iN (fam), iN (psn)])), (p, .inr (5, [iN (nn), iN (kk), .ref (pa), .ref (ma), .ref (rt), .ref (gt)])), (pa, .inl (cI, nn, .inl (fun j => nI ((up1 (ps_P (cu_ts num psn psn).1 fam psn P i) ((4 * fam + i) % psn) (4 * ((fam + 1) % 3))) j)))), (ma, .inl (cI, nn, .inl (fun j => nI (M j))))]) 2 0 dX8_show_63 rfl rfl (by first | decide | omega) (by omega) rfl ?_
          refine gw_iinc C (v := nI (i + 1)) (lv2 := [(5, iN (i + 1)), (4, iN (4 * ((fam + 1) % 3))), (3, iN ((cu_ts num psn psn).1)), (0, .ref (ft)), (2, .ref (p))]) 0 dX8_show_64 rfl (nI_add _ _) (by omega) rfl ?_
          refine gw_goto C 24 dX8_show_67 (by decide) ?_
          refine gw_lv (lv2 := [(5, iN (i + 1)), (4, iN (4 * ((fam + 1) % 3))), (3, iN ((cu_ts num psn psn).1)), (0, .ref (ft)), (2, .ref (p))]) [0, 1, 2, 3, 4] rfl ?_
          have q := ihi (i + 1) (by omega)
          rw [ps_P, if_pos (by assumption)] at q
          exact q
        ·
          refine gw_iconst C 4 dX8_show_52 (by decide) ?_
          refine gw_aload_n C 3 dX8_show_53 rfl rfl ?_
          refine gw_get C 0 3 in_X8_show_X8 dX8_show_54 lk_X8_show_11 rfl rfl (by decide) rfl rfl ?_
          refine gw_imul C dX8_show_57 ?_
          refine gw_goto C 63 dX8_show_58 (by decide) ?_
          refine gw_istN C (ws2 := [(ft, .inr (6, [iN (ofc), iN (size), nx, iN (fam), iN (psn)])), (p, .inr (5, [iN (nn), iN (kk), .ref (pa), .ref (ma), .ref (rt), .ref (gt)])), (pa, .inl (cI, nn, .inl (fun j => nI ((up1 (ps_P (cu_ts num psn psn).1 fam psn P i) ((4 * fam + i) % psn) ((4) * (fam))) j)))), (ma, .inl (cI, nn, .inl (fun j => nI (M j))))]) 2 0 dX8_show_63 rfl rfl (by first | decide | omega) (by omega) rfl ?_
          refine gw_iinc C (v := nI (i + 1)) (lv2 := [(5, iN (i + 1)), (4, iN (4 * ((fam + 1) % 3))), (3, iN ((cu_ts num psn psn).1)), (0, .ref (ft)), (2, .ref (p))]) 0 dX8_show_64 rfl (nI_add _ _) (by omega) rfl ?_
          refine gw_goto C 24 dX8_show_67 (by decide) ?_
          refine gw_lv (lv2 := [(5, iN (i + 1)), (4, iN (4 * ((fam + 1) % 3))), (3, iN ((cu_ts num psn psn).1)), (0, .ref (ft)), (2, .ref (p))]) [0, 1, 2, 3, 4] rfl ?_
          have q := ihi (i + 1) (by omega)
          rw [ps_P, if_neg (by assumption)] at q
          exact q
  refine gw_lv (lv2 := [(5, iN (0)), (4, iN ((4) * (((fam) + (1)) % (3)))), (3, iN ((cu_ts num psn psn).1)), (0, .ref (ft)), (2, .ref (p))]) [0, 1, 2, 3, 5] rfl ?_
  exact lp (psn - 0) 0 (by omega)
set_option maxHeartbeats 4000000 in
set_option maxRecDepth 100000 in
theorem c_ordersRead (l : Launch) (D : va_G) (cI cB cS cJ cF cG : ClassId) (tt : Nat → Nat) (ft ofc size : Nat) (nx : Value) (p pa ma rt gt nn kk : Nat) (P M : Nat → Nat) (first oa : Nat) (f : Nat → Nat) (hf : first ≤ 8) (hn : nn = 12) : gw_CI (S := Unit) l yX5_read wsX5_read 1 23 0 0 D (mo_ty cI cB cS cJ cF cG) (zs tt) ([(ft, .inr (3, [iN (ofc), iN (size), nx, iN (first), .ref (oa)])), (oa, .inl (cI, 4, .inl (fun j => nI (f j))))] ++ pc_ws cI p pa ma rt gt nn kk (P) (M)) [.ref ft, .ref p] (fun r _ => r = nI (cu_oo (P first &&& 3) (P (first + 1) &&& 3) (P (first + 2) &&& 3) (P (first + 3) &&& 3))) (fun _ => [(ft, .inr (3, [iN (ofc), iN (size), nx, iN (first), .ref (oa)])), (oa, .inl (cI, 4, .inl (fun j => nI (f j))))] ++ pc_ws cI p pa ma rt gt nn kk (P) (M)) := by
  refine gw_CI.of (cc := cX5_read) (maxL := 3) (rt := .int) (zs_ok tt) (by decide) rfl (Nat.le_of_ble_eq_true rfl) ?_
  intro K C hkl hkn hkR hkD hmn ret
  have C : gw_x K cX5_read RX5 wsX5_read (mo_ty cI cB cS cJ cF cG) (zs tt) := C
  subst hkl hkD
  have a0 : ∀ x : Nat, x &&& 3 < 2 ^ 31 := fun x => Nat.lt_of_le_of_lt Nat.and_le_right (by decide)
  refine gw_aload_n C 1 dX5_read_0 rfl rfl ?_
  refine gw_get C 2 2 in_X5_read_X7 dX5_read_1 lk_X5_read_19 rfl rfl (by decide) rfl rfl ?_
  refine gw_astore_n C (lv2 := [(2, .ref (pa)), (0, .ref (ft)), (1, .ref (p))]) dX5_read_4 rfl (by omega) rfl ?_
  refine gw_aload_n C 0 dX5_read_5 rfl rfl ?_
  refine gw_aload_n C 1 dX5_read_6 rfl rfl ?_
  refine gw_get C 0 3 in_X5_read_X5 dX5_read_7 lk_X5_read_9 rfl rfl (by decide) rfl rfl ?_
  refine gw_ild C (v := nI (P (first))) 3 0 dX5_read_10 rfl rfl (by first | decide | omega) (by omega) rfl ?_
  refine gw_iconst C 3 dX5_read_11 (by decide) ?_
  refine gw_iand C dX5_read_12 ?_
  refine gw_aload_n C 0 dX5_read_13 rfl rfl ?_
  refine gw_aload_n C 1 dX5_read_14 rfl rfl ?_
  refine gw_get C 0 3 in_X5_read_X5 dX5_read_15 lk_X5_read_9 rfl rfl (by decide) rfl rfl ?_
  refine gw_iconst C 1 dX5_read_18 (by decide) ?_
  refine gw_iadd C dX5_read_19 ?_
  refine gw_ild C (v := nI (P ((first) + (1)))) 3 0 dX5_read_20 rfl rfl (by first | decide | omega) (by omega) rfl ?_
  refine gw_iconst C 3 dX5_read_21 (by decide) ?_
  refine gw_iand C dX5_read_22 ?_
  refine gw_aload_n C 0 dX5_read_23 rfl rfl ?_
  refine gw_aload_n C 1 dX5_read_24 rfl rfl ?_
  refine gw_get C 0 3 in_X5_read_X5 dX5_read_25 lk_X5_read_9 rfl rfl (by decide) rfl rfl ?_
  refine gw_iconst C 2 dX5_read_28 (by decide) ?_
  refine gw_iadd C dX5_read_29 ?_
  refine gw_ild C (v := nI (P ((first) + (2)))) 3 0 dX5_read_30 rfl rfl (by first | decide | omega) (by omega) rfl ?_
  refine gw_iconst C 3 dX5_read_31 (by decide) ?_
  refine gw_iand C dX5_read_32 ?_
  refine gw_aload_n C 0 dX5_read_33 rfl rfl ?_
  refine gw_aload_n C 1 dX5_read_34 rfl rfl ?_
  refine gw_get C 0 3 in_X5_read_X5 dX5_read_35 lk_X5_read_9 rfl rfl (by decide) rfl rfl ?_
  refine gw_iconst C 3 dX5_read_38 (by decide) ?_
  refine gw_iadd C dX5_read_39 ?_
  refine gw_ild C (v := nI (P ((first) + (3)))) 3 0 dX5_read_40 rfl rfl (by first | decide | omega) (by omega) rfl ?_
  refine gw_iconst C 3 dX5_read_41 (by decide) ?_
  refine gw_iand C dX5_read_42 ?_
  refine gw_allSI (n := 4) C (c_ofOrder (kl K) (kD K) _ tt _ _ _ _ _ (a0 _) (a0 _) (a0 _) (a0 _)) gX5_read_X4_ofOrder rfl (by decide +kernel) dX5_read_43 (by rw [hkR]; decide) (by rw [hkR]; decide) rfl (Nat.le_of_ble_eq_true rfl) rfl (fun rv v hv => ?_)
  subst hv
  exact ret () dX5_read_46 rfl rfl rfl (Nat.le_refl 0) (Nat.le_refl 0)
def or_P (first : Nat) (g : Nat → Nat) (P : Nat → Nat) : Nat → Nat → Nat
  | 0 => P
  | i + 1 => up1 (or_P first g P i) (first + i) (first + g i)
set_option maxHeartbeats 4000000 in
set_option maxRecDepth 100000 in
theorem c_ordersShow (l : Launch) (D : va_G) (cI cB cS cJ cF cG : ClassId) (tt : Nat → Nat) (ft ofc size : Nat) (nx : Value) (p pa ma rt gt nn kk : Nat) (P M : Nat → Nat) (first oa : Nat) (f : Nat → Nat) (num : Nat) (hnum : num < 24) (hf : first ≤ 8) (hn : nn = 12) : gw_CV (S := Unit) l yX5_show wsX5_show 1 26 0 0 D (mo_ty cI cB cS cJ cF cG) (zs tt) ([(ft, .inr (3, [iN (ofc), iN (size), nx, iN (first), .ref (oa)])), (oa, .inl (cI, 4, .inl (fun j => nI (f j))))] ++ pc_ws cI p pa ma rt gt nn kk (P) (M)) [.ref ft, iN num, .ref p] (fun _ => True) (fun _ => [(ft, .inr (3, [iN (ofc), iN (size), nx, iN (first), .ref (oa)])), (oa, .inl (cI, 4, .inl (fun j => nI ((cu_to num f) j))))] ++ pc_ws cI p pa ma rt gt nn kk (or_P first (cu_to num f) P 4) (M)) := by
  refine gw_CV.of (cc := cX5_show) (maxL := 4) (zs_ok tt) (by decide) rfl (Nat.le_of_ble_eq_true rfl) ?_
  intro K C hkl hkn hkR hkD hmn ret
  have C : gw_x K cX5_show RX5 wsX5_show (mo_ty cI cB cS cJ cF cG) (zs tt) := C
  subst hkl hkD
  refine gw_iload_n C 1 dX5_show_0 rfl rfl ?_
  refine gw_aload_n C 0 dX5_show_1 rfl rfl ?_
  refine gw_get C 0 4 in_X5_show_X5 dX5_show_2 lk_X5_show_15 rfl rfl (by decide) rfl rfl ?_
  refine gw_callSV (b := 0) (n := 2) (wr := [(ft, .inr (3, [iN (ofc), iN (size), nx, iN (first), .ref (oa)])), (p, .inr (5, [iN (nn), iN (kk), .ref (pa), .ref (ma), .ref (rt), .ref (gt)])), (pa, .inl (cI, nn, .inl (fun j => nI (P j)))), (ma, .inl (cI, nn, .inl (fun j => nI (M j))))]) C (c_toOrder (kl K) (kD K) cI cB cS cJ cF cG tt oa f num hnum) gX5_show_X4_toOrder rfl (by decide +kernel) dX5_show_5 (by rw [hkR]; decide) (by rw [hkR]; decide) [1] [0, 2, 3, 4] rfl rfl rfl rfl (by decide) rfl (Nat.le_of_ble_eq_true rfl) rfl (fun v hv => ?_)
  refine gw_iconst C 0 dX5_show_8 (by decide) ?_
  refine gw_istore_n C (lv2 := [(3, iN (0)), (0, .ref (ft)), (1, iN (num)), (2, .ref (p))]) dX5_show_9 rfl (by omega) rfl ?_
  have lp : ∀ ni i : Nat, i + ni = 4 → gw_G K ([(ft, .inr (3, [iN (ofc), iN (size), nx, iN (first), .ref (oa)])), (p, .inr (5, [iN (nn), iN (kk), .ref (pa), .ref (ma), .ref (rt), .ref (gt)])), (pa, .inl (cI, nn, .inl (fun j => nI ((or_P first (cu_to num f) P (i)) j)))), (ma, .inl (cI, nn, .inl (fun j => nI (M j)))), (oa, .inl (cI, 4, .inl (fun j => nI ((cu_to num f) j))))]) 0 0 10 [(3, iN (i)), (0, .ref (ft)), (2, .ref (p))] [] := by
    intro ni
    induction ni with
    | zero =>
      intro i hii
      refine gw_iload_n C 0 dX5_show_10 rfl rfl ?_
      refine gw_iconst C 4 dX5_show_11 (by decide) ?_
      refine gw_icmp_ge C 43 dX5_show_12 (by decide) (by omega) (by omega) (fun h71 => ?_) (fun h71 => ?_)
      ·
        rw [show i = 4 by omega]
        refine gw_perm (ws2 := [(ft, .inr (3, [iN (ofc), iN (size), nx, iN (first), .ref (oa)])), (oa, .inl (cI, 4, .inl (fun j => nI ((cu_to num f) j))))] ++ pc_ws cI p pa ma rt gt nn kk (or_P first (cu_to num f) P 4) (M)) [0, 4, 1, 2, 3] rfl (by decide) trivial ?_
        exact ret () dX5_show_43 trivial rfl (Nat.le_refl 0) (Nat.le_refl 0)
      ·
        exact absurd h71 (by omega)
    | succ ni ihi =>
      intro i hii
      refine gw_iload_n C 0 dX5_show_10 rfl rfl ?_
      refine gw_iconst C 4 dX5_show_11 (by decide) ?_
      refine gw_icmp_ge C 43 dX5_show_12 (by decide) (by omega) (by omega) (fun h72 => ?_) (fun h72 => ?_)
      ·
        exact absurd h72 (by omega)
      ·
        refine gw_aload_n C 2 dX5_show_15 rfl rfl ?_
        refine gw_get C 1 2 in_X5_show_X7 dX5_show_16 lk_X5_show_19 rfl rfl (by decide) rfl rfl ?_
        refine gw_aload_n C 1 dX5_show_19 rfl rfl ?_
        refine gw_get C 0 3 in_X5_show_X5 dX5_show_20 lk_X5_show_9 rfl rfl (by decide) rfl rfl ?_
        refine gw_iload_n C 0 dX5_show_23 rfl rfl ?_
        refine gw_iadd C dX5_show_24 ?_
        refine gw_aload_n C 1 dX5_show_25 rfl rfl ?_
        refine gw_get C 0 3 in_X5_show_X5 dX5_show_26 lk_X5_show_9 rfl rfl (by decide) rfl rfl ?_
        refine gw_aload_n C 1 dX5_show_29 rfl rfl ?_
        refine gw_get C 0 4 in_X5_show_X5 dX5_show_30 lk_X5_show_15 rfl rfl (by decide) rfl rfl ?_
        refine gw_iload_n C 0 dX5_show_33 rfl rfl ?_
        refine gw_ild C (v := nI ((cu_to num f) (i))) 4 0 dX5_show_34 rfl rfl (by first | decide | omega) (by omega) rfl ?_
        refine gw_iadd C dX5_show_35 ?_
        refine gw_istN C (ws2 := [(ft, .inr (3, [iN (ofc), iN (size), nx, iN (first), .ref (oa)])), (p, .inr (5, [iN (nn), iN (kk), .ref (pa), .ref (ma), .ref (rt), .ref (gt)])), (pa, .inl (cI, nn, .inl (fun j => nI ((up1 (or_P first (cu_to num f) P (i)) ((first) + (i)) ((first) + ((cu_to num f) (i)))) j)))), (ma, .inl (cI, nn, .inl (fun j => nI (M j)))), (oa, .inl (cI, 4, .inl (fun j => nI ((cu_to num f) j))))]) 2 0 dX5_show_36 rfl rfl (by first | decide | omega) (by omega) rfl ?_
        refine gw_iinc C (v := nI (i + 1)) (lv2 := [(3, iN (i + 1)), (0, .ref (ft)), (2, .ref (p))]) 0 dX5_show_37 rfl (nI_add _ _) (by omega) rfl ?_
        refine gw_goto C 10 dX5_show_40 (by decide) ?_
        refine gw_lv (lv2 := [(3, iN (i + 1)), (0, .ref (ft)), (2, .ref (p))]) [0, 1, 2] rfl ?_
        exact ihi (i + 1) (by omega)
  refine gw_lv (lv2 := [(3, iN (0)), (0, .ref (ft)), (2, .ref (p))]) [0, 1, 3] rfl ?_
  exact lp (4 - 0) 0 (by omega)
