theorem mo_on_le : ∀ f x, mo_on f x ≤ f
  | 0, _ => Nat.le_refl _
  | f + 1, x => by
    have h1 := mo_on_le f (x / 2 ^ 1)
    have h2 : x &&& 1 ≤ 1 := Nat.and_le_right
    rw [mo_on]; split <;> omega
def mo_cnt : Nat → Nat
  | 0 => 0
  | m + 1 => if mo_on 12 m = 4 then mo_cnt m + 1 else mo_cnt m
theorem mo_cnt_mono : ∀ a b, a ≤ b → mo_cnt a ≤ mo_cnt b := by
  intro a b h
  induction b with
  | zero => rw [show a = 0 by omega]; exact Nat.le_refl _
  | succ b ih =>
    by_cases e : a = b + 1
    · rw [e]; exact Nat.le_refl _
    · have := ih (by omega)
      rw [mo_cnt]; split <;> omega
/-- makeNumbers: the sets of four, in rising order -/
def mo_num (A B : Nat) : Nat → (Nat → Nat → Nat) → Nat → Nat → Nat
  | 0, N => N
  | m + 1, N => if mo_on 12 m = 4 then mo_up (mo_up (mo_num A B m N) A m (mo_cnt m)) B (mo_cnt m) m else mo_num A B m N
theorem mo_unr_k {k : Nat} (h : k ≠ 36) (n r : Nat) (N : Nat → Nat → Nat) : mo_unr n r N k = N k := by
  have a1 : ∀ t, mo_u1 n r t N k = N k := by
    intro t
    induction t with
    | zero => rfl
    | succ t ih => funext j; simp [mo_u1, mo_up, h, ih]
  have a2 : ∀ q s M, mo_u2i q s M k = M k := by
    intro q s M
    induction s with
    | zero => rfl
    | succ s ih => funext j; simp [mo_u2i, mo_up, h, ih]
  have a3 : ∀ t M, mo_u2 n t M k = M k := by
    intro t M
    induction t with
    | zero => rfl
    | succ t ih => rw [mo_u2, a2, ih]
  rw [mo_unr, a3, a1]
theorem mo_unr_b (n r : Nat) (N : Nat → Nat → Nat) {j : Nat} (hj : j < n) : mo_unr n r N 36 j < 2 * n := by
  have h1 := mo_u2_le n (mo_u1 n r n N) (n - 1) j
  have h2 := mo_u1_b n r N n (Nat.le_refl _) j (by omega) hj
  rw [mo_unr]
  omega
theorem mo_r2_v (t : Nat) (N : Nat → Nat → Nat) : ∀ p j, j < p → mo_r2 t p N 36 j = N 37 (N 10 (8 * t + j)) := by
  intro p
  induction p with
  | zero => intro j h; omega
  | succ p ih =>
    intro j h
    rw [mo_r2]
    by_cases e : j = p
    · subst e
      simp [mo_up, mo_r2_k (k := 37) (by decide), mo_r2_k (k := 10) (by decide)]
    · simp [mo_up, e, ih j (by omega)]
theorem mo_r1_v (N : Nat → Nat → Nat) : ∀ p j, j < p → mo_r1 p N 37 j = N 36 j := by
  intro p
  induction p with
  | zero => intro j h; omega
  | succ p ih =>
    intro j h
    rw [mo_r1]
    by_cases e : j = p
    · subst e; simp [mo_up, mo_r1_k (k := 36) (by decide)]
    · simp [mo_up, e, ih j (by omega)]
theorem mo_trow_v (t : Nat) (N : Nat → Nat → Nat) (j : Nat) (hj : j < 8) (hf : N 10 (8 * t + j) < 8) : mo_trow t N 36 j = N 36 (N 10 (8 * t + j)) := by
  rw [mo_trow, mo_r2_v _ _ _ _ hj, mo_r1_k (k := 10) (by decide), mo_r1_v _ _ _ hf]
theorem mo_trow_k {k : Nat} (h1 : k ≠ 36) (h2 : k ≠ 37) (t : Nat) (N : Nat → Nat → Nat) : mo_trow t N k = N k := by
  rw [mo_trow, mo_r2_k h1, mo_r1_k h2]
theorem mo_ls_le (f : Nat → Nat) (k : Nat) : ∀ t, mo_ls f k t ≤ t
  | 0 => Nat.le_refl _
  | t + 1 => by have := mo_ls_le f k t; rw [mo_ls]; split <;> omega
theorem mo_rk_lt8 (f : Nat → Nat) : mo_rk f 8 8 < 40320 := by
  have h0 := mo_ls_le f 0 (8 - (0 + 1))
  have h1 := mo_ls_le f 1 (8 - (1 + 1))
  have h2 := mo_ls_le f 2 (8 - (2 + 1))
  have h3 := mo_ls_le f 3 (8 - (3 + 1))
  have h4 := mo_ls_le f 4 (8 - (4 + 1))
  have h5 := mo_ls_le f 5 (8 - (5 + 1))
  have h6 := mo_ls_le f 6 (8 - (6 + 1))
  have h7 := mo_ls_le f 7 (8 - (7 + 1))
  simp only [mo_rk]
  omega
theorem mo_rk_lt4 (f : Nat → Nat) : mo_rk f 4 4 < 24 := by
  have h0 := mo_ls_le f 0 (4 - (0 + 1))
  have h1 := mo_ls_le f 1 (4 - (1 + 1))
  have h2 := mo_ls_le f 2 (4 - (2 + 1))
  have h3 := mo_ls_le f 3 (4 - (3 + 1))
  simp only [mo_rk]
  omega
theorem in_X11_makeNumbers : ∀ w ∈ wsX110, w ∈ wsX11_makeNumbers := fun _ h => List.mem_cons_of_mem _ (List.mem_append_right _ h)
theorem lk_X11_makeNumbers_73 : Cond.fieldLink RX11 73 "StageCubeModel" "maskOf" "[S" ∈ wsX11_makeNumbers := by decide +kernel
theorem lk_X11_makeNumbers_77 : Cond.fieldLink RX11 77 "StageCubeModel" "maskAt" "[S" ∈ wsX11_makeNumbers := by decide +kernel
theorem lk_X11_makeNumbers_80 : Cond.fieldLink RX11 80 "StageCubeModel" "halfOf" "[S" ∈ wsX11_makeNumbers := by decide +kernel
theorem lk_X11_makeNumbers_83 : Cond.fieldLink RX11 83 "StageCubeModel" "halfAt" "[S" ∈ wsX11_makeNumbers := by decide +kernel
set_option maxHeartbeats 4000000 in
set_option maxRecDepth 100000 in
theorem c_makeNumbers (l : Launch) (D : va_G) (cI cB cS cJ cF cG : ClassId) (zz : (Nat → Prop) → State → Heap → Prop) (hz : gw_zT zz) (o : Nat) (ad : Nat → Nat) (N : Nat → Nat → Nat) (hc : mo_cnt 4096 ≤ 495) (hc2 : mo_cnt 256 ≤ 70) : gw_CV l yX11_makeNumbers wsX11_makeNumbers 1 22 0 0 D (mo_ty cI cB cS cJ cF cG) zz (mo_ws o ad cI cB cS N) [.ref o] (fun N' => N' = mo_num 26 27 256 (mo_num 24 25 4096 N)) (fun N' => mo_ws o ad cI cB cS N') := by
  refine gw_CV.of (cc := cX11_makeNumbers) (maxL := 3) hz (by decide) rfl (Nat.le_of_ble_eq_true rfl) ?_
  intro K C hkl hkn hkR hkD hmn ret
  have C : gw_x K cX11_makeNumbers RX11 wsX11_makeNumbers (mo_ty cI cB cS cJ cF cG) zz := C
  subst hkl hkD
  refine gw_iconst C 0 dX11_makeNumbers_0 (by decide) ?_
  refine gw_istore_n C (lv2 := [(1, iN (0)), (0, .ref (o))]) dX11_makeNumbers_1 rfl (by omega) rfl ?_
  refine gw_iconst C 0 dX11_makeNumbers_2 (by decide) ?_
  refine gw_istore_n C (lv2 := [(2, iN (0)), (1, iN (0)), (0, .ref (o))]) dX11_makeNumbers_3 rfl (by omega) rfl ?_
  have lp : ∀ ni i : Nat, i + ni = 4096 → gw_G K (mo_ws o ad cI cB cS (mo_num 24 25 i N)) 0 0 4 [(2, iN (i)), (1, iN (mo_cnt i)), (0, .ref (o))] [] := by
    intro ni
    induction ni with
    | zero =>
      intro i hii
      refine gw_iload_n C 0 dX11_makeNumbers_4 rfl rfl ?_
      refine gw_sipush C 4096 dX11_makeNumbers_5 (by decide) ?_
      refine gw_icmp_ge C 44 dX11_makeNumbers_8 (by decide) (by omega) (by omega) (fun h61 => ?_) (fun h61 => ?_)
      ·
        rw [show i = 4096 by omega]
        refine gw_iconst C 0 dX11_makeNumbers_44 (by decide) ?_
        refine gw_istore_n C (lv2 := [(1, iN (0)), (2, iN (4096)), (0, .ref (o))]) dX11_makeNumbers_45 rfl (by omega) rfl ?_
        refine gw_iconst C 0 dX11_makeNumbers_46 (by decide) ?_
        refine gw_istore_n C (lv2 := [(2, iN (0)), (1, iN (0)), (0, .ref (o))]) dX11_makeNumbers_47 rfl (by omega) rfl ?_
        have lp2 : ∀ ni i : Nat, i + ni = 256 → gw_G K (mo_ws o ad cI cB cS (mo_num 26 27 i (mo_num 24 25 4096 N))) 0 0 48 [(2, iN (i)), (1, iN (mo_cnt i)), (0, .ref (o))] [] := by
          intro ni
          induction ni with
          | zero =>
            intro i hii
            refine gw_iload_n C 0 dX11_makeNumbers_48 rfl rfl ?_
            refine gw_sipush C 256 dX11_makeNumbers_49 (by decide) ?_
            refine gw_icmp_ge C 88 dX11_makeNumbers_52 (by decide) (by omega) (by omega) (fun h62 => ?_) (fun h62 => ?_)
            ·
              exact ret _ dX11_makeNumbers_88 rfl (by rw [show i = 256 by omega]) (Nat.le_refl 0) (Nat.le_refl 0)
            ·
              exact absurd h62 (by omega)
          | succ ni ihi =>
            intro i hii
            refine gw_iload_n C 0 dX11_makeNumbers_48 rfl rfl ?_
            refine gw_sipush C 256 dX11_makeNumbers_49 (by decide) ?_
            refine gw_icmp_ge C 88 dX11_makeNumbers_52 (by decide) (by omega) (by omega) (fun h63 => ?_) (fun h63 => ?_)
            ·
              exact absurd h63 (by omega)
            ·
              have cm := mo_cnt_mono (i + 1) 256 (by omega)
              have ol := mo_on_le 12 i
              refine gw_iload_n C 0 dX11_makeNumbers_55 rfl rfl ?_
              refine gw_allSI (n := 1) C (c_ones (kl K) (kD K) _ zz hz _ i (by omega)) gX11_makeNumbers_X11_ones rfl (by decide +kernel) dX11_makeNumbers_56 (by rw [hkR]; decide) (by rw [hkR]; decide) rfl (Nat.le_of_ble_eq_true rfl) rfl (fun ru u hu => ?_)
              subst hu
              refine gw_iconst C 4 dX11_makeNumbers_59 (by decide) ?_
              refine gw_icmp_ne C 82 dX11_makeNumbers_60 (by decide) (by omega) (by omega) (fun h64 => ?_) (fun h64 => ?_)
              ·
                refine gw_iinc C (v := nI (i + 1)) (lv2 := [(2, iN (i + 1)), (1, iN (mo_cnt i)), (0, .ref (o))]) 0 dX11_makeNumbers_82 rfl (nI_add _ _) (by omega) rfl ?_
                refine gw_goto C 48 dX11_makeNumbers_85 (by decide) ?_
                refine gw_lv (lv2 := [(2, iN (i + 1)), (1, iN (mo_cnt i)), (0, .ref (o))]) [0, 1, 2] rfl ?_
                have q := ihi (i + 1) (by omega)
                rw [mo_cnt, mo_num, if_neg h64, if_neg h64] at q
                exact q
              ·
                rw [mo_cnt, if_pos h64] at cm
                refine gw_aload_n C 2 dX11_makeNumbers_63 rfl rfl ?_
                refine gw_get C 0 26 in_X11_makeNumbers dX11_makeNumbers_64 lk_X11_makeNumbers_80 rfl rfl (by decide) rfl rfl ?_
                refine gw_iload_n C 0 dX11_makeNumbers_67 rfl rfl ?_
                refine gw_iload_n C 1 dX11_makeNumbers_68 rfl rfl ?_
                refine gw_i2s C dX11_makeNumbers_69 (by omega) ?_
                refine gw_sst C 23 2 dX11_makeNumbers_70 rfl rfl (by decide) (by omega) (gw_ns (by omega)).1 mo_st26 ?_
                refine gw_aload_n C 2 dX11_makeNumbers_71 rfl rfl ?_
                refine gw_get C 0 27 in_X11_makeNumbers dX11_makeNumbers_72 lk_X11_makeNumbers_83 rfl rfl (by decide) rfl rfl ?_
                refine gw_iload_n C 1 dX11_makeNumbers_75 rfl rfl ?_
                refine gw_iload_n C 0 dX11_makeNumbers_76 rfl rfl ?_
                refine gw_i2s C dX11_makeNumbers_77 (by omega) ?_
                refine gw_sst C 24 2 dX11_makeNumbers_78 rfl rfl (by decide) (by omega) (gw_ns (by omega)).1 mo_st27 ?_
                refine gw_iinc C (v := nI (mo_cnt i + 1)) (lv2 := [(1, iN (mo_cnt i + 1)), (2, iN (i)), (0, .ref (o))]) 1 dX11_makeNumbers_79 rfl (nI_add _ _) (by omega) rfl ?_
                refine gw_iinc C (v := nI (i + 1)) (lv2 := [(2, iN (i + 1)), (1, iN (mo_cnt i + 1)), (0, .ref (o))]) 1 dX11_makeNumbers_82 rfl (nI_add _ _) (by omega) rfl ?_
                refine gw_goto C 48 dX11_makeNumbers_85 (by decide) ?_
                refine gw_lv (lv2 := [(2, iN (i + 1)), (1, iN (mo_cnt i + 1)), (0, .ref (o))]) [0, 1, 2] rfl ?_
                have q := ihi (i + 1) (by omega)
                rw [mo_cnt, mo_num, if_pos h64, if_pos h64] at q
                exact q
        refine gw_lv (lv2 := [(2, iN (0)), (1, iN (0)), (0, .ref (o))]) [0, 1, 2] rfl ?_
        exact lp2 (256 - 0) 0 (by omega)
      ·
        exact absurd h61 (by omega)
    | succ ni ihi =>
      intro i hii
      refine gw_iload_n C 0 dX11_makeNumbers_4 rfl rfl ?_
      refine gw_sipush C 4096 dX11_makeNumbers_5 (by decide) ?_
      refine gw_icmp_ge C 44 dX11_makeNumbers_8 (by decide) (by omega) (by omega) (fun h65 => ?_) (fun h65 => ?_)
      ·
        exact absurd h65 (by omega)
      ·
        have cm := mo_cnt_mono (i + 1) 4096 (by omega)
        have ol := mo_on_le 12 i
        refine gw_iload_n C 0 dX11_makeNumbers_11 rfl rfl ?_
        refine gw_allSI (n := 1) C (c_ones (kl K) (kD K) _ zz hz _ i (by omega)) gX11_makeNumbers_X11_ones rfl (by decide +kernel) dX11_makeNumbers_12 (by rw [hkR]; decide) (by rw [hkR]; decide) rfl (Nat.le_of_ble_eq_true rfl) rfl (fun ru u hu => ?_)
        subst hu
        refine gw_iconst C 4 dX11_makeNumbers_15 (by decide) ?_
        refine gw_icmp_ne C 38 dX11_makeNumbers_16 (by decide) (by omega) (by omega) (fun h66 => ?_) (fun h66 => ?_)
        ·
          refine gw_iinc C (v := nI (i + 1)) (lv2 := [(2, iN (i + 1)), (1, iN (mo_cnt i)), (0, .ref (o))]) 0 dX11_makeNumbers_38 rfl (nI_add _ _) (by omega) rfl ?_
          refine gw_goto C 4 dX11_makeNumbers_41 (by decide) ?_
          refine gw_lv (lv2 := [(2, iN (i + 1)), (1, iN (mo_cnt i)), (0, .ref (o))]) [0, 1, 2] rfl ?_
          have q := ihi (i + 1) (by omega)
          rw [mo_cnt, mo_num, if_neg h66, if_neg h66] at q
          exact q
        ·
          rw [mo_cnt, if_pos h66] at cm
          refine gw_aload_n C 2 dX11_makeNumbers_19 rfl rfl ?_
          refine gw_get C 0 24 in_X11_makeNumbers dX11_makeNumbers_20 lk_X11_makeNumbers_73 rfl rfl (by decide) rfl rfl ?_
          refine gw_iload_n C 0 dX11_makeNumbers_23 rfl rfl ?_
          refine gw_iload_n C 1 dX11_makeNumbers_24 rfl rfl ?_
          refine gw_i2s C dX11_makeNumbers_25 (by omega) ?_
          refine gw_sst C 21 2 dX11_makeNumbers_26 rfl rfl (by decide) (by omega) (gw_ns (by omega)).1 mo_st24 ?_
          refine gw_aload_n C 2 dX11_makeNumbers_27 rfl rfl ?_
          refine gw_get C 0 25 in_X11_makeNumbers dX11_makeNumbers_28 lk_X11_makeNumbers_77 rfl rfl (by decide) rfl rfl ?_
          refine gw_iload_n C 1 dX11_makeNumbers_31 rfl rfl ?_
          refine gw_iload_n C 0 dX11_makeNumbers_32 rfl rfl ?_
          refine gw_i2s C dX11_makeNumbers_33 (by omega) ?_
          refine gw_sst C 22 2 dX11_makeNumbers_34 rfl rfl (by decide) (by omega) (gw_ns (by omega)).1 mo_st25 ?_
          refine gw_iinc C (v := nI (mo_cnt i + 1)) (lv2 := [(1, iN (mo_cnt i + 1)), (2, iN (i)), (0, .ref (o))]) 1 dX11_makeNumbers_35 rfl (nI_add _ _) (by omega) rfl ?_
          refine gw_iinc C (v := nI (i + 1)) (lv2 := [(2, iN (i + 1)), (1, iN (mo_cnt i + 1)), (0, .ref (o))]) 1 dX11_makeNumbers_38 rfl (nI_add _ _) (by omega) rfl ?_
          refine gw_goto C 4 dX11_makeNumbers_41 (by decide) ?_
          refine gw_lv (lv2 := [(2, iN (i + 1)), (1, iN (mo_cnt i + 1)), (0, .ref (o))]) [0, 1, 2] rfl ?_
          have q := ihi (i + 1) (by omega)
          rw [mo_cnt, mo_num, if_pos h66, if_pos h66] at q
          exact q
  refine gw_lv (lv2 := [(2, iN (0)), (1, iN (0)), (0, .ref (o))]) [0, 1, 2] rfl ?_
  exact lp (4096 - 0) 0 (by omega)
def mo_nk1 : Nat → (Nat → Nat → Nat) → Nat → Nat → Nat
  | 0, N => N
  | p + 1, N => mo_up (mo_nk1 p N) 9 p (mo_nk1 p N 36 p)
def mo_nk2 : Nat → (Nat → Nat → Nat) → Nat → Nat → Nat
  | 0, N => N
  | p + 1, N => mo_up (mo_nk2 p N) 37 p (mo_nk2 p N 36 (mo_nk2 p N 9 p))
def mo_nk3 : Nat → (Nat → Nat → Nat) → Nat → Nat → Nat
  | 0, N => N
  | p + 1, N => mo_up (mo_nk3 p N) 36 p (mo_nk3 p N 37 p)
def mo_nkA (N : Nat → Nat → Nat) (k : Nat) : Nat → Nat → Nat := mo_nk3 8 (mo_nk2 8 (mo_unr 8 (N 31 k) N))
def mo_nk (kind : Nat) : Nat → (Nat → Nat → Nat) → Nat → Nat → Nat
  | 0, N => N
  | k + 1, N => mo_up (mo_nkA (mo_nk kind k N) k) 28 (mo_rk (mo_nkA (mo_nk kind k N) k 36) 8 8) kind
def mo_name (r kind : Nat) (N : Nat → Nat → Nat) : Nat → Nat → Nat := mo_nk kind 96 (mo_nk1 8 (mo_unr 8 r N))
theorem mo_nk1_k {k : Nat} (h : k ≠ 9) (N : Nat → Nat → Nat) : ∀ p, mo_nk1 p N k = N k := by
  intro p
  induction p with
  | zero => rfl
  | succ p ih => funext j; simp [mo_nk1, mo_up, h, ih]
theorem mo_nk2_k {k : Nat} (h : k ≠ 37) (N : Nat → Nat → Nat) : ∀ p, mo_nk2 p N k = N k := by
  intro p
  induction p with
  | zero => rfl
  | succ p ih => funext j; simp [mo_nk2, mo_up, h, ih]
theorem mo_nk3_k {k : Nat} (h : k ≠ 36) (N : Nat → Nat → Nat) : ∀ p, mo_nk3 p N k = N k := by
  intro p
  induction p with
  | zero => rfl
  | succ p ih => funext j; simp [mo_nk3, mo_up, h, ih]
theorem mo_nk1_v (N : Nat → Nat → Nat) : ∀ p j, j < p → mo_nk1 p N 9 j = N 36 j := by
  intro p
  induction p with
  | zero => intro j h; omega
  | succ p ih =>
    intro j h
    rw [mo_nk1]
    by_cases e : j = p
    · subst e; simp [mo_up, mo_nk1_k (k := 36) (by decide)]
    · simp [mo_up, e, ih j (by omega)]
theorem mo_nk2_v (N : Nat → Nat → Nat) : ∀ p j, j < p → mo_nk2 p N 37 j = N 36 (N 9 j) := by
  intro p
  induction p with
  | zero => intro j h; omega
  | succ p ih =>
    intro j h
    rw [mo_nk2]
    by_cases e : j = p
    · subst e; simp [mo_up, mo_nk2_k (k := 36) (by decide), mo_nk2_k (k := 9) (by decide)]
    · simp [mo_up, e, ih j (by omega)]
theorem mo_nk3_v (N : Nat → Nat → Nat) : ∀ p j, j < p → mo_nk3 p N 36 j = N 37 j := by
  intro p
  induction p with
  | zero => intro j h; omega
  | succ p ih =>
    intro j h
    rw [mo_nk3]
    by_cases e : j = p
    · subst e; simp [mo_up, mo_nk3_k (k := 37) (by decide)]
    · simp [mo_up, e, ih j (by omega)]
theorem mo_nkA_k {k : Nat} (h1 : k ≠ 36) (h2 : k ≠ 37) (N : Nat → Nat → Nat) (q : Nat) : mo_nkA N q k = N k := by
  rw [mo_nkA, mo_nk3_k h1, mo_nk2_k h2, mo_unr_k h1]
theorem mo_nkA_v (N : Nat → Nat → Nat) (q j : Nat) (hj : j < 8) : mo_nkA N q 36 j = mo_unr 8 (N 31 q) N 36 (N 9 j) := by
  rw [mo_nkA, mo_nk3_v _ _ _ hj, mo_nk2_v _ _ _ hj, mo_unr_k (k := 9) (by decide)]
theorem mo_nk_k {k : Nat} (h1 : k ≠ 36) (h2 : k ≠ 37) (h3 : k ≠ 28) (kind : Nat) (N : Nat → Nat → Nat) : ∀ q, mo_nk kind q N k = N k := by
  intro q
  induction q with
  | zero => rfl
  | succ q ih => funext j; rw [mo_nk]; simp [mo_up, h3, mo_nkA_k h1 h2, ih]
theorem in_X11_nameKind : ∀ w ∈ wsX110, w ∈ wsX11_nameKind := fun _ h => List.mem_cons_of_mem _ (List.mem_append_right _ h)
theorem lk_X11_nameKind_37 : Cond.fieldLink RX11 37 "StageCubeModel" "oldMore" "[I" ∈ wsX11_nameKind := by decide +kernel
theorem lk_X11_nameKind_87 : Cond.fieldLink RX11 87 "StageCubeModel" "kindOf" "[S" ∈ wsX11_nameKind := by decide +kernel
theorem lk_X11_nameKind_96 : Cond.fieldLink RX11 96 "StageCubeModel" "squareAt" "[I" ∈ wsX11_nameKind := by decide +kernel
theorem lk_X11_nameKind_112 : Cond.fieldLink RX11 112 "StageCubeModel" "row" "[I" ∈ wsX11_nameKind := by decide +kernel
theorem lk_X11_nameKind_115 : Cond.fieldLink RX11 115 "StageCubeModel" "other" "[I" ∈ wsX11_nameKind := by decide +kernel
set_option maxHeartbeats 4000000 in
set_option maxRecDepth 100000 in
theorem c_nameKind (l : Launch) (D : va_G) (cI cB cS cJ cF cG : ClassId) (zz : (Nat → Prop) → State → Heap → Prop) (hz : gw_zT zz) (o : Nat) (ad : Nat → Nat) (N : Nat → Nat → Nat) (r kind : Nat) (hr : r < 2 ^ 31) (hk : kind < 32768) (hs : ∀ k, k < 96 → N 31 k < 2 ^ 31) (hu : ∀ j, j < 8 → mo_unr 8 r N 36 j < 8) : gw_CV l yX11_nameKind wsX11_nameKind 1 25 0 0 D (mo_ty cI cB cS cJ cF cG) zz (mo_ws o ad cI cB cS N) [.ref o, iN r, iN kind] (fun N' => N' = mo_name r kind N) (fun N' => mo_ws o ad cI cB cS N') := by
  refine gw_CV.of (cc := cX11_nameKind) (maxL := 6) hz (by decide) rfl (Nat.le_of_ble_eq_true rfl) ?_
  intro K C hkl hkn hkR hkD hmn ret
  have C : gw_x K cX11_nameKind RX11 wsX11_nameKind (mo_ty cI cB cS cJ cF cG) zz := C
  subst hkl hkD
  refine gw_aload_n C 0 dX11_nameKind_0 rfl rfl ?_
  refine gw_get C 0 9 in_X11_nameKind dX11_nameKind_1 lk_X11_nameKind_37 rfl rfl (by decide) rfl rfl ?_
  refine gw_astore_n C (lv2 := [(3, .ref (ad 9)), (0, .ref (o)), (1, iN (r)), (2, iN (kind))]) dX11_nameKind_4 rfl (by omega) rfl ?_
  refine gw_aload_n C 1 dX11_nameKind_5 rfl rfl ?_
  refine gw_bipush C 8 dX11_nameKind_6 (by decide) ?_
  refine gw_iload_n C 2 dX11_nameKind_8 rfl rfl ?_
  refine gw_allVV (n := 2) C (c_unrank (kl K) (kD K) cI cB cS cJ cF cG zz hz o ad N 8 r (by omega) (by omega) hr) 0 rfl rfl rfl gX11_nameKind_X11_unrank rfl (by decide +kernel) dX11_nameKind_9 (by rw [hkR]; decide) (by rw [hkR]; decide) rfl (Nat.le_of_ble_eq_true rfl) rfl (fun v hv => ?_)
  subst hv
  refine gw_iconst C 0 dX11_nameKind_12 (by decide) ?_
  refine gw_istore C (lv2 := [(4, iN (0)), (3, .ref (ad 9)), (0, .ref (o)), (1, iN (r)), (2, iN (kind))]) dX11_nameKind_13 (by omega) rfl ?_
  have lp : ∀ ni i : Nat, i + ni = 8 → gw_G K (mo_ws o ad cI cB cS (mo_nk1 i (mo_unr 8 r N))) 0 0 15 [(4, iN (i)), (3, .ref (ad 9)), (0, .ref (o)), (1, iN (r)), (2, iN (kind))] [] := by
    intro ni
    induction ni with
    | zero =>
      intro i hii
      refine gw_iload C 0 dX11_nameKind_15 rfl ?_
      refine gw_bipush C 8 dX11_nameKind_17 (by decide) ?_
      refine gw_icmp_ge C 39 dX11_nameKind_19 (by decide) (by omega) (by omega) (fun h67 => ?_) (fun h67 => ?_)
      ·
        rw [show i = 8 by omega]
        refine gw_iconst C 0 dX11_nameKind_39 (by decide) ?_
        refine gw_istore C (lv2 := [(4, iN (0)), (3, .ref (ad 9)), (0, .ref (o)), (1, iN (r)), (2, iN (kind))]) dX11_nameKind_40 (by omega) rfl ?_
        have e9 : ∀ k j, j < 8 → mo_nk kind k (mo_nk1 8 (mo_unr 8 r N)) 9 j < 8 := fun k j hj => by rw [mo_nk_k (by decide) (by decide) (by decide), mo_nk1_v _ _ _ hj]; exact hu j hj
        have e31 : ∀ k, k < 96 → mo_nk kind k (mo_nk1 8 (mo_unr 8 r N)) 31 k < 2 ^ 31 := fun k hk2 => by rw [mo_nk_k (by decide) (by decide) (by decide), mo_nk1_k (by decide), mo_unr_k (by decide)]; exact hs k hk2
        have lp2 : ∀ nk k : Nat, k + nk = 96 → gw_G K (mo_ws o ad cI cB cS (mo_nk kind k (mo_nk1 8 (mo_unr 8 r N)))) 0 0 42 [(4, iN (k)), (3, .ref (ad 9)), (0, .ref (o)), (1, iN (r)), (2, iN (kind))] [] := by
          intro nk
          induction nk with
          | zero =>
            intro k hik
            refine gw_iload C 0 dX11_nameKind_42 rfl ?_
            refine gw_bipush C 96 dX11_nameKind_44 (by decide) ?_
            refine gw_icmp_ge C 143 dX11_nameKind_46 (by decide) (by omega) (by omega) (fun h68 => ?_) (fun h68 => ?_)
            ·
              exact ret _ dX11_nameKind_143 rfl (by rw [show k = 96 by omega]; rfl) (Nat.le_refl 0) (Nat.le_refl 0)
            ·
              exact absurd h68 (by omega)
          | succ nk ihk =>
            intro k hik
            refine gw_iload C 0 dX11_nameKind_42 rfl ?_
            refine gw_bipush C 96 dX11_nameKind_44 (by decide) ?_
            refine gw_icmp_ge C 143 dX11_nameKind_46 (by decide) (by omega) (by omega) (fun h69 => ?_) (fun h69 => ?_)
            ·
              exact absurd h69 (by omega)
            ·
              have f9 := e9 k
              have f31 := e31 k (by omega)
              obtain ⟨M, eM⟩ : ∃ M, M = mo_nk kind k (mo_nk1 8 (mo_unr 8 r N)) := ⟨_, rfl⟩
              rw [← eM] at f9 f31
              rw [← eM]
              refine gw_aload_n C 2 dX11_nameKind_49 rfl rfl ?_
              refine gw_bipush C 8 dX11_nameKind_50 (by decide) ?_
              refine gw_aload_n C 2 dX11_nameKind_52 rfl rfl ?_
              refine gw_get C 0 31 in_X11_nameKind dX11_nameKind_53 lk_X11_nameKind_96 rfl rfl (by decide) rfl rfl ?_
              refine gw_iload C 0 dX11_nameKind_56 rfl ?_
              refine gw_ild C (v := nI (M 31 (k))) 28 0 dX11_nameKind_58 rfl rfl (by decide) (by omega) (by first | rfl | simp [mo_up]) ?_
              refine gw_allVV (n := 2) C (c_unrank (kl K) (kD K) cI cB cS cJ cF cG zz hz o ad M 8 (M 31 k) (by omega) (by omega) f31) 0 rfl rfl rfl gX11_nameKind_X11_unrank rfl (by decide +kernel) dX11_nameKind_59 (by rw [hkR]; decide) (by rw [hkR]; decide) rfl (Nat.le_of_ble_eq_true rfl) rfl (fun v2 hv2 => ?_)
              subst hv2
              refine gw_iconst C 0 dX11_nameKind_62 (by decide) ?_
              refine gw_istore C (lv2 := [(5, iN (0)), (4, iN (k)), (3, .ref (ad 9)), (0, .ref (o)), (1, iN (r)), (2, iN (kind))]) dX11_nameKind_63 (by omega) rfl ?_
              have g9 : ∀ j, j < 8 → (mo_unr 8 (M 31 k) M) 9 j < 8 := fun j hj => by rw [mo_unr_k (by decide)]; exact f9 j hj
              have gb : ∀ j, j < 8 → (mo_unr 8 (M 31 k) M) 36 j < 16 := fun j hj => mo_unr_b 8 _ M hj
              have lp3 : ∀ nu u : Nat, u + nu = 8 → gw_G K (mo_ws o ad cI cB cS (mo_nk2 u (mo_unr 8 (M 31 k) M))) 0 0 65 [(5, iN (u)), (4, iN (k)), (3, .ref (ad 9)), (0, .ref (o)), (1, iN (r)), (2, iN (kind))] [] := by
                intro nu
                induction nu with
                | zero =>
                  intro u hiu
                  refine gw_iload C 0 dX11_nameKind_65 rfl ?_
                  refine gw_bipush C 8 dX11_nameKind_67 (by decide) ?_
                  refine gw_icmp_ge C 94 dX11_nameKind_69 (by decide) (by omega) (by omega) (fun h70 => ?_) (fun h70 => ?_)
                  ·
                    rw [show u = 8 by omega]
                    refine gw_iconst C 0 dX11_nameKind_94 (by decide) ?_
                    refine gw_istore C (lv2 := [(5, iN (0)), (4, iN (k)), (3, .ref (ad 9)), (0, .ref (o)), (1, iN (r)), (2, iN (kind))]) dX11_nameKind_95 (by omega) rfl ?_
                    have lp4 : ∀ nv v : Nat, v + nv = 8 → gw_G K (mo_ws o ad cI cB cS (mo_nk3 v (mo_nk2 8 (mo_unr 8 (M 31 k) M)))) 0 0 97 [(5, iN (v)), (4, iN (k)), (3, .ref (ad 9)), (0, .ref (o)), (1, iN (r)), (2, iN (kind))] [] := by
                      intro nv
                      induction nv with
                      | zero =>
                        intro v hiv
                        refine gw_iload C 0 dX11_nameKind_97 rfl ?_
                        refine gw_bipush C 8 dX11_nameKind_99 (by decide) ?_
                        refine gw_icmp_ge C 124 dX11_nameKind_101 (by decide) (by omega) (by omega) (fun h71 => ?_) (fun h71 => ?_)
                        ·
                          rw [show v = 8 by omega]
                          rw [show mo_nk3 8 (mo_nk2 8 (mo_unr 8 (M 31 k) M)) = mo_nkA M k from rfl]
                          have hb : ∀ j, j < 8 → mo_nkA M k 36 j < 100 := fun j hj => by rw [mo_nkA_v _ _ _ hj]; have := gb (M 9 j) (f9 j hj); omega
                          have hq := mo_rk_lt8 (mo_nkA M k 36)
                          refine gw_aload_n C 3 dX11_nameKind_124 rfl rfl ?_
                          refine gw_get C 0 28 in_X11_nameKind dX11_nameKind_125 lk_X11_nameKind_87 rfl rfl (by decide) rfl rfl ?_
                          refine gw_aload_n C 3 dX11_nameKind_128 rfl rfl ?_
                          refine gw_bipush C 8 dX11_nameKind_129 (by decide) ?_
                          refine gw_allVI (n := 1) C (c_rank (kl K) (kD K) cI cB cS cJ cF cG zz hz o ad (mo_nkA M k) 8 (by omega) hb) 0 rfl rfl rfl gX11_nameKind_X11_rank rfl (by decide +kernel) dX11_nameKind_131 (by rw [hkR]; decide) (by rw [hkR]; decide) rfl (Nat.le_of_ble_eq_true rfl) rfl (fun rv3 v3 hv3 => ?_)
                          obtain ⟨rfl, rfl⟩ := hv3
                          refine gw_iload_n C 5 dX11_nameKind_134 rfl rfl ?_
                          refine gw_i2s C dX11_nameKind_135 (by omega) ?_
                          refine gw_sst C 25 2 dX11_nameKind_136 rfl rfl (by decide) (by omega) (gw_ns (by omega)).1 mo_st28 ?_
                          refine gw_iinc C (v := nI (k + 1)) (lv2 := [(4, iN (k + 1)), (5, iN (8)), (3, .ref (ad 9)), (0, .ref (o)), (1, iN (r)), (2, iN (kind))]) 1 dX11_nameKind_137 rfl (nI_add _ _) (by omega) rfl ?_
                          refine gw_goto C 42 dX11_nameKind_140 (by decide) ?_
                          refine gw_lv (lv2 := [(4, iN (k + 1)), (3, .ref (ad 9)), (0, .ref (o)), (1, iN (r)), (2, iN (kind))]) [0, 2, 3, 4, 5] rfl ?_
                          have q := ihk (k + 1) (by omega)
                          rw [mo_nk, ← eM] at q
                          exact q
                        ·
                          exact absurd h71 (by omega)
                      | succ nv ihv =>
                        intro v hiv
                        refine gw_iload C 0 dX11_nameKind_97 rfl ?_
                        refine gw_bipush C 8 dX11_nameKind_99 (by decide) ?_
                        refine gw_icmp_ge C 124 dX11_nameKind_101 (by decide) (by omega) (by omega) (fun h72 => ?_) (fun h72 => ?_)
                        ·
                          exact absurd h72 (by omega)
                        ·
                          refine gw_aload_n C 3 dX11_nameKind_104 rfl rfl ?_
                          refine gw_get C 0 36 in_X11_nameKind dX11_nameKind_105 lk_X11_nameKind_112 rfl rfl (by decide) rfl rfl ?_
                          refine gw_iload C 0 dX11_nameKind_108 rfl ?_
                          refine gw_aload_n C 3 dX11_nameKind_110 rfl rfl ?_
                          refine gw_get C 0 37 in_X11_nameKind dX11_nameKind_111 lk_X11_nameKind_115 rfl rfl (by decide) rfl rfl ?_
                          refine gw_iload C 0 dX11_nameKind_114 rfl ?_
                          refine gw_ild C (v := nI ((mo_nk3 v (mo_nk2 8 (mo_unr 8 (M 31 k) M))) 37 (v))) 34 0 dX11_nameKind_116 rfl rfl (by decide) (by omega) (by first | rfl | simp [mo_up]) ?_
                          refine gw_ist C 33 0 dX11_nameKind_117 rfl rfl (by decide) (by omega) mo_st36 ?_
                          refine gw_iinc C (v := nI (v + 1)) (lv2 := [(5, iN (v + 1)), (4, iN (k)), (3, .ref (ad 9)), (0, .ref (o)), (1, iN (r)), (2, iN (kind))]) 0 dX11_nameKind_118 rfl (nI_add _ _) (by omega) rfl ?_
                          refine gw_goto C 97 dX11_nameKind_121 (by decide) ?_
                          refine gw_lv (lv2 := [(5, iN (v + 1)), (4, iN (k)), (3, .ref (ad 9)), (0, .ref (o)), (1, iN (r)), (2, iN (kind))]) [0, 1, 2, 3, 4, 5] rfl ?_
                          exact gw_ws (congrArg (mo_ws o ad cI cB cS) (by rfl)) (ihv (v + 1) (by omega))
                    refine gw_lv (lv2 := [(5, iN (0)), (4, iN (k)), (3, .ref (ad 9)), (0, .ref (o)), (1, iN (r)), (2, iN (kind))]) [0, 1, 2, 3, 4, 5] rfl ?_
                    exact lp4 (8 - 0) 0 (by omega)
                  ·
                    exact absurd h70 (by omega)
                | succ nu ihu =>
                  intro u hiu
                  refine gw_iload C 0 dX11_nameKind_65 rfl ?_
                  refine gw_bipush C 8 dX11_nameKind_67 (by decide) ?_
                  refine gw_icmp_ge C 94 dX11_nameKind_69 (by decide) (by omega) (by omega) (fun h73 => ?_) (fun h73 => ?_)
                  ·
                    exact absurd h73 (by omega)
                  ·
                    have q9 : (mo_nk2 u (mo_unr 8 (M 31 k) M)) 9 u < 8 := by rw [mo_nk2_k (by decide)]; exact g9 u (by omega)
                    refine gw_aload_n C 3 dX11_nameKind_72 rfl rfl ?_
                    refine gw_get C 0 37 in_X11_nameKind dX11_nameKind_73 lk_X11_nameKind_115 rfl rfl (by decide) rfl rfl ?_
                    refine gw_iload C 0 dX11_nameKind_76 rfl ?_
                    refine gw_aload_n C 3 dX11_nameKind_78 rfl rfl ?_
                    refine gw_get C 0 36 in_X11_nameKind dX11_nameKind_79 lk_X11_nameKind_112 rfl rfl (by decide) rfl rfl ?_
                    refine gw_aload_n C 2 dX11_nameKind_82 rfl rfl ?_
                    refine gw_iload C 0 dX11_nameKind_83 rfl ?_
                    refine gw_ild C (v := nI ((mo_nk2 u (mo_unr 8 (M 31 k) M)) 9 (u))) 10 0 dX11_nameKind_85 rfl rfl (by decide) (by omega) (by first | rfl | simp [mo_up]) ?_
                    refine gw_ild C (v := nI ((mo_nk2 u (mo_unr 8 (M 31 k) M)) 36 ((mo_nk2 u (mo_unr 8 (M 31 k) M)) 9 (u)))) 33 0 dX11_nameKind_86 rfl rfl (by decide) (by omega) (by first | rfl | simp [mo_up]) ?_
                    refine gw_ist C 34 0 dX11_nameKind_87 rfl rfl (by decide) (by omega) mo_st37 ?_
                    refine gw_iinc C (v := nI (u + 1)) (lv2 := [(5, iN (u + 1)), (4, iN (k)), (3, .ref (ad 9)), (0, .ref (o)), (1, iN (r)), (2, iN (kind))]) 0 dX11_nameKind_88 rfl (nI_add _ _) (by omega) rfl ?_
                    refine gw_goto C 65 dX11_nameKind_91 (by decide) ?_
                    refine gw_lv (lv2 := [(5, iN (u + 1)), (4, iN (k)), (3, .ref (ad 9)), (0, .ref (o)), (1, iN (r)), (2, iN (kind))]) [0, 1, 2, 3, 4, 5] rfl ?_
                    exact gw_ws (congrArg (mo_ws o ad cI cB cS) (by rfl)) (ihu (u + 1) (by omega))
              refine gw_lv (lv2 := [(5, iN (0)), (4, iN (k)), (3, .ref (ad 9)), (0, .ref (o)), (1, iN (r)), (2, iN (kind))]) [0, 1, 2, 3, 4, 5] rfl ?_
              exact lp3 (8 - 0) 0 (by omega)
        refine gw_lv (lv2 := [(4, iN (0)), (3, .ref (ad 9)), (0, .ref (o)), (1, iN (r)), (2, iN (kind))]) [0, 1, 2, 3, 4] rfl ?_
        exact lp2 (96 - 0) 0 (by omega)
      ·
        exact absurd h67 (by omega)
    | succ ni ihi =>
      intro i hii
      refine gw_iload C 0 dX11_nameKind_15 rfl ?_
      refine gw_bipush C 8 dX11_nameKind_17 (by decide) ?_
      refine gw_icmp_ge C 39 dX11_nameKind_19 (by decide) (by omega) (by omega) (fun h74 => ?_) (fun h74 => ?_)
      ·
        exact absurd h74 (by omega)
      ·
        refine gw_aload_n C 1 dX11_nameKind_22 rfl rfl ?_
        refine gw_iload C 0 dX11_nameKind_23 rfl ?_
        refine gw_aload_n C 2 dX11_nameKind_25 rfl rfl ?_
        refine gw_get C 0 36 in_X11_nameKind dX11_nameKind_26 lk_X11_nameKind_112 rfl rfl (by decide) rfl rfl ?_
        refine gw_iload C 0 dX11_nameKind_29 rfl ?_
        refine gw_ild C (v := nI ((mo_nk1 i (mo_unr 8 r N)) 36 (i))) 33 0 dX11_nameKind_31 rfl rfl (by decide) (by omega) (by first | rfl | simp [mo_up]) ?_
        refine gw_ist C 10 0 dX11_nameKind_32 rfl rfl (by decide) (by omega) mo_st9 ?_
        refine gw_iinc C (v := nI (i + 1)) (lv2 := [(4, iN (i + 1)), (3, .ref (ad 9)), (0, .ref (o)), (1, iN (r)), (2, iN (kind))]) 0 dX11_nameKind_33 rfl (nI_add _ _) (by omega) rfl ?_
        refine gw_goto C 15 dX11_nameKind_36 (by decide) ?_
        refine gw_lv (lv2 := [(4, iN (i + 1)), (3, .ref (ad 9)), (0, .ref (o)), (1, iN (r)), (2, iN (kind))]) [0, 1, 2, 3, 4] rfl ?_
        exact gw_ws (congrArg (mo_ws o ad cI cB cS) (by rfl)) (ihi (i + 1) (by omega))
  refine gw_lv (lv2 := [(4, iN (0)), (3, .ref (ad 9)), (0, .ref (o)), (1, iN (r)), (2, iN (kind))]) [0, 1, 2, 3, 4] rfl ?_
  exact lp (8 - 0) 0 (by omega)
