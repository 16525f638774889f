def bf_t2 (nx : Nat → Nat → Nat) (al : Nat → Nat) (d s : Nat) : Nat → (Nat → Nat) × Nat → (Nat → Nat) × Nat
  | 0, S => S
  | t + 1, S => if al t ≠ 0 then bf_s d (nx s t) (bf_t2 nx al d s t S) else bf_t2 nx al d s t S
def bf_q2 (nx : Nat → Nat → Nat) (al : Nat → Nat) (T d s : Nat) (S : (Nat → Nat) × Nat) : (Nat → Nat) × Nat := if S.1 s = d then ((bf_t2 nx al d s T (S.1, 0)).1, if (bf_t2 nx al d s T (S.1, 0)).2 ≠ 0 ∨ S.2 ≠ 0 then 1 else 0) else S
def bf_r2 (nx : Nat → Nat → Nat) (al : Nat → Nat) (T d : Nat) : Nat → (Nat → Nat) × Nat → (Nat → Nat) × Nat
  | 0, S => S
  | s + 1, S => bf_q2 nx al T d s (bf_r2 nx al T d s S)
def bf_l2 (nx : Nat → Nat → Nat) (al : Nat → Nat) (T n : Nat) (f : Nat → Nat) : Nat → (Nat → Nat) × Nat
  | 0 => (f, 1)
  | d + 1 => bf_r2 nx al T d n ((bf_l2 nx al T n f d).1, 0)
theorem bf_t2_ok (nx : Nat → Nat → Nat) (al : Nat → Nat) {d s : Nat} {S : (Nat → Nat) × Nat} (hd : d < 100) (h : bf_ok S) : ∀ t, bf_ok (bf_t2 nx al d s t S) := by
  intro t
  induction t with
  | zero => exact h
  | succ t ih => rw [bf_t2]; split; exact bf_s_ok hd ih; exact ih
theorem bf_q2_ok (nx : Nat → Nat → Nat) (al : Nat → Nat) {T d s : Nat} {S : (Nat → Nat) × Nat} (hd : d < 100) (h : bf_ok S) : bf_ok (bf_q2 nx al T d s S) := by
  rw [bf_q2]
  split
  · have q : bf_ok (S.1, 0) := ⟨h.1, Nat.zero_le 1⟩
    refine ⟨(bf_t2_ok nx al hd q T).1, ?_⟩
    show (if _ then 1 else 0) ≤ 1
    split <;> omega
  · exact h
theorem bf_r2_ok (nx : Nat → Nat → Nat) (al : Nat → Nat) {T d : Nat} {S : (Nat → Nat) × Nat} (hd : d < 100) (h : bf_ok S) : ∀ s, bf_ok (bf_r2 nx al T d s S) := by
  intro s
  induction s with
  | zero => exact h
  | succ s ih => rw [bf_r2]; exact bf_q2_ok nx al hd ih
theorem bf_l2_ok (nx : Nat → Nat → Nat) (al : Nat → Nat) {T n : Nat} {f : Nat → Nat} (h : ∀ j, f j ≤ 100) : ∀ d, d ≤ 100 → bf_ok (bf_l2 nx al T n f d) := by
  intro d
  induction d with
  | zero => intro _; exact ⟨h, Nat.le_refl _⟩
  | succ d ih =>
    intro hd
    have q : bf_ok ((bf_l2 nx al T n f d).1, 0) := ⟨(ih (by omega)).1, Nat.zero_le 1⟩
    rw [bf_l2]
    exact bf_r2_ok nx al (show d < 100 by omega) q n
theorem mo_may_2 (s t : Nat) : mo_may s t < 2 := by rw [mo_may]; split <;> decide
/-- the neighbours of stages 2 and 4 -/
def mo_nxB (N : Nat → Nat → Nat) (k t : Nat) : Nat := 495 * N 32 (18 * (k / 495) + t) + N 33 (18 * (k % 495) + t)
def mo_nxD (N : Nat → Nat → Nat) (k f : Nat) : Nat := ((N 35 (6 * (72 + k / 13824) + f) * 24 + N 35 (6 * (k / 576 % 24) + f)) * 24 + N 35 (6 * (24 + k / 24 % 24) + f)) * 24 + N 35 (6 * (48 + k % 24) + f)
theorem in_X11_spread2 : ∀ w ∈ wsX110, w ∈ wsX11_spread2 := fun _ h => List.mem_cons_of_mem _ (List.mem_append_right _ h)
theorem lk_X11_spread2_63 : Cond.fieldLink RX11 63 "StageCubeModel" "near2" "[B" ∈ wsX11_spread2 := by decide +kernel
theorem lk_X11_spread2_100 : Cond.fieldLink RX11 100 "StageCubeModel" "move1" "[I" ∈ wsX11_spread2 := by decide +kernel
theorem lk_X11_spread2_103 : Cond.fieldLink RX11 103 "StageCubeModel" "move2" "[I" ∈ wsX11_spread2 := by decide +kernel
set_option maxHeartbeats 4000000 in
set_option maxRecDepth 100000 in
theorem c_spread2 (l : Launch) (D : va_G) (cI cB cS cJ cF cG : ClassId) (zz : (Nat → Prop) → State → Heap → Prop) (hz : gw_zT zz) (o : Nat) (ad : Nat → Nat) (N : Nat → Nat → Nat) (f : Nat → Nat) (k d : Nat) (hk : k < 1082565) (hd : d < 99) (hN : ∀ j, f j ≤ 100) (hx : ∀ t, t < 18 → mo_nxB N k t < 1082565) : gw_CI l yX11_spread2 wsX11_spread2 1 23 0 0 D (mo_ty cI cB cS cJ cF cG) zz (mo_ws o ad cI cB cS (mo_a N 21 f)) [.ref o, iN k, iN d] (fun r N' => r = nI (bf_t2 (mo_nxB N) (mo_may 1) d k 18 (f, 0)).2 ∧ N' = mo_a N 21 (bf_t2 (mo_nxB N) (mo_may 1) d k 18 (f, 0)).1) (fun N' => mo_ws o ad cI cB cS N') := by
  refine gw_CI.of (cc := cX11_spread2) (maxL := 6) (rt := .boolean) hz (by decide) rfl (Nat.le_of_ble_eq_true rfl) ?_
  intro K C hkl hkn hkR hkD hmn ret
  have C : gw_x K cX11_spread2 RX11 wsX11_spread2 (mo_ty cI cB cS cJ cF cG) zz := C
  subst hkl hkD
  refine gw_iconst C 0 dX11_spread2_0 (by decide) ?_
  refine gw_istore_n C (lv2 := [(3, iN (0)), (0, .ref (o)), (1, iN (k)), (2, iN (d))]) dX11_spread2_1 rfl (by omega) rfl ?_
  refine gw_iconst C 0 dX11_spread2_2 (by decide) ?_
  refine gw_istore C (lv2 := [(4, iN (0)), (3, iN (0)), (0, .ref (o)), (1, iN (k)), (2, iN (d))]) dX11_spread2_3 (by omega) rfl ?_
  have hok : ∀ t, bf_ok (bf_t2 (mo_nxB N) (mo_may 1) d k t (f, 0)) := bf_t2_ok _ _ (by omega) ⟨hN, Nat.zero_le 1⟩
  have lp : ∀ nt t : Nat, t + nt = 18 → gw_G K (mo_ws o ad cI cB cS (mo_a N 21 ((bf_t2 (mo_nxB N) (mo_may 1) d k t (f, 0)).1))) 0 0 5 [(4, iN (t)), (3, iN ((bf_t2 (mo_nxB N) (mo_may 1) d k t (f, 0)).2)), (0, .ref (o)), (1, iN (k)), (2, iN (d))] [] := by
    intro nt
    induction nt with
    | zero =>
      intro t hit
      refine gw_iload C 0 dX11_spread2_5 rfl ?_
      refine gw_bipush C 18 dX11_spread2_7 (by decide) ?_
      refine gw_icmp_ge C 91 dX11_spread2_9 (by decide) (by omega) (by omega) (fun h61 => ?_) (fun h61 => ?_)
      ·
        rw [show t = 18 by omega]
        have o2 := (hok 18).2
        refine gw_iload_n C 1 dX11_spread2_91 rfl rfl ?_
        exact ret _ dX11_spread2_92 (by rcases (show (bf_t2 (mo_nxB N) (mo_may 1) d k 18 (f, 0)).2 = 0 ∨ (bf_t2 (mo_nxB N) (mo_may 1) d k 18 (f, 0)).2 = 1 by omega) with e | e <;> rw [e] <;> rfl) ⟨rfl, rfl⟩ rfl (Nat.le_refl 0) (Nat.le_refl 0)
      ·
        exact absurd h61 (by omega)
    | succ nt iht =>
      intro t hit
      refine gw_iload C 0 dX11_spread2_5 rfl ?_
      refine gw_bipush C 18 dX11_spread2_7 (by decide) ?_
      refine gw_icmp_ge C 91 dX11_spread2_9 (by decide) (by omega) (by omega) (fun h62 => ?_) (fun h62 => ?_)
      ·
        exact absurd h62 (by omega)
      ·
        have ok := hok t
        have lx := hx t (by omega)
        obtain ⟨S, eS⟩ : ∃ S, S = bf_t2 (mo_nxB N) (mo_may 1) d k t (f, 0) := ⟨_, rfl⟩
        rw [← eS] at ok
        rw [← eS]
        rw [mo_nxB] at lx
        refine gw_sipush C 495 dX11_spread2_12 (by decide) ?_
        refine gw_aload_n C 2 dX11_spread2_15 rfl rfl ?_
        refine gw_get C 0 32 in_X11_spread2 dX11_spread2_16 lk_X11_spread2_100 rfl rfl (by decide) rfl rfl ?_
        refine gw_bipush C 18 dX11_spread2_19 (by decide) ?_
        refine gw_iload_n C 3 dX11_spread2_21 rfl rfl ?_
        refine gw_sipush C 495 dX11_spread2_22 (by decide) ?_
        refine gw_idiv C dX11_spread2_25 (by omega) (by omega) (by omega) ?_
        refine gw_imul C dX11_spread2_26 ?_
        refine gw_iload C 0 dX11_spread2_27 rfl ?_
        refine gw_iadd C dX11_spread2_29 ?_
        refine gw_ild C (v := nI (N 32 (((18) * ((k) / (495))) + (t)))) 29 0 dX11_spread2_30 rfl rfl (by decide) (by omega) (by rw [mo_a_ne (by decide)]) ?_
        refine gw_imul C dX11_spread2_31 ?_
        refine gw_aload_n C 2 dX11_spread2_32 rfl rfl ?_
        refine gw_get C 0 33 in_X11_spread2 dX11_spread2_33 lk_X11_spread2_103 rfl rfl (by decide) rfl rfl ?_
        refine gw_bipush C 18 dX11_spread2_36 (by decide) ?_
        refine gw_iload_n C 3 dX11_spread2_38 rfl rfl ?_
        refine gw_sipush C 495 dX11_spread2_39 (by decide) ?_
        refine gw_irem C dX11_spread2_42 (by omega) (by omega) (by omega) ?_
        refine gw_imul C dX11_spread2_43 ?_
        refine gw_iload C 0 dX11_spread2_44 rfl ?_
        refine gw_iadd C dX11_spread2_46 ?_
        refine gw_ild C (v := nI (N 33 (((18) * ((k) % (495))) + (t)))) 30 0 dX11_spread2_47 rfl rfl (by decide) (by omega) (by rw [mo_a_ne (by decide)]) ?_
        refine gw_iadd C dX11_spread2_48 ?_
        refine gw_istore C (lv2 := [(5, iN (((495) * (N 32 (((18) * ((k) / (495))) + (t)))) + (N 33 (((18) * ((k) % (495))) + (t))))), (4, iN (t)), (3, iN (S.2)), (0, .ref (o)), (1, iN (k)), (2, iN (d))]) dX11_spread2_49 (by omega) rfl ?_
        obtain ⟨y, ey⟩ : ∃ y, y = mo_nxB N k t := ⟨_, rfl⟩
        rw [mo_nxB] at ey
        rw [← ey] at lx
        rw [← ey]
        refine gw_iconst C 1 dX11_spread2_51 (by decide) ?_
        refine gw_iload C 1 dX11_spread2_52 rfl ?_
        refine gw_allSI (n := 2) C (c_may (kl K) (kD K) _ zz hz _ 1 t (by omega) (by omega)) gX11_spread2_X11_may rfl (by decide +kernel) dX11_spread2_54 (by rw [hkR]; decide) (by rw [hkR]; decide) rfl (Nat.le_of_ble_eq_true rfl) rfl (fun ru u hu => ?_)
        subst hu
        have m2 := mo_may_2 1 t
        have oky := ok.1 y
        refine gw_if_eq C 85 dX11_spread2_57 (by decide) (by omega) (fun h63 => ?_) (fun h63 => ?_)
        ·
          refine gw_iinc C (v := nI (t + 1)) (lv2 := [(4, iN (t + 1)), (5, iN (y)), (3, iN (S.2)), (0, .ref (o)), (1, iN (k)), (2, iN (d))]) 1 dX11_spread2_85 rfl (nI_add _ _) (by omega) rfl ?_
          refine gw_goto C 5 dX11_spread2_88 (by decide) ?_
          refine gw_lv (lv2 := [(4, iN (t + 1)), (3, iN (S.2)), (0, .ref (o)), (1, iN (k)), (2, iN (d))]) [0, 2, 3, 4, 5] rfl ?_
          have q := iht (t + 1) (by omega)
          rw [bf_t2, if_neg (by omega), ← eS] at q
          exact q
        ·
          refine gw_aload_n C 3 dX11_spread2_60 rfl rfl ?_
          refine gw_get C 0 21 in_X11_spread2 dX11_spread2_61 lk_X11_spread2_63 rfl rfl (by decide) rfl rfl ?_
          refine gw_iload C 0 dX11_spread2_64 rfl ?_
          refine gw_bld C (v := nI ((S.1) (y))) 18 1 dX11_spread2_66 rfl rfl (by decide) (by omega) (by rw [mo_a_eq]) ?_
          refine gw_bipush C 100 dX11_spread2_67 (by decide) ?_
          refine gw_icmp_ne C 85 dX11_spread2_69 (by decide) (by omega) (by omega) (fun h64 => ?_) (fun h64 => ?_)
          ·
            refine gw_iinc C (v := nI (t + 1)) (lv2 := [(4, iN (t + 1)), (5, iN (y)), (3, iN (S.2)), (0, .ref (o)), (1, iN (k)), (2, iN (d))]) 1 dX11_spread2_85 rfl (nI_add _ _) (by omega) rfl ?_
            refine gw_goto C 5 dX11_spread2_88 (by decide) ?_
            refine gw_lv (lv2 := [(4, iN (t + 1)), (3, iN (S.2)), (0, .ref (o)), (1, iN (k)), (2, iN (d))]) [0, 2, 3, 4, 5] rfl ?_
            have q := iht (t + 1) (by omega)
            rw [bf_t2, if_pos (by omega), ← eS, bf_s, if_neg (by rw [mo_nxB, ← ey]; exact h64)] at q
            exact q
          ·
            refine gw_aload_n C 3 dX11_spread2_72 rfl rfl ?_
            refine gw_get C 0 21 in_X11_spread2 dX11_spread2_73 lk_X11_spread2_63 rfl rfl (by decide) rfl rfl ?_
            refine gw_iload C 0 dX11_spread2_76 rfl ?_
            refine gw_iload_n C 5 dX11_spread2_78 rfl rfl ?_
            refine gw_iconst C 1 dX11_spread2_79 (by decide) ?_
            refine gw_iadd C dX11_spread2_80 ?_
            refine gw_i2b C dX11_spread2_81 (by omega) ?_
            refine gw_bst C 18 1 dX11_spread2_82 rfl rfl (by decide) (by omega) (gw_nb (by omega)).1 mo_st21 ?_
            refine gw_iconst C 1 dX11_spread2_83 (by decide) ?_
            refine gw_istore_n C (lv2 := [(3, iN (1)), (5, iN (y)), (4, iN (t)), (0, .ref (o)), (1, iN (k)), (2, iN (d))]) dX11_spread2_84 rfl (by omega) rfl ?_
            refine gw_iinc C (v := nI (t + 1)) (lv2 := [(4, iN (t + 1)), (3, iN (1)), (5, iN (y)), (0, .ref (o)), (1, iN (k)), (2, iN (d))]) 2 dX11_spread2_85 rfl (nI_add _ _) (by omega) rfl ?_
            refine gw_goto C 5 dX11_spread2_88 (by decide) ?_
            refine gw_lv (lv2 := [(4, iN (t + 1)), (3, iN (1)), (0, .ref (o)), (1, iN (k)), (2, iN (d))]) [0, 1, 3, 4, 5] rfl ?_
            have q := iht (t + 1) (by omega)
            rw [bf_t2, if_pos (by omega), ← eS, bf_s, if_pos (by rw [mo_nxB, ← ey]; exact h64), mo_nxB, ← ey] at q
            rw [mo_up_a]
            exact q
  refine gw_lv (lv2 := [(4, iN (0)), (3, iN (0)), (0, .ref (o)), (1, iN (k)), (2, iN (d))]) [0, 1, 2, 3, 4] rfl ?_
  exact lp (18 - 0) 0 (by omega)
theorem in_X11_spread4 : ∀ w ∈ wsX110, w ∈ wsX11_spread4 := fun _ h => List.mem_cons_of_mem _ (List.mem_append_right _ h)
theorem lk_X11_spread4_70 : Cond.fieldLink RX11 70 "StageCubeModel" "near4" "[B" ∈ wsX11_spread4 := by decide +kernel
theorem lk_X11_spread4_109 : Cond.fieldLink RX11 109 "StageCubeModel" "move4" "[I" ∈ wsX11_spread4 := by decide +kernel
set_option maxHeartbeats 4000000 in
set_option maxRecDepth 100000 in
theorem c_spread4 (l : Launch) (D : va_G) (cI cB cS cJ cF cG : ClassId) (zz : (Nat → Prop) → State → Heap → Prop) (hz : gw_zT zz) (o : Nat) (ad : Nat → Nat) (N : Nat → Nat → Nat) (f : Nat → Nat) (k d : Nat) (hk : k < 1327104) (hd : d < 99) (hN : ∀ j, f j ≤ 100) (hx : ∀ t, t < 6 → mo_nxD N k t < 1327104) : gw_CI l yX11_spread4 wsX11_spread4 0 0 0 0 D (mo_ty cI cB cS cJ cF cG) zz (mo_ws o ad cI cB cS (mo_a N 23 f)) [.ref o, iN k, iN d] (fun r N' => r = nI (bf_t2 (mo_nxD N) bf_one d k 6 (f, 0)).2 ∧ N' = mo_a N 23 (bf_t2 (mo_nxD N) bf_one d k 6 (f, 0)).1) (fun N' => mo_ws o ad cI cB cS N') := by
  refine gw_CI.of (cc := cX11_spread4) (maxL := 10) (rt := .boolean) hz (by decide) rfl (Nat.le_of_ble_eq_true rfl) ?_
  intro K C hkl hkn hkR hkD hmn ret
  have C : gw_x K cX11_spread4 RX11 wsX11_spread4 (mo_ty cI cB cS cJ cF cG) zz := C
  refine gw_iconst C 0 dX11_spread4_0 (by decide) ?_
  refine gw_istore_n C (lv2 := [(3, iN (0)), (0, .ref (o)), (1, iN (k)), (2, iN (d))]) dX11_spread4_1 rfl (by omega) rfl ?_
  refine gw_iconst C 0 dX11_spread4_2 (by decide) ?_
  refine gw_istore C (lv2 := [(4, iN (0)), (3, iN (0)), (0, .ref (o)), (1, iN (k)), (2, iN (d))]) dX11_spread4_3 (by omega) rfl ?_
  have hok : ∀ t, bf_ok (bf_t2 (mo_nxD N) bf_one d k t (f, 0)) := bf_t2_ok _ _ (by omega) ⟨hN, Nat.zero_le 1⟩
  have lp : ∀ nt t : Nat, t + nt = 6 → gw_G K (mo_ws o ad cI cB cS (mo_a N 23 ((bf_t2 (mo_nxD N) bf_one d k t (f, 0)).1))) 0 0 5 [(4, iN (t)), (3, iN ((bf_t2 (mo_nxD N) bf_one d k t (f, 0)).2)), (0, .ref (o)), (1, iN (k)), (2, iN (d))] [] := by
    intro nt
    induction nt with
    | zero =>
      intro t hit
      refine gw_iload C 0 dX11_spread4_5 rfl ?_
      refine gw_bipush C 6 dX11_spread4_7 (by decide) ?_
      refine gw_icmp_ge C 150 dX11_spread4_9 (by decide) (by omega) (by omega) (fun h65 => ?_) (fun h65 => ?_)
      ·
        rw [show t = 6 by omega]
        have o2 := (hok 6).2
        refine gw_iload_n C 1 dX11_spread4_150 rfl rfl ?_
        exact ret _ dX11_spread4_151 (by rcases (show (bf_t2 (mo_nxD N) bf_one d k 6 (f, 0)).2 = 0 ∨ (bf_t2 (mo_nxD N) bf_one d k 6 (f, 0)).2 = 1 by omega) with e | e <;> rw [e] <;> rfl) ⟨rfl, rfl⟩ rfl (Nat.le_refl 0) (Nat.le_refl 0)
      ·
        exact absurd h65 (by omega)
    | succ nt iht =>
      intro t hit
      refine gw_iload C 0 dX11_spread4_5 rfl ?_
      refine gw_bipush C 6 dX11_spread4_7 (by decide) ?_
      refine gw_icmp_ge C 150 dX11_spread4_9 (by decide) (by omega) (by omega) (fun h66 => ?_) (fun h66 => ?_)
      ·
        exact absurd h66 (by omega)
      ·
        have ok := hok t
        have lx := hx t (by omega)
        obtain ⟨S, eS⟩ : ∃ S, S = bf_t2 (mo_nxD N) bf_one d k t (f, 0) := ⟨_, rfl⟩
        rw [← eS] at ok
        rw [← eS]
        rw [mo_nxD] at lx
        refine gw_aload_n C 2 dX11_spread4_12 rfl rfl ?_
        refine gw_get C 0 35 in_X11_spread4 dX11_spread4_13 lk_X11_spread4_109 rfl rfl (by decide) rfl rfl ?_
        refine gw_bipush C 6 dX11_spread4_16 (by decide) ?_
        refine gw_bipush C 72 dX11_spread4_18 (by decide) ?_
        refine gw_iload_n C 3 dX11_spread4_20 rfl rfl ?_
        refine gw_sipush C 13824 dX11_spread4_21 (by decide) ?_
        refine gw_idiv C dX11_spread4_24 (by omega) (by omega) (by omega) ?_
        refine gw_iadd C dX11_spread4_25 ?_
        refine gw_imul C dX11_spread4_26 ?_
        refine gw_iload C 0 dX11_spread4_27 rfl ?_
        refine gw_iadd C dX11_spread4_29 ?_
        refine gw_ild C (v := nI (N 35 (((6) * ((72) + ((k) / (13824)))) + (t)))) 32 0 dX11_spread4_30 rfl rfl (by decide) (by omega) (by rw [mo_a_ne (by decide)]) ?_
        refine gw_istore C (lv2 := [(5, iN (N 35 (((6) * ((72) + ((k) / (13824)))) + (t)))), (4, iN (t)), (3, iN (S.2)), (0, .ref (o)), (1, iN (k)), (2, iN (d))]) dX11_spread4_31 (by omega) rfl ?_
        refine gw_aload_n C 3 dX11_spread4_33 rfl rfl ?_
        refine gw_get C 0 35 in_X11_spread4 dX11_spread4_34 lk_X11_spread4_109 rfl rfl (by decide) rfl rfl ?_
        refine gw_bipush C 6 dX11_spread4_37 (by decide) ?_
        refine gw_iload_n C 4 dX11_spread4_39 rfl rfl ?_
        refine gw_sipush C 576 dX11_spread4_40 (by decide) ?_
        refine gw_idiv C dX11_spread4_43 (by omega) (by omega) (by omega) ?_
        refine gw_bipush C 24 dX11_spread4_44 (by decide) ?_
        refine gw_irem C dX11_spread4_46 (by omega) (by omega) (by omega) ?_
        refine gw_imul C dX11_spread4_47 ?_
        refine gw_iload C 1 dX11_spread4_48 rfl ?_
        refine gw_iadd C dX11_spread4_50 ?_
        refine gw_ild C (v := nI (N 35 (((6) * (((k) / (576)) % (24))) + (t)))) 32 0 dX11_spread4_51 rfl rfl (by decide) (by omega) (by rw [mo_a_ne (by decide)]) ?_
        refine gw_istore C (lv2 := [(6, iN (N 35 (((6) * (((k) / (576)) % (24))) + (t)))), (5, iN (N 35 (((6) * ((72) + ((k) / (13824)))) + (t)))), (4, iN (t)), (3, iN (S.2)), (0, .ref (o)), (1, iN (k)), (2, iN (d))]) dX11_spread4_52 (by omega) rfl ?_
        refine gw_aload_n C 4 dX11_spread4_54 rfl rfl ?_
        refine gw_get C 0 35 in_X11_spread4 dX11_spread4_55 lk_X11_spread4_109 rfl rfl (by decide) rfl rfl ?_
        refine gw_bipush C 6 dX11_spread4_58 (by decide) ?_
        refine gw_bipush C 24 dX11_spread4_60 (by decide) ?_
        refine gw_iload_n C 5 dX11_spread4_62 rfl rfl ?_
        refine gw_bipush C 24 dX11_spread4_63 (by decide) ?_
        refine gw_idiv C dX11_spread4_65 (by omega) (by omega) (by omega) ?_
        refine gw_bipush C 24 dX11_spread4_66 (by decide) ?_
        refine gw_irem C dX11_spread4_68 (by omega) (by omega) (by omega) ?_
        refine gw_iadd C dX11_spread4_69 ?_
        refine gw_imul C dX11_spread4_70 ?_
        refine gw_iload C 2 dX11_spread4_71 rfl ?_
        refine gw_iadd C dX11_spread4_73 ?_
        refine gw_ild C (v := nI (N 35 (((6) * ((24) + (((k) / (24)) % (24)))) + (t)))) 32 0 dX11_spread4_74 rfl rfl (by decide) (by omega) (by rw [mo_a_ne (by decide)]) ?_
        refine gw_istore C (lv2 := [(7, iN (N 35 (((6) * ((24) + (((k) / (24)) % (24)))) + (t)))), (6, iN (N 35 (((6) * (((k) / (576)) % (24))) + (t)))), (5, iN (N 35 (((6) * ((72) + ((k) / (13824)))) + (t)))), (4, iN (t)), (3, iN (S.2)), (0, .ref (o)), (1, iN (k)), (2, iN (d))]) dX11_spread4_75 (by omega) rfl ?_
        refine gw_aload_n C 5 dX11_spread4_77 rfl rfl ?_
        refine gw_get C 0 35 in_X11_spread4 dX11_spread4_78 lk_X11_spread4_109 rfl rfl (by decide) rfl rfl ?_
        refine gw_bipush C 6 dX11_spread4_81 (by decide) ?_
        refine gw_bipush C 48 dX11_spread4_83 (by decide) ?_
        refine gw_iload_n C 6 dX11_spread4_85 rfl rfl ?_
        refine gw_bipush C 24 dX11_spread4_86 (by decide) ?_
        refine gw_irem C dX11_spread4_88 (by omega) (by omega) (by omega) ?_
        refine gw_iadd C dX11_spread4_89 ?_
        refine gw_imul C dX11_spread4_90 ?_
        refine gw_iload C 3 dX11_spread4_91 rfl ?_
        refine gw_iadd C dX11_spread4_93 ?_
        refine gw_ild C (v := nI (N 35 (((6) * ((48) + ((k) % (24)))) + (t)))) 32 0 dX11_spread4_94 rfl rfl (by decide) (by omega) (by rw [mo_a_ne (by decide)]) ?_
        refine gw_istore C (lv2 := [(8, iN (N 35 (((6) * ((48) + ((k) % (24)))) + (t)))), (7, iN (N 35 (((6) * ((24) + (((k) / (24)) % (24)))) + (t)))), (6, iN (N 35 (((6) * (((k) / (576)) % (24))) + (t)))), (5, iN (N 35 (((6) * ((72) + ((k) / (13824)))) + (t)))), (4, iN (t)), (3, iN (S.2)), (0, .ref (o)), (1, iN (k)), (2, iN (d))]) dX11_spread4_95 (by omega) rfl ?_
        refine gw_iload C 3 dX11_spread4_97 rfl ?_
        refine gw_bipush C 24 dX11_spread4_99 (by decide) ?_
        refine gw_imul C dX11_spread4_101 ?_
        refine gw_iload C 2 dX11_spread4_102 rfl ?_
        refine gw_iadd C dX11_spread4_104 ?_
        refine gw_bipush C 24 dX11_spread4_105 (by decide) ?_
        refine gw_imul C dX11_spread4_107 ?_
        refine gw_iload C 1 dX11_spread4_108 rfl ?_
        refine gw_iadd C dX11_spread4_110 ?_
        refine gw_bipush C 24 dX11_spread4_111 (by decide) ?_
        refine gw_imul C dX11_spread4_113 ?_
        refine gw_iload C 0 dX11_spread4_114 rfl ?_
        refine gw_iadd C dX11_spread4_116 ?_
        refine gw_istore C (lv2 := [(9, iN (((((((N 35 (((6) * ((72) + ((k) / (13824)))) + (t))) * (24)) + (N 35 (((6) * (((k) / (576)) % (24))) + (t)))) * (24)) + (N 35 (((6) * ((24) + (((k) / (24)) % (24)))) + (t)))) * (24)) + (N 35 (((6) * ((48) + ((k) % (24)))) + (t))))), (8, iN (N 35 (((6) * ((48) + ((k) % (24)))) + (t)))), (7, iN (N 35 (((6) * ((24) + (((k) / (24)) % (24)))) + (t)))), (6, iN (N 35 (((6) * (((k) / (576)) % (24))) + (t)))), (5, iN (N 35 (((6) * ((72) + ((k) / (13824)))) + (t)))), (4, iN (t)), (3, iN (S.2)), (0, .ref (o)), (1, iN (k)), (2, iN (d))]) dX11_spread4_117 (by omega) rfl ?_
        obtain ⟨y, ey⟩ : ∃ y, y = mo_nxD N k t := ⟨_, rfl⟩
        rw [mo_nxD] at ey
        rw [← ey] at lx
        rw [← ey]
        have oky := ok.1 y
        refine gw_aload_n C 7 dX11_spread4_119 rfl rfl ?_
        refine gw_get C 0 23 in_X11_spread4 dX11_spread4_120 lk_X11_spread4_70 rfl rfl (by decide) rfl rfl ?_
        refine gw_iload C 0 dX11_spread4_123 rfl ?_
        refine gw_bld C (v := nI ((S.1) (y))) 20 1 dX11_spread4_125 rfl rfl (by decide) (by omega) (by rw [mo_a_eq]) ?_
        refine gw_bipush C 100 dX11_spread4_126 (by decide) ?_
        refine gw_icmp_ne C 144 dX11_spread4_128 (by decide) (by omega) (by omega) (fun h67 => ?_) (fun h67 => ?_)
        ·
          refine gw_iinc C (v := nI (t + 1)) (lv2 := [(4, iN (t + 1)), (9, iN (y)), (8, iN (N 35 (((6) * ((48) + ((k) % (24)))) + (t)))), (7, iN (N 35 (((6) * ((24) + (((k) / (24)) % (24)))) + (t)))), (6, iN (N 35 (((6) * (((k) / (576)) % (24))) + (t)))), (5, iN (N 35 (((6) * ((72) + ((k) / (13824)))) + (t)))), (3, iN (S.2)), (0, .ref (o)), (1, iN (k)), (2, iN (d))]) 5 dX11_spread4_144 rfl (nI_add _ _) (by omega) rfl ?_
          refine gw_goto C 5 dX11_spread4_147 (by decide) ?_
          refine gw_lv (lv2 := [(4, iN (t + 1)), (3, iN (S.2)), (0, .ref (o)), (1, iN (k)), (2, iN (d))]) [0, 6, 7, 8, 9] rfl ?_
          have q := iht (t + 1) (by omega)
          rw [bf_t2, if_pos (show bf_one t ≠ 0 from Nat.one_ne_zero), ← eS, bf_s, if_neg (by rw [mo_nxD, ← ey]; exact h67)] at q
          exact q
        ·
          refine gw_aload_n C 7 dX11_spread4_131 rfl rfl ?_
          refine gw_get C 0 23 in_X11_spread4 dX11_spread4_132 lk_X11_spread4_70 rfl rfl (by decide) rfl rfl ?_
          refine gw_iload C 0 dX11_spread4_135 rfl ?_
          refine gw_iload_n C 9 dX11_spread4_137 rfl rfl ?_
          refine gw_iconst C 1 dX11_spread4_138 (by decide) ?_
          refine gw_iadd C dX11_spread4_139 ?_
          refine gw_i2b C dX11_spread4_140 (by omega) ?_
          refine gw_bst C 20 1 dX11_spread4_141 rfl rfl (by decide) (by omega) (gw_nb (by omega)).1 mo_st23 ?_
          refine gw_iconst C 1 dX11_spread4_142 (by decide) ?_
          refine gw_istore_n C (lv2 := [(3, iN (1)), (9, iN (y)), (8, iN (N 35 (((6) * ((48) + ((k) % (24)))) + (t)))), (7, iN (N 35 (((6) * ((24) + (((k) / (24)) % (24)))) + (t)))), (6, iN (N 35 (((6) * (((k) / (576)) % (24))) + (t)))), (5, iN (N 35 (((6) * ((72) + ((k) / (13824)))) + (t)))), (4, iN (t)), (0, .ref (o)), (1, iN (k)), (2, iN (d))]) dX11_spread4_143 rfl (by omega) rfl ?_
          refine gw_iinc C (v := nI (t + 1)) (lv2 := [(4, iN (t + 1)), (3, iN (1)), (9, iN (y)), (8, iN (N 35 (((6) * ((48) + ((k) % (24)))) + (t)))), (7, iN (N 35 (((6) * ((24) + (((k) / (24)) % (24)))) + (t)))), (6, iN (N 35 (((6) * (((k) / (576)) % (24))) + (t)))), (5, iN (N 35 (((6) * ((72) + ((k) / (13824)))) + (t)))), (0, .ref (o)), (1, iN (k)), (2, iN (d))]) 6 dX11_spread4_144 rfl (nI_add _ _) (by omega) rfl ?_
          refine gw_goto C 5 dX11_spread4_147 (by decide) ?_
          refine gw_lv (lv2 := [(4, iN (t + 1)), (3, iN (1)), (0, .ref (o)), (1, iN (k)), (2, iN (d))]) [0, 1, 7, 8, 9] rfl ?_
          have q := iht (t + 1) (by omega)
          rw [bf_t2, if_pos (show bf_one t ≠ 0 from Nat.one_ne_zero), ← eS, bf_s, if_pos (by rw [mo_nxD, ← ey]; exact h67), mo_nxD, ← ey] at q
          rw [mo_up_a]
          exact q
  refine gw_lv (lv2 := [(4, iN (0)), (3, iN (0)), (0, .ref (o)), (1, iN (k)), (2, iN (d))]) [0, 1, 2, 3, 4] rfl ?_
  exact lp (6 - 0) 0 (by omega)
