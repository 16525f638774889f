/-- maskBy, ones -/
def mo_mk (N : Nat → Nat → Nat) (mask t : Nat) : Nat → Nat
  | 0 => 0
  | p + 1 => mo_mk N mask t p ||| (mask / 2 ^ (N 12 (12 * t + p)) &&& 1) * 2 ^ p
def mo_on : Nat → Nat → Nat
  | 0, _ => 0
  | f + 1, x => if x = 0 then 0 else (x &&& 1) + mo_on f (x / 2 ^ 1)
/-- lawful -/
def mo_thr (f : Nat → Nat) : Nat → Nat
  | 0 => 0
  | p + 1 => mo_thr f p ||| 1 * 2 ^ f p
def mo_sum (f : Nat → Nat) : Nat → Nat
  | 0 => 0
  | p + 1 => mo_sum f p + f p
def mo_inv (f : Nat → Nat) (p : Nat) : Nat → Nat
  | 0 => 0
  | q + 1 => mo_inv f p q + (if f p < f q then 1 else 0)
def mo_swp (f : Nat → Nat) (b : Nat) : Nat → Nat
  | 0 => b
  | p + 1 => mo_swp f b p + mo_inv f p p
def mo_law (N : Nat → Nat → Nat) : Nat := if mo_thr (N 0) 8 ≠ 255 then 4294967294 else if mo_thr (N 2) 12 ≠ 4095 then 4294967293 else if mo_sum (N 1) 8 % 3 ≠ 0 then 4294967292 else if mo_sum (N 3) 12 % 2 ≠ 0 then 4294967291 else if mo_swp (N 2) (mo_swp (N 0) 0 8) 12 % 2 ≠ 0 then 4294967290 else 1
theorem mo_thr_lt (f : Nat → Nat) (n : Nat) (k : Nat) (h : ∀ j, j < k → f j < n) : ∀ p, p ≤ k → mo_thr f p < 2 ^ n := by
  intro p
  induction p with
  | zero => intro _; exact Nat.two_pow_pos n
  | succ p ih =>
    intro hp
    rw [mo_thr, Nat.one_mul]
    exact Nat.or_lt_two_pow (ih (by omega)) (Nat.pow_lt_pow_right (by decide) (h p (by omega)))
theorem mo_sum_le (f : Nat → Nat) (n : Nat) (k : Nat) (h : ∀ j, j < k → f j < n) : ∀ p, p ≤ k → mo_sum f p ≤ p * n := by
  intro p
  induction p with
  | zero => intro _; exact Nat.zero_le _
  | succ p ih =>
    intro hp
    have := ih (by omega)
    have := h p (by omega)
    rw [mo_sum, Nat.succ_mul]
    omega
theorem mo_inv_le (f : Nat → Nat) (p : Nat) : ∀ q, mo_inv f p q ≤ q
  | 0 => Nat.le_refl _
  | q + 1 => by have := mo_inv_le f p q; rw [mo_inv]; split <;> omega
theorem mo_swp_le (f : Nat → Nat) (b : Nat) : ∀ p, p ≤ 12 → mo_swp f b p ≤ b + 12 * p
  | 0, _ => Nat.le_refl _
  | p + 1, h => by have := mo_swp_le f b p (by omega); have := mo_inv_le f p p; rw [mo_swp]; omega
theorem in_X11_maskBy : ∀ w ∈ wsX110, w ∈ wsX11_maskBy := fun _ h => List.mem_cons_of_mem _ (List.mem_append_right _ h)
theorem lk_X11_maskBy_46 : Cond.fieldLink RX11 46 "StageCubeModel" "edgeFrom" "[I" ∈ wsX11_maskBy := by decide +kernel
set_option maxHeartbeats 4000000 in
set_option maxRecDepth 100000 in
theorem c_maskBy (l : Launch) (D : va_G) (cI cB cS cJ cF cG : ClassId) (zz : (Nat → Prop) → State → Heap → Prop) (hz : gw_zT zz) (o : Nat) (ad : Nat → Nat) (N : Nat → Nat → Nat) (mask t nn : Nat) (hk : mask < 2 ^ 31) (ht : t < 18) (hn : nn ≤ 12) (hg : ∀ j, j < 216 → N 12 j < 12) : gw_CI l yX11_maskBy wsX11_maskBy 0 0 0 0 D (mo_ty cI cB cS cJ cF cG) zz (mo_ws o ad cI cB cS N) [.ref o, iN mask, iN t, iN nn] (fun r N' => r = nI (mo_mk N mask t nn) ∧ N' = N) (fun N' => mo_ws o ad cI cB cS N') := by
  refine gw_CI.of (cc := cX11_maskBy) (maxL := 6) (rt := .int) hz (by decide) rfl (Nat.le_of_ble_eq_true rfl) ?_
  intro K C hkl hkn hkR hkD hmn ret
  have C : gw_x K cX11_maskBy RX11 wsX11_maskBy (mo_ty cI cB cS cJ cF cG) zz := C
  refine gw_iconst C 0 dX11_maskBy_0 (by decide) ?_
  refine gw_istore C (lv2 := [(4, iN (0)), (0, .ref (o)), (1, iN (mask)), (2, iN (t)), (3, iN (nn))]) dX11_maskBy_1 (by omega) rfl ?_
  refine gw_iconst C 0 dX11_maskBy_3 (by decide) ?_
  refine gw_istore C (lv2 := [(5, iN (0)), (4, iN (0)), (0, .ref (o)), (1, iN (mask)), (2, iN (t)), (3, iN (nn))]) dX11_maskBy_4 (by omega) rfl ?_
  have lp : ∀ np p : Nat, p + np = nn → gw_G K (mo_ws o ad cI cB cS (N)) 0 0 6 [(5, iN (p)), (4, iN (mo_mk N mask t p)), (0, .ref (o)), (1, iN (mask)), (2, iN (t)), (3, iN (nn))] [] := by
    intro np
    induction np with
    | zero =>
      intro p hip
      refine gw_iload C 0 dX11_maskBy_6 rfl ?_
      refine gw_iload_n C 5 dX11_maskBy_8 rfl rfl ?_
      refine gw_icmp_ge C 42 dX11_maskBy_9 (by decide) (by omega) (by omega) (fun h61 => ?_) (fun h61 => ?_)
      ·
        refine gw_iload C 1 dX11_maskBy_42 rfl ?_
        exact ret N dX11_maskBy_44 rfl ⟨by rw [show p = nn by omega], rfl⟩ rfl (Nat.le_refl 0) (Nat.le_refl 0)
      ·
        exact absurd h61 (by omega)
    | succ np ihp =>
      intro p hip
      refine gw_iload C 0 dX11_maskBy_6 rfl ?_
      refine gw_iload_n C 5 dX11_maskBy_8 rfl rfl ?_
      refine gw_icmp_ge C 42 dX11_maskBy_9 (by decide) (by omega) (by omega) (fun h62 => ?_) (fun h62 => ?_)
      ·
        exact absurd h62 (by omega)
      ·
        have c0 := hg (12 * t + p) (by omega)
        refine gw_iload C 1 dX11_maskBy_12 rfl ?_
        refine gw_iload_n C 3 dX11_maskBy_14 rfl rfl ?_
        refine gw_aload_n C 2 dX11_maskBy_15 rfl rfl ?_
        refine gw_get C 0 12 in_X11_maskBy dX11_maskBy_16 lk_X11_maskBy_46 rfl rfl (by decide) rfl rfl ?_
        refine gw_bipush C 12 dX11_maskBy_19 (by decide) ?_
        refine gw_iload_n C 4 dX11_maskBy_21 rfl rfl ?_
        refine gw_imul C dX11_maskBy_22 ?_
        refine gw_iload C 0 dX11_maskBy_23 rfl ?_
        refine gw_iadd C dX11_maskBy_25 ?_
        refine gw_ild C (v := nI (N 12 (((12) * (t)) + (p)))) 13 0 dX11_maskBy_26 rfl rfl (by decide) (by omega) (by first | rfl | simp [mo_up]) ?_
        refine gw_ishr C dX11_maskBy_27 (by omega) (by omega) ?_
        refine gw_iconst C 1 dX11_maskBy_28 (by decide) ?_
        refine gw_iand C dX11_maskBy_29 ?_
        refine gw_iload C 0 dX11_maskBy_30 rfl ?_
        refine gw_ishl C dX11_maskBy_32 (by omega) (by exact gw_shl1 (by omega)) ?_
        refine gw_ior C dX11_maskBy_33 ?_
        refine gw_istore C (lv2 := [(4, iN ((mo_mk N mask t p) ||| ((((mask) / 2 ^ (N 12 (((12) * (t)) + (p)))) &&& (1)) * 2 ^ (p)))), (5, iN (p)), (0, .ref (o)), (1, iN (mask)), (2, iN (t)), (3, iN (nn))]) dX11_maskBy_34 (by omega) rfl ?_
        refine gw_iinc C (v := nI (p + 1)) (lv2 := [(5, iN (p + 1)), (4, iN ((mo_mk N mask t p) ||| ((((mask) / 2 ^ (N 12 (((12) * (t)) + (p)))) &&& (1)) * 2 ^ (p)))), (0, .ref (o)), (1, iN (mask)), (2, iN (t)), (3, iN (nn))]) 1 dX11_maskBy_36 rfl (nI_add _ _) (by omega) rfl ?_
        refine gw_goto C 6 dX11_maskBy_39 (by decide) ?_
        refine gw_lv (lv2 := [(5, iN (p + 1)), (4, iN ((mo_mk N mask t p) ||| ((((mask) / 2 ^ (N 12 (((12) * (t)) + (p)))) &&& (1)) * 2 ^ (p)))), (0, .ref (o)), (1, iN (mask)), (2, iN (t)), (3, iN (nn))]) [0, 1, 2, 3, 4, 5] rfl ?_
        exact ihp (p + 1) (by omega)
  refine gw_lv (lv2 := [(5, iN (0)), (4, iN (0)), (0, .ref (o)), (1, iN (mask)), (2, iN (t)), (3, iN (nn))]) [0, 1, 2, 3, 4, 5] rfl ?_
  exact lp (nn - 0) 0 (by omega)
set_option maxHeartbeats 4000000 in
set_option maxRecDepth 100000 in
theorem c_ones (l : Launch) (D : va_G) (tys : List (ClassId × FieldType)) (zz : (Nat → Prop) → State → Heap → Prop) (hz : gw_zT zz) (w0 : va_W) (v : Nat) (hv : v < 4096) : gw_CI l yX11_ones wsX11_ones 0 0 0 0 D tys zz w0 [iN v] (fun r _ => r = nI (mo_on 12 v)) (fun _ : Unit => w0) := by
  refine gw_CI.of (cc := cX11_ones) (maxL := 3) (rt := .int) hz (by decide) rfl (Nat.le_of_ble_eq_true rfl) ?_
  intro K C hkl hkn hkR hkD hmn ret
  have C : gw_x K cX11_ones RX11 wsX11_ones tys zz := C
  refine gw_iconst C 0 dX11_ones_0 (by decide) ?_
  refine gw_istore_n C (lv2 := [(1, iN (0)), (0, iN (v))]) dX11_ones_1 rfl (by omega) rfl ?_
  refine gw_iload_n C 1 dX11_ones_2 rfl rfl ?_
  refine gw_istore_n C (lv2 := [(2, iN (v)), (1, iN (0)), (0, iN (v))]) dX11_ones_3 rfl (by omega) rfl ?_
  have lp : ∀ f left acc : Nat, left < 2 ^ f → f ≤ 12 → acc ≤ 12 → acc + f ≤ 12 → acc + mo_on f left = mo_on 12 v → gw_G K w0 0 0 4 [(2, iN left), (1, iN acc), (0, iN v)] [] := by
    intro f
    induction f with
    | zero =>
      intro left acc h1 h2 h3 h4 h5
      have : left = 0 := by simpa using h1
      subst this
      refine gw_iload_n C 0 dX11_ones_4 rfl rfl ?_
      refine gw_if_le C 21 dX11_ones_5 (by decide) (by omega) (fun h63 => ?_) (fun h63 => ?_)
      ·
        refine gw_iload_n C 1 dX11_ones_21 rfl rfl ?_
        exact ret () dX11_ones_22 rfl (by rw [mo_on] at h5; rw [← h5]; rfl) rfl (Nat.le_refl 0) (Nat.le_refl 0)
      ·
        exact absurd h63 (by omega)
    | succ f ih =>
      intro left acc h1 h2 h3 h4 h5
      have hp : 2 ^ (f + 1) ≤ 2 ^ 12 := Nat.pow_le_pow_right (by decide) h2
      have h1' : left < 2 * 2 ^ f := by rw [Nat.pow_succ] at h1; omega
      refine gw_iload_n C 0 dX11_ones_4 rfl rfl ?_
      refine gw_if_le C 21 dX11_ones_5 (by decide) (by omega) (fun h64 => ?_) (fun h64 => ?_)
      ·
        refine gw_iload_n C 1 dX11_ones_21 rfl rfl ?_
        exact ret () dX11_ones_22 rfl (by rw [mo_on, if_pos (by omega)] at h5; rw [← h5]; rfl) rfl (Nat.le_refl 0) (Nat.le_refl 0)
      ·
        have q1 : left &&& 1 ≤ 1 := Nat.and_le_right
        refine gw_iload_n C 1 dX11_ones_8 rfl rfl ?_
        refine gw_iload_n C 0 dX11_ones_9 rfl rfl ?_
        refine gw_iconst C 1 dX11_ones_10 (by decide) ?_
        refine gw_iand C dX11_ones_11 ?_
        refine gw_iadd C dX11_ones_12 ?_
        refine gw_istore_n C (lv2 := [(1, iN ((acc) + ((left) &&& (1)))), (2, iN (left)), (0, iN (v))]) dX11_ones_13 rfl (by omega) rfl ?_
        refine gw_iload_n C 1 dX11_ones_14 rfl rfl ?_
        refine gw_iconst C 1 dX11_ones_15 (by decide) ?_
        refine gw_ishr C dX11_ones_16 (by omega) (by omega) ?_
        refine gw_istore_n C (lv2 := [(2, iN ((left) / 2 ^ (1))), (1, iN ((acc) + ((left) &&& (1)))), (0, iN (v))]) dX11_ones_17 rfl (by omega) rfl ?_
        refine gw_goto C 4 dX11_ones_18 (by decide) ?_
        refine gw_lv (lv2 := [(2, iN ((left) / 2 ^ (1))), (1, iN ((acc) + ((left) &&& (1)))), (0, iN (v))]) [0, 1, 2] rfl ?_
        exact ih (left / 2 ^ 1) (acc + (left &&& 1)) (by omega) (by omega) (by omega) (by omega) (by rw [mo_on, if_neg (by omega)] at h5; omega)
  refine gw_lv (lv2 := [(2, iN v), (1, iN 0), (0, iN v)]) [0, 1, 2] rfl ?_
  exact lp 12 v 0 hv (by omega) (by omega) (by omega) (by omega)
theorem in_X11_lawful : ∀ w ∈ wsX110, w ∈ wsX11_lawful := fun _ h => List.mem_cons_of_mem _ (List.mem_append_right _ h)
theorem lk_X11_lawful_7 : Cond.fieldLink RX11 7 "StageCubeModel" "corners" "[I" ∈ wsX11_lawful := by decide +kernel
theorem lk_X11_lawful_13 : Cond.fieldLink RX11 13 "StageCubeModel" "twists" "[I" ∈ wsX11_lawful := by decide +kernel
theorem lk_X11_lawful_16 : Cond.fieldLink RX11 16 "StageCubeModel" "edges" "[I" ∈ wsX11_lawful := by decide +kernel
theorem lk_X11_lawful_19 : Cond.fieldLink RX11 19 "StageCubeModel" "flips" "[I" ∈ wsX11_lawful := by decide +kernel
set_option maxHeartbeats 4000000 in
set_option maxRecDepth 100000 in
theorem c_lawful (l : Launch) (D : va_G) (cI cB cS cJ cF cG : ClassId) (zz : (Nat → Prop) → State → Heap → Prop) (hz : gw_zT zz) (o : Nat) (ad : Nat → Nat) (N : Nat → Nat → Nat) (h0 : ∀ j, j < 8 → N 0 j < 8) (h1 : ∀ j, j < 8 → N 1 j < 3) (h2 : ∀ j, j < 12 → N 2 j < 12) (h3 : ∀ j, j < 12 → N 3 j < 2) : gw_CI l yX11_lawful wsX11_lawful 0 0 0 0 D (mo_ty cI cB cS cJ cF cG) zz (mo_ws o ad cI cB cS N) [.ref o] (fun r N' => r = nI (mo_law N) ∧ N' = N) (fun N' => mo_ws o ad cI cB cS N') := by
  refine gw_CI.of (cc := cX11_lawful) (maxL := 8) (rt := .int) hz (by decide) rfl (Nat.le_of_ble_eq_true rfl) ?_
  intro K C hkl hkn hkR hkD hmn ret
  have C : gw_x K cX11_lawful RX11 wsX11_lawful (mo_ty cI cB cS cJ cF cG) zz := C
  refine gw_iconst C 0 dX11_lawful_0 (by decide) ?_
  refine gw_istore_n C (lv2 := [(1, iN (0)), (0, .ref (o))]) dX11_lawful_1 rfl (by omega) rfl ?_
  refine gw_iconst C 0 dX11_lawful_2 (by decide) ?_
  refine gw_istore_n C (lv2 := [(2, iN (0)), (1, iN (0)), (0, .ref (o))]) dX11_lawful_3 rfl (by omega) rfl ?_
  refine gw_iconst C 0 dX11_lawful_4 (by decide) ?_
  refine gw_istore_n C (lv2 := [(3, iN (0)), (2, iN (0)), (1, iN (0)), (0, .ref (o))]) dX11_lawful_5 rfl (by omega) rfl ?_
  refine gw_iconst C 0 dX11_lawful_6 (by decide) ?_
  refine gw_istore C (lv2 := [(4, iN (0)), (3, iN (0)), (2, iN (0)), (1, iN (0)), (0, .ref (o))]) dX11_lawful_7 (by omega) rfl ?_
  have lp : ∀ np p : Nat, p + np = 8 → gw_G K (mo_ws o ad cI cB cS (N)) 0 0 9 [(4, iN (p)), (3, iN (mo_swp (N 0) 0 p)), (2, iN (mo_sum (N 1) p)), (1, iN (mo_thr (N 0) p)), (0, .ref (o))] [] := by
    intro np
    induction np with
    | zero =>
      intro p hip
      refine gw_iload C 0 dX11_lawful_9 rfl ?_
      refine gw_bipush C 8 dX11_lawful_11 (by decide) ?_
      refine gw_icmp_ge C 85 dX11_lawful_13 (by decide) (by omega) (by omega) (fun h65 => ?_) (fun h65 => ?_)
      ·
        rw [show p = 8 by omega]
        refine gw_iconst C 0 dX11_lawful_85 (by decide) ?_
        refine gw_istore C (lv2 := [(4, iN (0)), (3, iN (mo_swp (N 0) 0 8)), (2, iN (mo_sum (N 1) 8)), (1, iN (mo_thr (N 0) 8)), (0, .ref (o))]) dX11_lawful_86 (by omega) rfl ?_
        refine gw_iconst C 0 dX11_lawful_88 (by decide) ?_
        refine gw_istore C (lv2 := [(5, iN (0)), (4, iN (0)), (3, iN (mo_swp (N 0) 0 8)), (2, iN (mo_sum (N 1) 8)), (1, iN (mo_thr (N 0) 8)), (0, .ref (o))]) dX11_lawful_89 (by omega) rfl ?_
        refine gw_iconst C 0 dX11_lawful_91 (by decide) ?_
        refine gw_istore C (lv2 := [(6, iN (0)), (5, iN (0)), (4, iN (0)), (3, iN (mo_swp (N 0) 0 8)), (2, iN (mo_sum (N 1) 8)), (1, iN (mo_thr (N 0) 8)), (0, .ref (o))]) dX11_lawful_92 (by omega) rfl ?_
        have lp2 : ∀ nu u : Nat, u + nu = 12 → gw_G K (mo_ws o ad cI cB cS (N)) 0 0 94 [(6, iN (u)), (5, iN (mo_sum (N 3) u)), (4, iN (mo_thr (N 2) u)), (3, iN (mo_swp (N 2) (mo_swp (N 0) 0 8) u)), (2, iN (mo_sum (N 1) 8)), (1, iN (mo_thr (N 0) 8)), (0, .ref (o))] [] := by
          intro nu
          induction nu with
          | zero =>
            intro u hiu
            refine gw_iload C 0 dX11_lawful_94 rfl ?_
            refine gw_bipush C 12 dX11_lawful_96 (by decide) ?_
            refine gw_icmp_ge C 174 dX11_lawful_98 (by decide) (by omega) (by omega) (fun h66 => ?_) (fun h66 => ?_)
            ·
              rw [show u = 12 by omega]
              have z1 : mo_thr (N 0) 8 < 2 ^ 8 := mo_thr_lt _ 8 8 h0 8 (Nat.le_refl _)
              have z2 : mo_thr (N 2) 12 < 2 ^ 12 := mo_thr_lt _ 12 12 h2 12 (Nat.le_refl _)
              have z3 := mo_sum_le (N 1) 3 8 h1 8 (Nat.le_refl _)
              have z4 := mo_sum_le (N 3) 2 12 h3 12 (Nat.le_refl _)
              have z5 := mo_swp_le (N 0) 0 8 (by omega)
              have z6 := mo_swp_le (N 2) (mo_swp (N 0) 0 8) 12 (by omega)
              refine gw_iload_n C 5 dX11_lawful_174 rfl rfl ?_
              refine gw_sipush C 255 dX11_lawful_175 (by decide) ?_
              refine gw_icmp_eq C 184 dX11_lawful_178 (by decide) (by omega) (by omega) (fun h67 => ?_) (fun h67 => ?_)
              ·
                refine gw_iload C 2 dX11_lawful_184 rfl ?_
                refine gw_sipush C 4095 dX11_lawful_186 (by decide) ?_
                refine gw_icmp_eq C 195 dX11_lawful_189 (by decide) (by omega) (by omega) (fun h68 => ?_) (fun h68 => ?_)
                ·
                  refine gw_iload_n C 4 dX11_lawful_195 rfl rfl ?_
                  refine gw_iconst C 3 dX11_lawful_196 (by decide) ?_
                  refine gw_irem C dX11_lawful_197 (by omega) (by omega) (by omega) ?_
                  refine gw_if_eq C 206 dX11_lawful_198 (by decide) (by omega) (fun h69 => ?_) (fun h69 => ?_)
                  ·
                    refine gw_iload C 1 dX11_lawful_206 rfl ?_
                    refine gw_iconst C 2 dX11_lawful_208 (by decide) ?_
                    refine gw_irem C dX11_lawful_209 (by omega) (by omega) (by omega) ?_
                    refine gw_if_eq C 218 dX11_lawful_210 (by decide) (by omega) (fun h70 => ?_) (fun h70 => ?_)
                    ·
                      refine gw_iload_n C 3 dX11_lawful_218 rfl rfl ?_
                      refine gw_iconst C 2 dX11_lawful_219 (by decide) ?_
                      refine gw_irem C dX11_lawful_220 (by omega) (by omega) (by omega) ?_
                      refine gw_if_eq C 229 dX11_lawful_221 (by decide) (by omega) (fun h71 => ?_) (fun h71 => ?_)
                      ·
                        refine gw_iconst C 1 dX11_lawful_229 (by decide) ?_
                        exact ret N dX11_lawful_230 rfl ⟨by rw [mo_law, if_neg (by omega), if_neg (by omega), if_neg (by omega), if_neg (by omega), if_neg (by omega)], rfl⟩ rfl (Nat.le_refl 0) (Nat.le_refl 0)
                      ·
                        refine gw_bipush C 4294967290 dX11_lawful_224 (by decide) ?_
                        refine gw_goto C 230 dX11_lawful_226 (by decide) ?_
                        exact ret N dX11_lawful_230 rfl ⟨by rw [mo_law, if_neg (by omega), if_neg (by omega), if_neg (by omega), if_neg (by omega), if_pos (by omega)], rfl⟩ rfl (Nat.le_refl 0) (Nat.le_refl 0)
                    ·
                      refine gw_bipush C 4294967291 dX11_lawful_213 (by decide) ?_
                      refine gw_goto C 230 dX11_lawful_215 (by decide) ?_
                      exact ret N dX11_lawful_230 rfl ⟨by rw [mo_law, if_neg (by omega), if_neg (by omega), if_neg (by omega), if_pos (by omega)], rfl⟩ rfl (Nat.le_refl 0) (Nat.le_refl 0)
                  ·
                    refine gw_bipush C 4294967292 dX11_lawful_201 (by decide) ?_
                    refine gw_goto C 230 dX11_lawful_203 (by decide) ?_
                    exact ret N dX11_lawful_230 rfl ⟨by rw [mo_law, if_neg (by omega), if_neg (by omega), if_pos (by omega)], rfl⟩ rfl (Nat.le_refl 0) (Nat.le_refl 0)
                ·
                  refine gw_bipush C 4294967293 dX11_lawful_192 (by decide) ?_
                  exact ret N dX11_lawful_194 rfl ⟨by rw [mo_law, if_neg (by omega), if_pos (by omega)], rfl⟩ rfl (Nat.le_refl 0) (Nat.le_refl 0)
              ·
                refine gw_bipush C 4294967294 dX11_lawful_181 (by decide) ?_
                exact ret N dX11_lawful_183 rfl ⟨by rw [mo_law, if_pos (by omega)], rfl⟩ rfl (Nat.le_refl 0) (Nat.le_refl 0)
            ·
              exact absurd h66 (by omega)
          | succ nu ihu =>
            intro u hiu
            refine gw_iload C 0 dX11_lawful_94 rfl ?_
            refine gw_bipush C 12 dX11_lawful_96 (by decide) ?_
            refine gw_icmp_ge C 174 dX11_lawful_98 (by decide) (by omega) (by omega) (fun h72 => ?_) (fun h72 => ?_)
            ·
              exact absurd h72 (by omega)
            ·
              have c0 := h2 u (by omega)
              refine gw_iload C 2 dX11_lawful_101 rfl ?_
              refine gw_iconst C 1 dX11_lawful_103 (by decide) ?_
              refine gw_aload_n C 6 dX11_lawful_104 rfl rfl ?_
              refine gw_get C 0 2 in_X11_lawful dX11_lawful_105 lk_X11_lawful_16 rfl rfl (by decide) rfl rfl ?_
              refine gw_iload C 0 dX11_lawful_108 rfl ?_
              refine gw_ild C (v := nI (N 2 (u))) 3 0 dX11_lawful_110 rfl rfl (by decide) (by omega) (by first | rfl | simp [mo_up]) ?_
              refine gw_ishl C dX11_lawful_111 (by omega) (by exact gw_p2 (by omega)) ?_
              refine gw_ior C dX11_lawful_112 ?_
              refine gw_istore C (lv2 := [(4, iN ((mo_thr (N 2) u) ||| ((1) * 2 ^ (N 2 (u))))), (6, iN (u)), (5, iN (mo_sum (N 3) u)), (3, iN (mo_swp (N 2) (mo_swp (N 0) 0 8) u)), (2, iN (mo_sum (N 1) 8)), (1, iN (mo_thr (N 0) 8)), (0, .ref (o))]) dX11_lawful_113 (by omega) rfl ?_
              refine gw_iload C 2 dX11_lawful_115 rfl ?_
              refine gw_aload_n C 6 dX11_lawful_117 rfl rfl ?_
              refine gw_get C 0 3 in_X11_lawful dX11_lawful_118 lk_X11_lawful_19 rfl rfl (by decide) rfl rfl ?_
              refine gw_iload C 1 dX11_lawful_121 rfl ?_
              refine gw_ild C (v := nI (N 3 (u))) 4 0 dX11_lawful_123 rfl rfl (by decide) (by omega) (by first | rfl | simp [mo_up]) ?_
              refine gw_iadd C dX11_lawful_124 ?_
              refine gw_istore C (lv2 := [(5, iN ((mo_sum (N 3) u) + (N 3 (u)))), (4, iN ((mo_thr (N 2) u) ||| ((1) * 2 ^ (N 2 (u))))), (6, iN (u)), (3, iN (mo_swp (N 2) (mo_swp (N 0) 0 8) u)), (2, iN (mo_sum (N 1) 8)), (1, iN (mo_thr (N 0) 8)), (0, .ref (o))]) dX11_lawful_125 (by omega) rfl ?_
              refine gw_iconst C 0 dX11_lawful_127 (by decide) ?_
              refine gw_istore C (lv2 := [(7, iN (0)), (5, iN ((mo_sum (N 3) u) + (N 3 (u)))), (4, iN ((mo_thr (N 2) u) ||| ((1) * 2 ^ (N 2 (u))))), (6, iN (u)), (3, iN (mo_swp (N 2) (mo_swp (N 0) 0 8) u)), (2, iN (mo_sum (N 1) 8)), (1, iN (mo_thr (N 0) 8)), (0, .ref (o))]) dX11_lawful_128 (by omega) rfl ?_
              have lpi : ∀ nq q : Nat, q + nq = u → gw_G K (mo_ws o ad cI cB cS (N)) 0 0 130 [(7, iN (q)), (6, iN (u)), (5, iN (mo_sum (N 3) (u + 1))), (4, iN (mo_thr (N 2) (u + 1))), (3, iN (mo_swp (N 2) (mo_swp (N 0) 0 8) u + mo_inv (N 2) u q)), (2, iN (mo_sum (N 1) 8)), (1, iN (mo_thr (N 0) 8)), (0, .ref (o))] [] := by
                intro nq
                induction nq with
                | zero =>
                  intro q hiq
                  refine gw_iload C 0 dX11_lawful_130 rfl ?_
                  refine gw_iload C 1 dX11_lawful_132 rfl ?_
                  refine gw_icmp_ge C 168 dX11_lawful_134 (by decide) (by omega) (by omega) (fun h73 => ?_) (fun h73 => ?_)
                  ·
                    rw [show q = u by omega]
                    refine gw_iinc C (v := nI (u + 1)) (lv2 := [(6, iN (u + 1)), (7, iN (u)), (5, iN (mo_sum (N 3) (u + 1))), (4, iN (mo_thr (N 2) (u + 1))), (3, iN (mo_swp (N 2) (mo_swp (N 0) 0 8) u + mo_inv (N 2) u u)), (2, iN (mo_sum (N 1) 8)), (1, iN (mo_thr (N 0) 8)), (0, .ref (o))]) 1 dX11_lawful_168 rfl (nI_add _ _) (by omega) rfl ?_
                    refine gw_goto C 94 dX11_lawful_171 (by decide) ?_
                    refine gw_lv (lv2 := [(6, iN (u + 1)), (5, iN (mo_sum (N 3) (u + 1))), (4, iN (mo_thr (N 2) (u + 1))), (3, iN (mo_swp (N 2) (mo_swp (N 0) 0 8) u + mo_inv (N 2) u u)), (2, iN (mo_sum (N 1) 8)), (1, iN (mo_thr (N 0) 8)), (0, .ref (o))]) [0, 2, 3, 4, 5, 6, 7] rfl ?_
                    exact ihu (u + 1) (by omega)
                  ·
                    exact absurd h73 (by omega)
                | succ nq ihq =>
                  intro q hiq
                  refine gw_iload C 0 dX11_lawful_130 rfl ?_
                  refine gw_iload C 1 dX11_lawful_132 rfl ?_
                  refine gw_icmp_ge C 168 dX11_lawful_134 (by decide) (by omega) (by omega) (fun h74 => ?_) (fun h74 => ?_)
                  ·
                    exact absurd h74 (by omega)
                  ·
                    have c1 := h2 q (by omega)
                    refine gw_iload_n C 4 dX11_lawful_137 rfl rfl ?_
                    refine gw_aload_n C 7 dX11_lawful_138 rfl rfl ?_
                    refine gw_get C 0 2 in_X11_lawful dX11_lawful_139 lk_X11_lawful_16 rfl rfl (by decide) rfl rfl ?_
                    refine gw_iload C 0 dX11_lawful_142 rfl ?_
                    refine gw_ild C (v := nI (N 2 (q))) 3 0 dX11_lawful_144 rfl rfl (by decide) (by omega) (by first | rfl | simp [mo_up]) ?_
                    refine gw_aload_n C 7 dX11_lawful_145 rfl rfl ?_
                    refine gw_get C 0 2 in_X11_lawful dX11_lawful_146 lk_X11_lawful_16 rfl rfl (by decide) rfl rfl ?_
                    refine gw_iload C 1 dX11_lawful_149 rfl ?_
                    refine gw_ild C (v := nI (N 2 (u))) 3 0 dX11_lawful_151 rfl rfl (by decide) (by omega) (by first | rfl | simp [mo_up]) ?_
                    refine gw_icmp_le C 159 dX11_lawful_152 (by decide) (by omega) (by omega) (fun h75 => ?_) (fun h75 => ?_)
                    ·
                      refine gw_iconst C 0 dX11_lawful_159 (by decide) ?_
                      refine gw_iadd C dX11_lawful_160 ?_
                      refine gw_istore_n C (lv2 := [(3, iN ((mo_swp (N 2) (mo_swp (N 0) 0 8) u + mo_inv (N 2) u q) + (0))), (7, iN (q)), (6, iN (u)), (5, iN (mo_sum (N 3) (u + 1))), (4, iN (mo_thr (N 2) (u + 1))), (2, iN (mo_sum (N 1) 8)), (1, iN (mo_thr (N 0) 8)), (0, .ref (o))]) dX11_lawful_161 rfl (by omega) rfl ?_
                      refine gw_iinc C (v := nI (q + 1)) (lv2 := [(7, iN (q + 1)), (3, iN ((mo_swp (N 2) (mo_swp (N 0) 0 8) u + mo_inv (N 2) u q) + (0))), (6, iN (u)), (5, iN (mo_sum (N 3) (u + 1))), (4, iN (mo_thr (N 2) (u + 1))), (2, iN (mo_sum (N 1) 8)), (1, iN (mo_thr (N 0) 8)), (0, .ref (o))]) 1 dX11_lawful_162 rfl (nI_add _ _) (by omega) rfl ?_
                      refine gw_goto C 130 dX11_lawful_165 (by decide) ?_
                      refine gw_lv (lv2 := [(7, iN (q + 1)), (6, iN (u)), (5, iN (mo_sum (N 3) (u + 1))), (4, iN (mo_thr (N 2) (u + 1))), (3, iN ((mo_swp (N 2) (mo_swp (N 0) 0 8) u + mo_inv (N 2) u q) + (0))), (2, iN (mo_sum (N 1) 8)), (1, iN (mo_thr (N 0) 8)), (0, .ref (o))]) [0, 2, 3, 4, 1, 5, 6, 7] rfl ?_
                      have q' := ihq (q + 1) (by omega)
                      rw [mo_inv, if_neg (by omega)] at q'
                      exact q'
                    ·
                      refine gw_iconst C 1 dX11_lawful_155 (by decide) ?_
                      refine gw_goto C 160 dX11_lawful_156 (by decide) ?_
                      refine gw_iadd C dX11_lawful_160 ?_
                      refine gw_istore_n C (lv2 := [(3, iN ((mo_swp (N 2) (mo_swp (N 0) 0 8) u + mo_inv (N 2) u q) + (1))), (7, iN (q)), (6, iN (u)), (5, iN (mo_sum (N 3) (u + 1))), (4, iN (mo_thr (N 2) (u + 1))), (2, iN (mo_sum (N 1) 8)), (1, iN (mo_thr (N 0) 8)), (0, .ref (o))]) dX11_lawful_161 rfl (by omega) rfl ?_
                      refine gw_iinc C (v := nI (q + 1)) (lv2 := [(7, iN (q + 1)), (3, iN ((mo_swp (N 2) (mo_swp (N 0) 0 8) u + mo_inv (N 2) u q) + (1))), (6, iN (u)), (5, iN (mo_sum (N 3) (u + 1))), (4, iN (mo_thr (N 2) (u + 1))), (2, iN (mo_sum (N 1) 8)), (1, iN (mo_thr (N 0) 8)), (0, .ref (o))]) 1 dX11_lawful_162 rfl (nI_add _ _) (by omega) rfl ?_
                      refine gw_goto C 130 dX11_lawful_165 (by decide) ?_
                      refine gw_lv (lv2 := [(7, iN (q + 1)), (6, iN (u)), (5, iN (mo_sum (N 3) (u + 1))), (4, iN (mo_thr (N 2) (u + 1))), (3, iN ((mo_swp (N 2) (mo_swp (N 0) 0 8) u + mo_inv (N 2) u q) + (1))), (2, iN (mo_sum (N 1) 8)), (1, iN (mo_thr (N 0) 8)), (0, .ref (o))]) [0, 2, 3, 4, 1, 5, 6, 7] rfl ?_
                      have q' := ihq (q + 1) (by omega)
                      rw [mo_inv, if_pos (by omega)] at q'
                      exact q'
              refine gw_lv (lv2 := [(7, iN (0)), (6, iN (u)), (5, iN (mo_sum (N 3) (u + 1))), (4, iN (mo_thr (N 2) (u + 1))), (3, iN (mo_swp (N 2) (mo_swp (N 0) 0 8) u)), (2, iN (mo_sum (N 1) 8)), (1, iN (mo_thr (N 0) 8)), (0, .ref (o))]) [0, 3, 1, 2, 4, 5, 6, 7] rfl ?_
              exact lpi (u - 0) 0 (by omega)
        refine gw_lv (lv2 := [(6, iN (0)), (5, iN (0)), (4, iN (0)), (3, iN (mo_swp (N 0) 0 8)), (2, iN (mo_sum (N 1) 8)), (1, iN (mo_thr (N 0) 8)), (0, .ref (o))]) [0, 1, 2, 3, 4, 5, 6] rfl ?_
        exact lp2 (12 - 0) 0 (by omega)
      ·
        exact absurd h65 (by omega)
    | succ np ihp =>
      intro p hip
      refine gw_iload C 0 dX11_lawful_9 rfl ?_
      refine gw_bipush C 8 dX11_lawful_11 (by decide) ?_
      refine gw_icmp_ge C 85 dX11_lawful_13 (by decide) (by omega) (by omega) (fun h76 => ?_) (fun h76 => ?_)
      ·
        exact absurd h76 (by omega)
      ·
        have c0 := h0 p (by omega)
        refine gw_iload_n C 3 dX11_lawful_16 rfl rfl ?_
        refine gw_iconst C 1 dX11_lawful_17 (by decide) ?_
        refine gw_aload_n C 4 dX11_lawful_18 rfl rfl ?_
        refine gw_get C 0 0 in_X11_lawful dX11_lawful_19 lk_X11_lawful_7 rfl rfl (by decide) rfl rfl ?_
        refine gw_iload C 0 dX11_lawful_22 rfl ?_
        refine gw_ild C (v := nI (N 0 (p))) 1 0 dX11_lawful_24 rfl rfl (by decide) (by omega) (by first | rfl | simp [mo_up]) ?_
        refine gw_ishl C dX11_lawful_25 (by omega) (by exact gw_p2 (by omega)) ?_
        refine gw_ior C dX11_lawful_26 ?_
        refine gw_istore_n C (lv2 := [(1, iN ((mo_thr (N 0) p) ||| ((1) * 2 ^ (N 0 (p))))), (4, iN (p)), (3, iN (mo_swp (N 0) 0 p)), (2, iN (mo_sum (N 1) p)), (0, .ref (o))]) dX11_lawful_27 rfl (by omega) rfl ?_
        refine gw_iload_n C 3 dX11_lawful_28 rfl rfl ?_
        refine gw_aload_n C 4 dX11_lawful_29 rfl rfl ?_
        refine gw_get C 0 1 in_X11_lawful dX11_lawful_30 lk_X11_lawful_13 rfl rfl (by decide) rfl rfl ?_
        refine gw_iload C 1 dX11_lawful_33 rfl ?_
        refine gw_ild C (v := nI (N 1 (p))) 2 0 dX11_lawful_35 rfl rfl (by decide) (by omega) (by first | rfl | simp [mo_up]) ?_
        refine gw_iadd C dX11_lawful_36 ?_
        refine gw_istore_n C (lv2 := [(2, iN ((mo_sum (N 1) p) + (N 1 (p)))), (1, iN ((mo_thr (N 0) p) ||| ((1) * 2 ^ (N 0 (p))))), (4, iN (p)), (3, iN (mo_swp (N 0) 0 p)), (0, .ref (o))]) dX11_lawful_37 rfl (by omega) rfl ?_
        refine gw_iconst C 0 dX11_lawful_38 (by decide) ?_
        refine gw_istore C (lv2 := [(5, iN (0)), (2, iN ((mo_sum (N 1) p) + (N 1 (p)))), (1, iN ((mo_thr (N 0) p) ||| ((1) * 2 ^ (N 0 (p))))), (4, iN (p)), (3, iN (mo_swp (N 0) 0 p)), (0, .ref (o))]) dX11_lawful_39 (by omega) rfl ?_
        have lpi : ∀ nq q : Nat, q + nq = p → gw_G K (mo_ws o ad cI cB cS (N)) 0 0 41 [(5, iN (q)), (4, iN (p)), (3, iN (mo_swp (N 0) 0 p + mo_inv (N 0) p q)), (2, iN (mo_sum (N 1) (p + 1))), (1, iN (mo_thr (N 0) (p + 1))), (0, .ref (o))] [] := by
          intro nq
          induction nq with
          | zero =>
            intro q hiq
            refine gw_iload C 0 dX11_lawful_41 rfl ?_
            refine gw_iload C 1 dX11_lawful_43 rfl ?_
            refine gw_icmp_ge C 79 dX11_lawful_45 (by decide) (by omega) (by omega) (fun h77 => ?_) (fun h77 => ?_)
            ·
              rw [show q = p by omega]
              refine gw_iinc C (v := nI (p + 1)) (lv2 := [(4, iN (p + 1)), (5, iN (p)), (3, iN (mo_swp (N 0) 0 p + mo_inv (N 0) p p)), (2, iN (mo_sum (N 1) (p + 1))), (1, iN (mo_thr (N 0) (p + 1))), (0, .ref (o))]) 1 dX11_lawful_79 rfl (nI_add _ _) (by omega) rfl ?_
              refine gw_goto C 9 dX11_lawful_82 (by decide) ?_
              refine gw_lv (lv2 := [(4, iN (p + 1)), (3, iN (mo_swp (N 0) 0 p + mo_inv (N 0) p p)), (2, iN (mo_sum (N 1) (p + 1))), (1, iN (mo_thr (N 0) (p + 1))), (0, .ref (o))]) [0, 2, 3, 4, 5] rfl ?_
              exact ihp (p + 1) (by omega)
            ·
              exact absurd h77 (by omega)
          | succ nq ihq =>
            intro q hiq
            refine gw_iload C 0 dX11_lawful_41 rfl ?_
            refine gw_iload C 1 dX11_lawful_43 rfl ?_
            refine gw_icmp_ge C 79 dX11_lawful_45 (by decide) (by omega) (by omega) (fun h78 => ?_) (fun h78 => ?_)
            ·
              exact absurd h78 (by omega)
            ·
              have c1 := h0 q (by omega)
              refine gw_iload_n C 2 dX11_lawful_48 rfl rfl ?_
              refine gw_aload_n C 5 dX11_lawful_49 rfl rfl ?_
              refine gw_get C 0 0 in_X11_lawful dX11_lawful_50 lk_X11_lawful_7 rfl rfl (by decide) rfl rfl ?_
              refine gw_iload C 0 dX11_lawful_53 rfl ?_
              refine gw_ild C (v := nI (N 0 (q))) 1 0 dX11_lawful_55 rfl rfl (by decide) (by omega) (by first | rfl | simp [mo_up]) ?_
              refine gw_aload_n C 5 dX11_lawful_56 rfl rfl ?_
              refine gw_get C 0 0 in_X11_lawful dX11_lawful_57 lk_X11_lawful_7 rfl rfl (by decide) rfl rfl ?_
              refine gw_iload C 1 dX11_lawful_60 rfl ?_
              refine gw_ild C (v := nI (N 0 (p))) 1 0 dX11_lawful_62 rfl rfl (by decide) (by omega) (by first | rfl | simp [mo_up]) ?_
              refine gw_icmp_le C 70 dX11_lawful_63 (by decide) (by omega) (by omega) (fun h79 => ?_) (fun h79 => ?_)
              ·
                refine gw_iconst C 0 dX11_lawful_70 (by decide) ?_
                refine gw_iadd C dX11_lawful_71 ?_
                refine gw_istore_n C (lv2 := [(3, iN ((mo_swp (N 0) 0 p + mo_inv (N 0) p q) + (0))), (5, iN (q)), (4, iN (p)), (2, iN (mo_sum (N 1) (p + 1))), (1, iN (mo_thr (N 0) (p + 1))), (0, .ref (o))]) dX11_lawful_72 rfl (by omega) rfl ?_
                refine gw_iinc C (v := nI (q + 1)) (lv2 := [(5, iN (q + 1)), (3, iN ((mo_swp (N 0) 0 p + mo_inv (N 0) p q) + (0))), (4, iN (p)), (2, iN (mo_sum (N 1) (p + 1))), (1, iN (mo_thr (N 0) (p + 1))), (0, .ref (o))]) 1 dX11_lawful_73 rfl (nI_add _ _) (by omega) rfl ?_
                refine gw_goto C 41 dX11_lawful_76 (by decide) ?_
                refine gw_lv (lv2 := [(5, iN (q + 1)), (4, iN (p)), (3, iN ((mo_swp (N 0) 0 p + mo_inv (N 0) p q) + (0))), (2, iN (mo_sum (N 1) (p + 1))), (1, iN (mo_thr (N 0) (p + 1))), (0, .ref (o))]) [0, 2, 1, 3, 4, 5] rfl ?_
                have q' := ihq (q + 1) (by omega)
                rw [mo_inv, if_neg (by omega)] at q'
                exact q'
              ·
                refine gw_iconst C 1 dX11_lawful_66 (by decide) ?_
                refine gw_goto C 71 dX11_lawful_67 (by decide) ?_
                refine gw_iadd C dX11_lawful_71 ?_
                refine gw_istore_n C (lv2 := [(3, iN ((mo_swp (N 0) 0 p + mo_inv (N 0) p q) + (1))), (5, iN (q)), (4, iN (p)), (2, iN (mo_sum (N 1) (p + 1))), (1, iN (mo_thr (N 0) (p + 1))), (0, .ref (o))]) dX11_lawful_72 rfl (by omega) rfl ?_
                refine gw_iinc C (v := nI (q + 1)) (lv2 := [(5, iN (q + 1)), (3, iN ((mo_swp (N 0) 0 p + mo_inv (N 0) p q) + (1))), (4, iN (p)), (2, iN (mo_sum (N 1) (p + 1))), (1, iN (mo_thr (N 0) (p + 1))), (0, .ref (o))]) 1 dX11_lawful_73 rfl (nI_add _ _) (by omega) rfl ?_
                refine gw_goto C 41 dX11_lawful_76 (by decide) ?_
                refine gw_lv (lv2 := [(5, iN (q + 1)), (4, iN (p)), (3, iN ((mo_swp (N 0) 0 p + mo_inv (N 0) p q) + (1))), (2, iN (mo_sum (N 1) (p + 1))), (1, iN (mo_thr (N 0) (p + 1))), (0, .ref (o))]) [0, 2, 1, 3, 4, 5] rfl ?_
                have q' := ihq (q + 1) (by omega)
                rw [mo_inv, if_pos (by omega)] at q'
                exact q'
        refine gw_lv (lv2 := [(5, iN (0)), (4, iN (p)), (3, iN (mo_swp (N 0) 0 p)), (2, iN (mo_sum (N 1) (p + 1))), (1, iN (mo_thr (N 0) (p + 1))), (0, .ref (o))]) [0, 3, 4, 1, 2, 5] rfl ?_
        exact lpi (p - 0) 0 (by omega)
  refine gw_lv (lv2 := [(4, iN (0)), (3, iN (0)), (2, iN (0)), (1, iN (0)), (0, .ref (o))]) [0, 1, 2, 3, 4] rfl ?_
  exact lp (8 - 0) 0 (by omega)
theorem in_X11_home : ∀ w ∈ wsX110, w ∈ wsX11_home := fun _ h => List.mem_cons_of_mem _ (List.mem_append_right _ h)
theorem lk_X11_home_136 : Cond.fieldLink RX11 136 "StageCubeModel" "turned" "I" ∈ wsX11_home := by decide +kernel
set_option maxHeartbeats 4000000 in
set_option maxRecDepth 100000 in
theorem c_home (l : Launch) (D : va_G) (cI cB cS cJ cF cG : ClassId) (zz : (Nat → Prop) → State → Heap → Prop) (hz : gw_zT zz) (o : Nat) (ad : Nat → Nat) (N : Nat → Nat → Nat) : gw_CI l yX11_home wsX11_home 1 21 0 0 D (mo_ty cI cB cS cJ cF cG) zz (mo_ws o ad cI cB cS N) [.ref o] (fun r N' => r = nI (N 14 0) ∧ N' = mo_bh 12 (mo_up N 14 0 0)) (fun N' => mo_ws o ad cI cB cS N') := by
  refine gw_CI.of (cc := cX11_home) (maxL := 2) (rt := .int) hz (by decide) rfl (Nat.le_of_ble_eq_true rfl) ?_
  intro K C hkl hkn hkR hkD hmn ret
  have C : gw_x K cX11_home RX11 wsX11_home (mo_ty cI cB cS cJ cF cG) zz := C
  subst hkl hkD
  refine gw_aload_n C 0 dX11_home_0 rfl rfl ?_
  refine gw_get (v := iN (N 14 (0))) C 0 14 in_X11_home dX11_home_1 lk_X11_home_136 rfl rfl (by decide) rfl (by first | rfl | simp [mo_up]) ?_
  refine gw_istore_n C (lv2 := [(1, iN (N 14 (0))), (0, .ref (o))]) dX11_home_4 rfl (by omega) rfl ?_
  refine gw_aload_n C 1 dX11_home_5 rfl rfl ?_
  refine gw_iconst C 0 dX11_home_6 (by decide) ?_
  refine gw_put C (ty := .int) 0 14 tyX11 tyX11_ok nmX11 in_X11_home dX11_home_7 lk_X11_home_136 rfl rfl (by decide) rfl rfl (by decide +kernel) rfl rfl (Nat.le_of_ble_eq_true rfl) mo_st14 ?_
  refine gw_aload_n C 1 dX11_home_10 rfl rfl ?_
  refine gw_allVV (n := 0) C (c_bringHome (kl K) (kD K) cI cB cS cJ cF cG zz hz o ad (mo_up N 14 0 0)) 0 rfl rfl rfl gX11_home_X11_bringHome rfl (by decide +kernel) dX11_home_11 (by rw [hkR]; decide) (by rw [hkR]; decide) rfl (Nat.le_of_ble_eq_true rfl) rfl (fun u hu => ?_)
  subst hu
  refine gw_iload_n C 0 dX11_home_14 rfl rfl ?_
  exact ret (mo_bh 12 (mo_up N 14 0 0)) dX11_home_15 rfl ⟨rfl, rfl⟩ rfl (Nat.le_refl 0) (Nat.le_refl 0)
def mo_cbS (p : Nat) (N : Nat → Nat → Nat) : Nat → Nat → Nat := if p < 8 then mo_up (mo_up (mo_up (mo_up N 2 p (N 6 p)) 3 p (N 7 p)) 0 p (N 4 p)) 1 p (N 5 p) else mo_up (mo_up N 2 p (N 6 p)) 3 p (N 7 p)
def mo_cb : Nat → (Nat → Nat → Nat) → Nat → Nat → Nat
  | 0, N => N
  | p + 1, N => mo_cbS p (mo_cb p N)
def mo_tn (t : Nat) (N : Nat → Nat → Nat) : Nat → Nat → Nat := mo_cb 12 (mo_turn t (mo_lk 12 N))
def mo_turnN (t : Nat) (N : Nat → Nat → Nat) : Nat → Nat → Nat := if t < 18 then mo_up (mo_tn t N) 14 0 (mo_tn t N 14 0 + 1) else N
theorem mo_lk_5 (N : Nat → Nat → Nat) : ∀ p j, j < p → j < 8 → mo_lk p N 5 j = N 1 j := by
  intro p
  induction p with
  | zero => intro j h; omega
  | succ p ih =>
    intro j h h8
    have k1 : mo_lk p N 1 = N 1 := mo_lk_k (by decide) (by decide) (by decide) (by decide) N p
    rw [mo_lk, mo_lkS]
    by_cases e : j = p
    · subst e
      rw [if_pos h8]
      simp [mo_up, k1]
    · split <;> simp [mo_up, e, ih j (by omega) h8]
theorem in_X11_turn : ∀ w ∈ wsX110, w ∈ wsX11_turn := fun _ h => List.mem_cons_of_mem _ (List.mem_append_right _ h)
theorem lk_X11_turn_7 : Cond.fieldLink RX11 7 "StageCubeModel" "corners" "[I" ∈ wsX11_turn := by decide +kernel
theorem lk_X11_turn_13 : Cond.fieldLink RX11 13 "StageCubeModel" "twists" "[I" ∈ wsX11_turn := by decide +kernel
theorem lk_X11_turn_16 : Cond.fieldLink RX11 16 "StageCubeModel" "edges" "[I" ∈ wsX11_turn := by decide +kernel
theorem lk_X11_turn_19 : Cond.fieldLink RX11 19 "StageCubeModel" "flips" "[I" ∈ wsX11_turn := by decide +kernel
theorem lk_X11_turn_22 : Cond.fieldLink RX11 22 "StageCubeModel" "c" "[I" ∈ wsX11_turn := by decide +kernel
theorem lk_X11_turn_25 : Cond.fieldLink RX11 25 "StageCubeModel" "tw" "[I" ∈ wsX11_turn := by decide +kernel
theorem lk_X11_turn_28 : Cond.fieldLink RX11 28 "StageCubeModel" "e" "[I" ∈ wsX11_turn := by decide +kernel
theorem lk_X11_turn_31 : Cond.fieldLink RX11 31 "StageCubeModel" "fl" "[I" ∈ wsX11_turn := by decide +kernel
theorem lk_X11_turn_136 : Cond.fieldLink RX11 136 "StageCubeModel" "turned" "I" ∈ wsX11_turn := by decide +kernel
set_option maxHeartbeats 4000000 in
set_option maxRecDepth 100000 in
theorem c_turn (l : Launch) (D : va_G) (cI cB cS cJ cF cG : ClassId) (zz : (Nat → Prop) → State → Heap → Prop) (hz : gw_zT zz) (o : Nat) (ad : Nat → Nat) (N : Nat → Nat → Nat) (t : Nat) (ht : t < 2 ^ 32) (h1 : ∀ j, j < 8 → N 1 j < 3) (hf : ∀ j, j < 144 → N 10 j < 8) (hm : ∀ j, j < 144 → N 11 j < 3) (hg : ∀ j, j < 216 → N 12 j < 12) : gw_CI l yX11_turn wsX11_turn 1 23 0 0 D (mo_ty cI cB cS cJ cF cG) zz (mo_ws o ad cI cB cS N) [.ref o, iN t] (fun r N' => r = nI (if t < 18 then 1 else 4294967295) ∧ N' = mo_turnN t N) (fun N' => mo_ws o ad cI cB cS N') := by
  refine gw_CI.of (cc := cX11_turn) (maxL := 3) (rt := .int) hz (by decide) rfl (Nat.le_of_ble_eq_true rfl) ?_
  intro K C hkl hkn hkR hkD hmn ret
  have C : gw_x K cX11_turn RX11 wsX11_turn (mo_ty cI cB cS cJ cF cG) zz := C
  subst hkl hkD
  refine gw_iload_n C 1 dX11_turn_0 rfl rfl ?_
  refine gw_if_lt32 C 10 dX11_turn_1 (by decide) (by omega) (fun h80 => ?_) (fun h80 => ?_)
  ·
    refine gw_iconst C 4294967295 dX11_turn_10 (by decide) ?_
    exact ret N dX11_turn_11 rfl ⟨by rw [if_neg (by omega)], by rw [mo_turnN, if_neg (by omega)]⟩ rfl (Nat.le_refl 0) (Nat.le_refl 0)
  ·
    refine gw_iload_n C 1 dX11_turn_4 rfl rfl ?_
    refine gw_bipush C 18 dX11_turn_5 (by decide) ?_
    refine gw_icmp_lt C 12 dX11_turn_7 (by decide) (by omega) (by omega) (fun h81 => ?_) (fun h81 => ?_)
    ·
      refine gw_aload_n C 0 dX11_turn_12 rfl rfl ?_
      refine gw_allVV (n := 0) C (c_look (kl K) (kD K) cI cB cS cJ cF cG zz hz o ad N) 0 rfl rfl rfl gX11_turn_X11_look rfl (by decide +kernel) dX11_turn_13 (by rw [hkR]; decide) (by rw [hkR]; decide) rfl (Nat.le_of_ble_eq_true rfl) rfl (fun u hu => ?_)
      subst hu
      refine gw_aload_n C 0 dX11_turn_16 rfl rfl ?_
      refine gw_iload_n C 1 dX11_turn_17 rfl rfl ?_
      refine gw_allVV (n := 1) C (c_turnIt (kl K) (kD K) cI cB cS cJ cF cG zz hz o ad (mo_lk 12 N) t (by omega) (fun j hj => by rw [mo_lk_5 _ _ _ (by omega) hj]; exact h1 j hj) (fun j hj => by rw [mo_lk_k (by decide) (by decide) (by decide) (by decide)]; exact hf j hj) (fun j hj => by rw [mo_lk_k (by decide) (by decide) (by decide) (by decide)]; exact hm j hj) (fun j hj => by rw [mo_lk_k (by decide) (by decide) (by decide) (by decide)]; exact hg j hj)) 0 rfl rfl rfl gX11_turn_X11_turnIt rfl (by decide +kernel) dX11_turn_18 (by rw [hkR]; decide) (by rw [hkR]; decide) rfl (Nat.le_of_ble_eq_true rfl) rfl (fun v hv => ?_)
      subst hv
      refine gw_iconst C 0 dX11_turn_21 (by decide) ?_
      refine gw_istore_n C (lv2 := [(2, iN (0)), (0, .ref (o)), (1, iN (t))]) dX11_turn_22 rfl (by omega) rfl ?_
      have lp : ∀ np p : Nat, p + np = 12 → gw_G K (mo_ws o ad cI cB cS (mo_cb p (mo_turn t (mo_lk 12 N)))) 0 0 23 [(2, iN (p)), (0, .ref (o)), (1, iN (t))] [] := by
        intro np
        induction np with
        | zero =>
          intro p hip
          refine gw_iload_n C 0 dX11_turn_23 rfl rfl ?_
          refine gw_bipush C 12 dX11_turn_24 (by decide) ?_
          refine gw_icmp_ge C 89 dX11_turn_26 (by decide) (by omega) (by omega) (fun h82 => ?_) (fun h82 => ?_)
          ·
            rw [show p = 12 by omega]
            refine gw_aload_n C 1 dX11_turn_89 rfl rfl ?_
            refine gw_dup C dX11_turn_90 rfl ?_
            refine gw_get (v := iN ((mo_tn t N) 14 (0))) C 0 14 in_X11_turn dX11_turn_91 lk_X11_turn_136 rfl rfl (by decide) rfl (by first | rfl | simp [mo_up]) ?_
            refine gw_iconst C 1 dX11_turn_94 (by decide) ?_
            refine gw_iadd C dX11_turn_95 ?_
            refine gw_put C (ty := .int) 0 14 tyX11 tyX11_ok nmX11 in_X11_turn dX11_turn_96 lk_X11_turn_136 rfl rfl (by decide) rfl rfl (by decide +kernel) rfl rfl (Nat.le_of_ble_eq_true rfl) mo_st14 ?_
            refine gw_iconst C 1 dX11_turn_99 (by decide) ?_
            exact ret (mo_turnN t N) dX11_turn_100 rfl ⟨by rw [if_pos (by omega)], rfl⟩ (by rw [mo_turnN, if_pos (by omega)]; rfl) (Nat.le_refl 0) (Nat.le_refl 0)
          ·
            exact absurd h82 (by omega)
        | succ np ihp =>
          intro p hip
          refine gw_iload_n C 0 dX11_turn_23 rfl rfl ?_
          refine gw_bipush C 12 dX11_turn_24 (by decide) ?_
          refine gw_icmp_ge C 89 dX11_turn_26 (by decide) (by omega) (by omega) (fun h83 => ?_) (fun h83 => ?_)
          ·
            exact absurd h83 (by omega)
          ·
            refine gw_aload_n C 1 dX11_turn_29 rfl rfl ?_
            refine gw_get C 0 2 in_X11_turn dX11_turn_30 lk_X11_turn_16 rfl rfl (by decide) rfl rfl ?_
            refine gw_iload_n C 0 dX11_turn_33 rfl rfl ?_
            refine gw_aload_n C 1 dX11_turn_34 rfl rfl ?_
            refine gw_get C 0 6 in_X11_turn dX11_turn_35 lk_X11_turn_28 rfl rfl (by decide) rfl rfl ?_
            refine gw_iload_n C 0 dX11_turn_38 rfl rfl ?_
            refine gw_ild C (v := nI ((mo_cb p (mo_turn t (mo_lk 12 N))) 6 (p))) 7 0 dX11_turn_39 rfl rfl (by decide) (by omega) (by first | rfl | simp [mo_up]) ?_
            refine gw_ist C 3 0 dX11_turn_40 rfl rfl (by decide) (by omega) mo_st2 ?_
            refine gw_aload_n C 1 dX11_turn_41 rfl rfl ?_
            refine gw_get C 0 3 in_X11_turn dX11_turn_42 lk_X11_turn_19 rfl rfl (by decide) rfl rfl ?_
            refine gw_iload_n C 0 dX11_turn_45 rfl rfl ?_
            refine gw_aload_n C 1 dX11_turn_46 rfl rfl ?_
            refine gw_get C 0 7 in_X11_turn dX11_turn_47 lk_X11_turn_31 rfl rfl (by decide) rfl rfl ?_
            refine gw_iload_n C 0 dX11_turn_50 rfl rfl ?_
            refine gw_ild C (v := nI ((mo_cb p (mo_turn t (mo_lk 12 N))) 7 (p))) 8 0 dX11_turn_51 rfl rfl (by decide) (by omega) (by first | rfl | simp [mo_up]) ?_
            refine gw_ist C 4 0 dX11_turn_52 rfl rfl (by decide) (by omega) mo_st3 ?_
            refine gw_iload_n C 0 dX11_turn_53 rfl rfl ?_
            refine gw_bipush C 8 dX11_turn_54 (by decide) ?_
            refine gw_icmp_ge C 83 dX11_turn_56 (by decide) (by omega) (by omega) (fun h84 => ?_) (fun h84 => ?_)
            ·
              refine gw_iinc C (v := nI (p + 1)) (lv2 := [(2, iN (p + 1)), (0, .ref (o)), (1, iN (t))]) 0 dX11_turn_83 rfl (nI_add _ _) (by omega) rfl ?_
              refine gw_goto C 23 dX11_turn_86 (by decide) ?_
              refine gw_lv (lv2 := [(2, iN (p + 1)), (0, .ref (o)), (1, iN (t))]) [0, 1, 2] rfl ?_
              exact gw_ws (congrArg (mo_ws o ad cI cB cS) (by rw [mo_cb, mo_cbS, if_neg (by omega)])) (ihp (p + 1) (by omega))
            ·
              refine gw_aload_n C 1 dX11_turn_59 rfl rfl ?_
              refine gw_get C 0 0 in_X11_turn dX11_turn_60 lk_X11_turn_7 rfl rfl (by decide) rfl rfl ?_
              refine gw_iload_n C 0 dX11_turn_63 rfl rfl ?_
              refine gw_aload_n C 1 dX11_turn_64 rfl rfl ?_
              refine gw_get C 0 4 in_X11_turn dX11_turn_65 lk_X11_turn_22 rfl rfl (by decide) rfl rfl ?_
              refine gw_iload_n C 0 dX11_turn_68 rfl rfl ?_
              refine gw_ild C (v := nI ((mo_cb p (mo_turn t (mo_lk 12 N))) 4 (p))) 5 0 dX11_turn_69 rfl rfl (by decide) (by omega) (by first | rfl | simp [mo_up]) ?_
              refine gw_ist C 1 0 dX11_turn_70 rfl rfl (by decide) (by omega) mo_st0 ?_
              refine gw_aload_n C 1 dX11_turn_71 rfl rfl ?_
              refine gw_get C 0 1 in_X11_turn dX11_turn_72 lk_X11_turn_13 rfl rfl (by decide) rfl rfl ?_
              refine gw_iload_n C 0 dX11_turn_75 rfl rfl ?_
              refine gw_aload_n C 1 dX11_turn_76 rfl rfl ?_
              refine gw_get C 0 5 in_X11_turn dX11_turn_77 lk_X11_turn_25 rfl rfl (by decide) rfl rfl ?_
              refine gw_iload_n C 0 dX11_turn_80 rfl rfl ?_
              refine gw_ild C (v := nI ((mo_cb p (mo_turn t (mo_lk 12 N))) 5 (p))) 6 0 dX11_turn_81 rfl rfl (by decide) (by omega) (by first | rfl | simp [mo_up]) ?_
              refine gw_ist C 2 0 dX11_turn_82 rfl rfl (by decide) (by omega) mo_st1 ?_
              refine gw_iinc C (v := nI (p + 1)) (lv2 := [(2, iN (p + 1)), (0, .ref (o)), (1, iN (t))]) 0 dX11_turn_83 rfl (nI_add _ _) (by omega) rfl ?_
              refine gw_goto C 23 dX11_turn_86 (by decide) ?_
              refine gw_lv (lv2 := [(2, iN (p + 1)), (0, .ref (o)), (1, iN (t))]) [0, 1, 2] rfl ?_
              exact gw_ws (congrArg (mo_ws o ad cI cB cS) (by rw [mo_cb, mo_cbS, if_pos (by omega)])) (ihp (p + 1) (by omega))
      refine gw_lv (lv2 := [(2, iN (0)), (0, .ref (o)), (1, iN (t))]) [0, 1, 2] rfl ?_
      exact lp (12 - 0) 0 (by omega)
    ·
      refine gw_iconst C 4294967295 dX11_turn_10 (by decide) ?_
      exact ret N dX11_turn_11 rfl ⟨by rw [if_neg (by omega)], by rw [mo_turnN, if_neg (by omega)]⟩ rfl (Nat.le_refl 0) (Nat.le_refl 0)
