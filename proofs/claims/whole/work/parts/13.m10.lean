theorem mo_u1_lt (n r : Nat) (N : Nat → Nat → Nat) : ∀ t, t ≤ n → ∀ j, n - t ≤ j → j < n → mo_u1 n r t N 36 j < n - j := by
  intro t
  induction t with
  | zero => intro _ j h1 h2; omega
  | succ t ih =>
    intro ht j h1 h2
    rw [mo_u1]
    by_cases e : j = n - 1 - t
    · subst e
      have := Nat.mod_lt (mo_ul r t) (show 0 < t + 1 by omega)
      simp only [mo_up, if_true]
      omega
    · simp only [mo_up, if_true, if_neg e]
      exact ih (by omega) j (by omega) h2
theorem mo_u2i_lo (k : Nat) (N : Nat → Nat → Nat) : ∀ s j, j ≤ k → mo_u2i k s N 36 j = N 36 j := by
  intro s
  induction s with
  | zero => intro j _; rfl
  | succ s ih => intro j h; rw [mo_u2i]; simp only [mo_up, if_true]; rw [if_neg (by omega), ih j h]
theorem mo_u2_lt (n : Nat) (M : Nat → Nat → Nat) (h : ∀ j, j < n → M 36 j < n - j) : ∀ t, t < n → (∀ j, n - 1 - t ≤ j → j < n → mo_u2 n t M 36 j < t + 1) ∧ ∀ j, j < n - 1 - t → mo_u2 n t M 36 j = M 36 j := by
  intro t
  induction t with
  | zero =>
    intro ht
    refine ⟨fun j h1 h2 => ?_, fun j _ => rfl⟩
    have := h j h2
    show M 36 j < 1
    omega
  | succ t ih =>
    intro ht
    obtain ⟨i1, i2⟩ := ih (by omega)
    rw [mo_u2]
    refine ⟨fun j h1 h2 => ?_, fun j hj => ?_⟩
    · by_cases e : j ≤ n - 1 - 1 - t
      · rw [mo_u2i_lo _ _ _ _ e, i2 j (by omega)]
        have := h j h2
        omega
      · have a1 := mo_u2i_le (n - 1 - 1 - t) (mo_u2 n t M) (t + 1) j
        have a2 := i1 j (by omega) h2
        split at a1 <;> omega
    · rw [mo_u2i_lo _ _ _ _ (by omega), i2 j (by omega)]
theorem mo_unr_lt (n r : Nat) (N : Nat → Nat → Nat) {j : Nat} (hj : j < n) : mo_unr n r N 36 j < n := by
  have h := (mo_u2_lt n (mo_u1 n r n N) (fun j hj => mo_u1_lt n r N n (Nat.le_refl _) j (by omega) hj) (n - 1) (by omega)).1 j (by omega) hj
  rw [mo_unr]
  omega
theorem mo_fk_k {k : Nat} (h1 : k ≠ 30) (h2 : k ≠ 28) (N : Nat → Nat → Nat) : ∀ r, mo_fk r N k = N k := by
  intro r
  induction r with
  | zero => rfl
  | succ r ih => funext j; simp [mo_fk, mo_up, h1, h2, ih]
theorem mo_fk_30 (N : Nat → Nat → Nat) : ∀ r j, j < r → mo_fk r N 30 j = 4294967295 ∧ mo_fk r N 28 j = 4294967295 := by
  intro r
  induction r with
  | zero => intro j h; omega
  | succ r ih =>
    intro j h
    rw [mo_fk]
    by_cases e : j = r
    · subst e; simp [mo_up]
    · have := ih j (by omega)
      simp [mo_up, e, this]
theorem mo_kinds0_K (N : Nat → Nat → Nat) (h : ∀ j, j < 96 → N 31 j < 2 ^ 31) : mo_sqK N (mo_kinds0 N) := by
  refine ⟨?_, ?_, ?_, ?_⟩
  · funext j; simp [mo_kinds0, mo_up, mo_fk_k]
  · intro j hj
    have := (mo_fk_30 N 40320 j hj).1
    simp only [mo_kinds0, mo_up, show (30 : Nat) = 31 ↔ False by decide, if_false, if_true]
    split <;> omega
  · intro j hj
    have := h j hj
    simp only [mo_kinds0, mo_up, if_true]
    split
    · omega
    · simp only [show (31 : Nat) = 30 ↔ False by decide, if_false]
      rw [mo_fk_k (by decide) (by decide)]
      exact this
  · intro j hj
    have := (mo_fk_30 N 40320 j hj).2
    simp only [mo_kinds0, mo_up, show (28 : Nat) = 31 ↔ False by decide, show (28 : Nat) = 30 ↔ False by decide, if_false]
    omega
theorem mo_sqI_K {N : Nat → Nat → Nat} {k : Nat} {S : (Nat → Nat → Nat) × Nat} (h : mo_sqK N S.1) (hn : (mo_sqI k 6 S).2 < 2 ^ 31) : ∀ i, i ≤ 6 → mo_sqK N (mo_sqI k i S).1 := by
  intro i
  induction i with
  | zero => intro _; exact h
  | succ i ih =>
    intro hi
    rw [mo_sqI]
    exact mo_sqS_K (ih (by omega)) (Nat.lt_of_le_of_lt (mo_sqI_n k S i 6 (by omega)) hn)
theorem mo_sq_K {N : Nat → Nat → Nat} {S : (Nat → Nat → Nat) × Nat} (h : mo_sqK N S.1) (hn : (mo_sq 96 S).2 < 2 ^ 31) : ∀ k, k ≤ 96 → mo_sqK N (mo_sq k S).1 := by
  intro k
  induction k with
  | zero => intro _; exact h
  | succ k ih =>
    intro hk
    rw [mo_sq]
    exact mo_sqI_K (ih (by omega)) (Nat.lt_of_le_of_lt (mo_sq_n S (k + 1) 96 hk) hn) 6 (Nat.le_refl _)
theorem mo_name_k {k : Nat} (h1 : k ≠ 36) (h2 : k ≠ 37) (h3 : k ≠ 28) (h4 : k ≠ 9) (r kind : Nat) (N : Nat → Nat → Nat) : mo_name r kind N k = N k := by
  rw [mo_name, mo_nk_k h1 h2 h3, mo_nk1_k h4, mo_unr_k h1]
theorem mo_name_28 (r kind : Nat) (N : Nat → Nat → Nat) (hk : kind < 2 ^ 32) (h : ∀ j, j < 40320 → N 28 j < 2 ^ 32) : ∀ j, j < 40320 → mo_name r kind N 28 j < 2 ^ 32 := by
  have a : ∀ q M, (∀ j, j < 40320 → M 28 j < 2 ^ 32) → ∀ j, j < 40320 → mo_nk kind q M 28 j < 2 ^ 32 := by
    intro q M hM
    induction q with
    | zero => exact hM
    | succ q ih =>
      intro j hj
      rw [mo_nk]
      simp only [mo_up, if_true]
      split
      · exact hk
      · rw [mo_nkA_k (by decide) (by decide)]; exact ih j hj
  intro j hj
  rw [mo_name]
  exact a 96 _ (fun j hj => by rw [mo_nk1_k (by decide), mo_unr_k (by decide)]; exact h j hj) j hj
theorem mo_kd_K {N : Nat → Nat → Nat} {S : (Nat → Nat → Nat) × Nat} (h : mo_sqK N S.1) (hn : (mo_kd 40320 S).2 < 2 ^ 31) : ∀ r, r ≤ 40320 → mo_sqK N (mo_kd r S).1 := by
  intro r
  induction r with
  | zero => intro _; exact h
  | succ r ih =>
    intro hr
    have hk := ih (by omega)
    have hm := mo_kd_n S r 40320 (by omega)
    rw [mo_kd, mo_kdS]
    split
    · refine ⟨?_, ?_, ?_, ?_⟩
      · dsimp only; rw [mo_name_k (by decide) (by decide) (by decide) (by decide)]; exact hk.1
      · intro j hj; dsimp only; rw [mo_name_k (by decide) (by decide) (by decide) (by decide)]; exact hk.2.1 j hj
      · intro j hj; dsimp only; rw [mo_name_k (by decide) (by decide) (by decide) (by decide)]; exact hk.2.2.1 j hj
      · exact mo_name_28 _ _ _ (by omega) (fun j hj => hk.2.2.2 j hj)
    · exact hk
theorem in_X11_makeKinds : ∀ w ∈ wsX110, w ∈ wsX11_makeKinds := fun _ h => List.mem_cons_of_mem _ (List.mem_append_right _ h)
theorem lk_X11_makeKinds_87 : Cond.fieldLink RX11 87 "StageCubeModel" "kindOf" "[S" ∈ wsX11_makeKinds := by decide +kernel
theorem lk_X11_makeKinds_90 : Cond.fieldLink RX11 90 "StageCubeModel" "kindAt" "[I" ∈ wsX11_makeKinds := by decide +kernel
theorem lk_X11_makeKinds_93 : Cond.fieldLink RX11 93 "StageCubeModel" "squareOf" "[S" ∈ wsX11_makeKinds := by decide +kernel
theorem lk_X11_makeKinds_96 : Cond.fieldLink RX11 96 "StageCubeModel" "squareAt" "[I" ∈ wsX11_makeKinds := by decide +kernel
set_option maxHeartbeats 4000000 in
set_option maxRecDepth 100000 in
theorem c_makeKinds (l : Launch) (D : va_G) (cI cB cS cJ cF cG : ClassId) (zz : (Nat → Prop) → State → Heap → Prop) (hz : gw_zT zz) (o : Nat) (ad : Nat → Nat) (N : Nat → Nat → Nat) (hf : ∀ j, j < 144 → N 10 j < 8) (h31 : ∀ j, j < 96 → N 31 j < 2 ^ 31) (hs1 : ∀ k, k < 96 → k < (mo_sq k (mo_kinds0 N, 1)).2) (hs2 : (mo_sq 96 (mo_kinds0 N, 1)).2 = 96) (hs3 : (mo_kinds N).2 ≤ 420) : gw_CV l yX11_makeKinds wsX11_makeKinds 2 50 0 0 D (mo_ty cI cB cS cJ cF cG) zz (mo_ws o ad cI cB cS N) [.ref o] (fun N' => N' = (mo_kinds N).1) (fun N' => mo_ws o ad cI cB cS N') := by
  refine gw_CV.of (cc := cX11_makeKinds) (maxL := 5) hz (by decide) rfl (Nat.le_of_ble_eq_true rfl) ?_
  intro K C hkl hkn hkR hkD hmn ret
  have C : gw_x K cX11_makeKinds RX11 wsX11_makeKinds (mo_ty cI cB cS cJ cF cG) zz := C
  subst hkl hkD
  refine gw_iconst C 0 dX11_makeKinds_0 (by decide) ?_
  refine gw_istore_n C (lv2 := [(1, iN (0)), (0, .ref (o))]) dX11_makeKinds_1 rfl (by omega) rfl ?_
  have lp : ∀ ni i : Nat, i + ni = 40320 → gw_G K (mo_ws o ad cI cB cS (mo_fk i N)) 0 0 2 [(1, iN (i)), (0, .ref (o))] [] := by
    intro ni
    induction ni with
    | zero =>
      intro i hii
      refine gw_iload_n C 0 dX11_makeKinds_2 rfl rfl ?_
      refine gw_ldc C (x := 40320) 40320 dX11_makeKinds_3 (by decide) (by decide +kernel) ?_
      refine gw_icmp_ge C 28 dX11_makeKinds_5 (by decide) (by omega) (by omega) (fun h61 => ?_) (fun h61 => ?_)
      ·
        rw [show i = 40320 by omega]
        refine gw_aload_n C 1 dX11_makeKinds_28 rfl rfl ?_
        refine gw_get C 0 30 in_X11_makeKinds dX11_makeKinds_29 lk_X11_makeKinds_93 rfl rfl (by decide) rfl rfl ?_
        refine gw_iconst C 0 dX11_makeKinds_32 (by decide) ?_
        refine gw_iconst C 0 dX11_makeKinds_33 (by decide) ?_
        refine gw_sst C 27 2 dX11_makeKinds_34 rfl rfl (by decide) (by omega) (by decide) mo_st30 ?_
        refine gw_aload_n C 1 dX11_makeKinds_35 rfl rfl ?_
        refine gw_get C 0 31 in_X11_makeKinds dX11_makeKinds_36 lk_X11_makeKinds_96 rfl rfl (by decide) rfl rfl ?_
        refine gw_iconst C 0 dX11_makeKinds_39 (by decide) ?_
        refine gw_iconst C 0 dX11_makeKinds_40 (by decide) ?_
        refine gw_ist C 28 0 dX11_makeKinds_41 rfl rfl (by decide) (by omega) mo_st31 ?_
        refine gw_iconst C 1 dX11_makeKinds_42 (by decide) ?_
        refine gw_istore_n C (lv2 := [(1, iN (1)), (0, .ref (o))]) dX11_makeKinds_43 rfl (by omega) rfl ?_
        refine gw_iconst C 0 dX11_makeKinds_44 (by decide) ?_
        refine gw_istore_n C (lv2 := [(2, iN (0)), (1, iN (1)), (0, .ref (o))]) dX11_makeKinds_45 rfl (by omega) rfl ?_
        have kall : ∀ k, k ≤ 96 → mo_sqK N (mo_sq k (mo_kinds0 N, 1)).1 := mo_sq_K (S := (mo_kinds0 N, 1)) (mo_kinds0_K N h31) (by rw [hs2]; decide)
        refine gw_ws (ws2 := mo_ws o ad cI cB cS (mo_sq 0 (mo_kinds0 N, 1)).1) rfl ?_
        refine gw_lv (lv2 := [(2, iN 0), (1, iN (mo_sq 0 (mo_kinds0 N, 1)).2), (0, .ref o)]) [0, 1, 2] rfl ?_
        have lp2 : ∀ nk k : Nat, k + nk = 96 → gw_G K (mo_ws o ad cI cB cS ((mo_sq k (mo_kinds0 N, 1)).1)) 0 0 46 [(2, iN (k)), (1, iN ((mo_sq k (mo_kinds0 N, 1)).2)), (0, .ref (o))] [] := by
          intro nk
          induction nk with
          | zero =>
            intro k hik
            have mono := mo_sq_n (mo_kinds0 N, 1) k 96 (by omega)
            have lo : k < 96 → k < (mo_sq k (mo_kinds0 N, 1)).2 := hs1 k
            have hi : k = 96 → (mo_sq k (mo_kinds0 N, 1)).2 = 96 := fun e => by rw [e]; exact hs2
            refine gw_iload_n C 0 dX11_makeKinds_46 rfl rfl ?_
            refine gw_iload_n C 1 dX11_makeKinds_47 rfl rfl ?_
            refine gw_icmp_ge C 126 dX11_makeKinds_48 (by decide) (by omega) (by omega) (fun h62 => ?_) (fun h62 => ?_)
            ·
              have kk := kall 96 (Nat.le_refl _)
              obtain ⟨S9, e9⟩ : ∃ S9, S9 = mo_sq 96 (mo_kinds0 N, 1) := ⟨_, rfl⟩
              rw [← e9] at kk
              rw [show k = 96 by omega, ← e9]
              refine gw_iconst C 0 dX11_makeKinds_126 (by decide) ?_
              refine gw_istore_n C (lv2 := [(2, iN (0)), (1, iN (S9.2)), (0, .ref (o))]) dX11_makeKinds_127 rfl (by omega) rfl ?_
              refine gw_iconst C 0 dX11_makeKinds_128 (by decide) ?_
              refine gw_istore_n C (lv2 := [(3, iN (0)), (2, iN (0)), (1, iN (S9.2)), (0, .ref (o))]) dX11_makeKinds_129 rfl (by omega) rfl ?_
              have h3 := hs3
              unfold mo_kinds at h3
              rw [← e9] at h3
              have h4 := Nat.lt_of_le_of_lt h3 (show 420 < 2 ^ 31 by decide)
              obtain ⟨Z, eZ⟩ : ∃ Z : (Nat → Nat → Nat) × Nat, Z = (S9.1, 0) := ⟨_, rfl⟩
              rw [← eZ] at h3 h4
              have kz : mo_sqK N Z.1 := by rw [eZ]; exact kk
              have kd : ∀ r, r ≤ 40320 → mo_sqK N (mo_kd r Z).1 := mo_kd_K kz h4
              refine gw_ws (ws2 := mo_ws o ad cI cB cS (mo_kd 0 Z).1) (by rw [eZ]; rfl) ?_
              refine gw_lv (lv2 := [(3, iN 0), (2, iN (mo_kd 0 Z).2), (0, .ref o)]) [0, 1, 3] (by rw [eZ]; rfl) ?_
              have lp4 : ∀ nr r : Nat, r + nr = 40320 → gw_G K (mo_ws o ad cI cB cS ((mo_kd r Z).1)) 0 0 130 [(3, iN (r)), (2, iN ((mo_kd r Z).2)), (0, .ref (o))] [] := by
                intro nr
                induction nr with
                | zero =>
                  intro r hir
                  refine gw_iload_n C 0 dX11_makeKinds_130 rfl rfl ?_
                  refine gw_ldc C (x := 40320) 40320 dX11_makeKinds_131 (by decide) (by decide +kernel) ?_
                  refine gw_icmp_ge C 167 dX11_makeKinds_133 (by decide) (by omega) (by omega) (fun h63 => ?_) (fun h63 => ?_)
                  ·
                    exact ret (mo_kinds N).1 dX11_makeKinds_167 rfl (by rw [show r = 40320 by omega]; unfold mo_kinds; rw [← e9, ← eZ]) (Nat.le_refl 0) (Nat.le_refl 0)
                  ·
                    exact absurd h63 (by omega)
                | succ nr ihr =>
                  intro r hir
                  refine gw_iload_n C 0 dX11_makeKinds_130 rfl rfl ?_
                  refine gw_ldc C (x := 40320) 40320 dX11_makeKinds_131 (by decide) (by decide +kernel) ?_
                  refine gw_icmp_ge C 167 dX11_makeKinds_133 (by decide) (by omega) (by omega) (fun h64 => ?_) (fun h64 => ?_)
                  ·
                    exact absurd h64 (by omega)
                  ·
                    have kq := kd r (by omega)
                    have m2 := mo_kd_n Z (r + 1) 40320 (by omega)
                    have m3 := h3
                    rw [mo_kd, mo_kdS] at m2
                    obtain ⟨P, eP⟩ : ∃ P, P = mo_kd r Z := ⟨_, rfl⟩
                    rw [← eP] at kq m2
                    rw [← eP]
                    have k28 := kq.2.2.2 r (by omega)
                    refine gw_aload_n C 2 dX11_makeKinds_136 rfl rfl ?_
                    refine gw_get C 0 28 in_X11_makeKinds dX11_makeKinds_137 lk_X11_makeKinds_87 rfl rfl (by decide) rfl rfl ?_
                    refine gw_iload_n C 0 dX11_makeKinds_140 rfl rfl ?_
                    refine gw_sld C (v := nI ((P.1) 28 (r))) 25 2 dX11_makeKinds_141 rfl rfl (by decide) (by omega) (by first | rfl | simp [mo_up]) ?_
                    refine gw_if_ge32 C 161 dX11_makeKinds_142 (by decide) (by omega) (fun h65 => ?_) (fun h65 => ?_)
                    ·
                      refine gw_iinc C (v := nI (r + 1)) (lv2 := [(3, iN (r + 1)), (2, iN (P.2)), (0, .ref (o))]) 0 dX11_makeKinds_161 rfl (nI_add _ _) (by omega) rfl ?_
                      refine gw_goto C 130 dX11_makeKinds_164 (by decide) ?_
                      refine gw_lv (lv2 := [(3, iN (r + 1)), (2, iN (P.2)), (0, .ref (o))]) [0, 1, 2] rfl ?_
                      have q := ihr (r + 1) (by omega)
                      rw [mo_kd, ← eP, mo_kdS, if_neg (by omega)] at q
                      exact q
                    ·
                      rw [if_pos (by omega)] at m2
                      have m4 : P.2 + 1 ≤ 420 := Nat.le_trans m2 m3
                      refine gw_aload_n C 2 dX11_makeKinds_145 rfl rfl ?_
                      refine gw_get C 0 29 in_X11_makeKinds dX11_makeKinds_146 lk_X11_makeKinds_90 rfl rfl (by decide) rfl rfl ?_
                      refine gw_iload_n C 1 dX11_makeKinds_149 rfl rfl ?_
                      refine gw_iload_n C 0 dX11_makeKinds_150 rfl rfl ?_
                      refine gw_ist C 26 0 dX11_makeKinds_151 rfl rfl (by decide) (by omega) mo_st29 ?_
                      refine gw_aload_n C 2 dX11_makeKinds_152 rfl rfl ?_
                      refine gw_iload_n C 0 dX11_makeKinds_153 rfl rfl ?_
                      refine gw_iload_n C 1 dX11_makeKinds_154 rfl rfl ?_
                      refine gw_allVV (n := 2) C (c_nameKind (kl K) (kD K) cI cB cS cJ cF cG zz hz o ad (mo_up P.1 29 P.2 r) r P.2 (by omega) (by omega) (fun k hk => kq.2.2.1 k hk) (fun j hj => mo_unr_lt 8 r _ hj)) 0 rfl rfl rfl gX11_makeKinds_X11_nameKind rfl (by decide +kernel) dX11_makeKinds_155 (by rw [hkR]; decide) (by rw [hkR]; decide) rfl (Nat.le_of_ble_eq_true rfl) rfl (fun v5 hv5 => ?_)
                      subst hv5
                      refine gw_iinc C (v := nI (P.2 + 1)) (lv2 := [(2, iN (P.2 + 1)), (3, iN (r)), (0, .ref (o))]) 1 dX11_makeKinds_158 rfl (nI_add _ _) (by omega) rfl ?_
                      refine gw_iinc C (v := nI (r + 1)) (lv2 := [(3, iN (r + 1)), (2, iN (P.2 + 1)), (0, .ref (o))]) 1 dX11_makeKinds_161 rfl (nI_add _ _) (by omega) rfl ?_
                      refine gw_goto C 130 dX11_makeKinds_164 (by decide) ?_
                      refine gw_lv (lv2 := [(3, iN (r + 1)), (2, iN (P.2 + 1)), (0, .ref (o))]) [0, 1, 2] rfl ?_
                      have q := ihr (r + 1) (by omega)
                      rw [mo_kd, ← eP, mo_kdS, if_pos (by omega)] at q
                      exact q
              refine gw_lv (lv2 := [(3, iN (0)), (2, iN ((mo_kd 0 Z).2)), (0, .ref (o))]) [0, 1, 2] rfl ?_
              exact lp4 (40320 - 0) 0 (by omega)
            ·
              exact absurd h62 (by omega)
          | succ nk ihk =>
            intro k hik
            have mono := mo_sq_n (mo_kinds0 N, 1) k 96 (by omega)
            have lo : k < 96 → k < (mo_sq k (mo_kinds0 N, 1)).2 := hs1 k
            have hi : k = 96 → (mo_sq k (mo_kinds0 N, 1)).2 = 96 := fun e => by rw [e]; exact hs2
            refine gw_iload_n C 0 dX11_makeKinds_46 rfl rfl ?_
            refine gw_iload_n C 1 dX11_makeKinds_47 rfl rfl ?_
            refine gw_icmp_ge C 126 dX11_makeKinds_48 (by decide) (by omega) (by omega) (fun h66 => ?_) (fun h66 => ?_)
            ·
              exact absurd h66 (by omega)
            ·
              have kk := kall k (by omega)
              have m1 := mo_sq_n (mo_kinds0 N, 1) (k + 1) 96 (by omega)
              rw [mo_sq, hs2] at m1
              obtain ⟨S, eS⟩ : ∃ S, S = mo_sq k (mo_kinds0 N, 1) := ⟨_, rfl⟩
              rw [← eS] at kk m1
              rw [← eS]
              refine gw_iconst C 1 dX11_makeKinds_51 (by decide) ?_
              refine gw_istore_n C (lv2 := [(3, iN (1)), (2, iN (k)), (1, iN (S.2)), (0, .ref (o))]) dX11_makeKinds_52 rfl (by omega) rfl ?_
              have kI : ∀ i, i ≤ 6 → mo_sqK N (mo_sqI k i S).1 := mo_sqI_K kk (by omega)
              refine gw_ws (ws2 := mo_ws o ad cI cB cS (mo_sqI k 0 S).1) rfl ?_
              refine gw_lv (lv2 := [(3, iN (1 + 3 * 0)), (2, iN k), (1, iN (mo_sqI k 0 S).2), (0, .ref o)]) [0, 1, 2, 3] rfl ?_
              have lp3 : ∀ ni i : Nat, i + ni = 6 → gw_G K (mo_ws o ad cI cB cS ((mo_sqI k i S).1)) 0 0 53 [(3, iN (1 + 3 * i)), (2, iN (k)), (1, iN ((mo_sqI k i S).2)), (0, .ref (o))] [] := by
                intro ni
                induction ni with
                | zero =>
                  intro i hii
                  refine gw_iload_n C 0 dX11_makeKinds_53 rfl rfl ?_
                  refine gw_bipush C 18 dX11_makeKinds_54 (by decide) ?_
                  refine gw_icmp_ge C 120 dX11_makeKinds_56 (by decide) (by omega) (by omega) (fun h67 => ?_) (fun h67 => ?_)
                  ·
                    rw [show i = 6 by omega]
                    refine gw_iinc C (v := nI (k + 1)) (lv2 := [(2, iN (k + 1)), (3, iN (1 + 3 * 6)), (1, iN ((mo_sqI k 6 S).2)), (0, .ref (o))]) 1 dX11_makeKinds_120 rfl (nI_add _ _) (by omega) rfl ?_
                    refine gw_goto C 46 dX11_makeKinds_123 (by decide) ?_
                    refine gw_lv (lv2 := [(2, iN (k + 1)), (1, iN ((mo_sqI k 6 S).2)), (0, .ref (o))]) [0, 2, 3] rfl ?_
                    have q := ihk (k + 1) (by omega)
                    rw [mo_sq, ← eS] at q
                    exact q
                  ·
                    exact absurd h67 (by omega)
                | succ ni ihi =>
                  intro i hii
                  refine gw_iload_n C 0 dX11_makeKinds_53 rfl rfl ?_
                  refine gw_bipush C 18 dX11_makeKinds_54 (by decide) ?_
                  refine gw_icmp_ge C 120 dX11_makeKinds_56 (by decide) (by omega) (by omega) (fun h68 => ?_) (fun h68 => ?_)
                  ·
                    exact absurd h68 (by omega)
                  ·
                    have kq := kI i (by omega)
                    have m2 := mo_sqI_n k S (i + 1) 6 (by omega)
                    rw [mo_sqI, mo_sqS] at m2
                    obtain ⟨P, eP⟩ : ∃ P, P = mo_sqI k i S := ⟨_, rfl⟩
                    rw [← eP] at kq m2
                    rw [← eP]
                    have k10 : ∀ j, j < 144 → P.1 10 j < 8 := fun j hj => by rw [kq.1]; exact hf j hj
                    have k31 := kq.2.2.1 k (by omega)
                    refine gw_aload_n C 3 dX11_makeKinds_59 rfl rfl ?_
                    refine gw_bipush C 8 dX11_makeKinds_60 (by decide) ?_
                    refine gw_aload_n C 3 dX11_makeKinds_62 rfl rfl ?_
                    refine gw_get C 0 31 in_X11_makeKinds dX11_makeKinds_63 lk_X11_makeKinds_96 rfl rfl (by decide) rfl rfl ?_
                    refine gw_iload_n C 1 dX11_makeKinds_66 rfl rfl ?_
                    refine gw_ild C (v := nI ((P.1) 31 (k))) 28 0 dX11_makeKinds_67 rfl rfl (by decide) (by omega) (by first | rfl | simp [mo_up]) ?_
                    refine gw_allVV (n := 2) C (c_unrank (kl K) (kD K) cI cB cS cJ cF cG zz hz o ad (P.1) 8 (P.1 31 k) (by omega) (by omega) (k31)) 0 rfl rfl rfl gX11_makeKinds_X11_unrank rfl (by decide +kernel) dX11_makeKinds_68 (by rw [hkR]; decide) (by rw [hkR]; decide) rfl (Nat.le_of_ble_eq_true rfl) rfl (fun v1 hv1 => ?_)
                    subst hv1
                    refine gw_aload_n C 3 dX11_makeKinds_71 rfl rfl ?_
                    refine gw_iload_n C 0 dX11_makeKinds_72 rfl rfl ?_
                    refine gw_allVV (n := 1) C (c_turnRow (kl K) (kD K) cI cB cS cJ cF cG zz hz o ad (mo_unr 8 (P.1 31 k) P.1) (1 + 3 * i) (by omega) (fun j hj => by rw [mo_unr_k (by decide)]; exact k10 j hj)) 0 rfl rfl rfl gX11_makeKinds_X11_turnRow rfl (by decide +kernel) dX11_makeKinds_73 (by rw [hkR]; decide) (by rw [hkR]; decide) rfl (Nat.le_of_ble_eq_true rfl) rfl (fun v2 hv2 => ?_)
                    subst hv2
                    rw [show mo_trow (1 + 3 * i) (mo_unr 8 (P.1 31 k) P.1) = mo_sqR P.1 31 k (1 + 3 * i) from rfl]
                    have kb : ∀ j, j < 8 → mo_sqR P.1 31 k (1 + 3 * i) 36 j < 100 := fun j hj => by have := mo_sqR_b P.1 31 k (1 + 3 * i) j hj (k10 _ (by omega)); omega
                    have kr := mo_rk_lt8 (mo_sqR P.1 31 k (1 + 3 * i) 36)
                    have k30 : mo_sqR P.1 31 k (1 + 3 * i) 30 (mo_rk (mo_sqR P.1 31 k (1 + 3 * i) 36) 8 8) < 2 ^ 32 := by rw [mo_sqR_k (by decide) (by decide)]; exact kq.2.1 _ kr
                    have k30e : mo_sqR P.1 31 k (1 + 3 * i) 30 (mo_rk (mo_sqR P.1 31 k (1 + 3 * i) 36) 8 8) = P.1 30 (mo_rk (mo_sqR P.1 31 k (1 + 3 * i) 36) 8 8) := by rw [mo_sqR_k (by decide) (by decide)]
                    obtain ⟨Q, eQ⟩ : ∃ Q, Q = mo_sqR P.1 31 k (1 + 3 * i) := ⟨_, rfl⟩
                    rw [← eQ] at kb kr k30 k30e m2
                    rw [← eQ]
                    refine gw_aload_n C 3 dX11_makeKinds_76 rfl rfl ?_
                    refine gw_bipush C 8 dX11_makeKinds_77 (by decide) ?_
                    refine gw_allVI (n := 1) C (c_rank (kl K) (kD K) cI cB cS cJ cF cG zz hz o ad (Q) 8 (by omega) (kb)) 0 rfl rfl rfl gX11_makeKinds_X11_rank rfl (by decide +kernel) dX11_makeKinds_79 (by rw [hkR]; decide) (by rw [hkR]; decide) rfl (Nat.le_of_ble_eq_true rfl) rfl (fun rv3 v3 hv3 => ?_)
                    obtain ⟨rfl, rfl⟩ := hv3
                    obtain ⟨r, er⟩ : ∃ r, r = mo_rk (v3 36) 8 8 := ⟨_, rfl⟩
                    rw [← er] at kr k30 k30e m2
                    rw [← er]
                    refine gw_istore C (lv2 := [(4, iN (r)), (3, iN (1 + 3 * i)), (2, iN (k)), (1, iN (P.2)), (0, .ref (o))]) dX11_makeKinds_82 (by omega) rfl ?_
                    refine gw_aload_n C 4 dX11_makeKinds_84 rfl rfl ?_
                    refine gw_get C 0 30 in_X11_makeKinds dX11_makeKinds_85 lk_X11_makeKinds_93 rfl rfl (by decide) rfl rfl ?_
                    refine gw_iload C 0 dX11_makeKinds_88 rfl ?_
                    refine gw_sld C (v := nI (v3 30 (r))) 27 2 dX11_makeKinds_90 rfl rfl (by decide) (by omega) (by first | rfl | simp [mo_up]) ?_
                    refine gw_if_ge32 C 114 dX11_makeKinds_91 (by decide) (by omega) (fun h69 => ?_) (fun h69 => ?_)
                    ·
                      refine gw_iinc C (v := nI (1 + 3 * i + 3)) (lv2 := [(3, iN (1 + 3 * i + 3)), (4, iN (r)), (2, iN (k)), (1, iN (P.2)), (0, .ref (o))]) 1 dX11_makeKinds_114 rfl (nI_add _ _) (by omega) rfl ?_
                      refine gw_goto C 53 dX11_makeKinds_117 (by decide) ?_
                      refine gw_lv (lv2 := [(3, iN (1 + 3 * i + 3)), (2, iN (k)), (1, iN (P.2)), (0, .ref (o))]) [0, 2, 3, 4] rfl ?_
                      have q := ihi (i + 1) (by omega)
                      rw [mo_sqI, ← eP, mo_sqS, ← eQ, ← er, if_neg (by omega)] at q
                      exact q
                    ·
                      rw [if_pos (by omega)] at m2
                      refine gw_aload_n C 4 dX11_makeKinds_94 rfl rfl ?_
                      refine gw_get C 0 30 in_X11_makeKinds dX11_makeKinds_95 lk_X11_makeKinds_93 rfl rfl (by decide) rfl rfl ?_
                      refine gw_iload C 0 dX11_makeKinds_98 rfl ?_
                      refine gw_iload_n C 3 dX11_makeKinds_100 rfl rfl ?_
                      refine gw_i2s C dX11_makeKinds_101 (by omega) ?_
                      refine gw_sst C 27 2 dX11_makeKinds_102 rfl rfl (by decide) (by omega) (gw_ns (by omega)).1 mo_st30 ?_
                      refine gw_aload_n C 4 dX11_makeKinds_103 rfl rfl ?_
                      refine gw_get C 0 31 in_X11_makeKinds dX11_makeKinds_104 lk_X11_makeKinds_96 rfl rfl (by decide) rfl rfl ?_
                      refine gw_iload_n C 3 dX11_makeKinds_107 rfl rfl ?_
                      refine gw_iload C 0 dX11_makeKinds_108 rfl ?_
                      refine gw_ist C 28 0 dX11_makeKinds_110 rfl rfl (by decide) (by omega) mo_st31 ?_
                      refine gw_iinc C (v := nI (P.2 + 1)) (lv2 := [(1, iN (P.2 + 1)), (4, iN (r)), (3, iN (1 + 3 * i)), (2, iN (k)), (0, .ref (o))]) 3 dX11_makeKinds_111 rfl (nI_add _ _) (by omega) rfl ?_
                      refine gw_iinc C (v := nI (1 + 3 * i + 3)) (lv2 := [(3, iN (1 + 3 * i + 3)), (1, iN (P.2 + 1)), (4, iN (r)), (2, iN (k)), (0, .ref (o))]) 2 dX11_makeKinds_114 rfl (nI_add _ _) (by omega) rfl ?_
                      refine gw_goto C 53 dX11_makeKinds_117 (by decide) ?_
                      refine gw_lv (lv2 := [(3, iN (1 + 3 * i + 3)), (2, iN (k)), (1, iN (P.2 + 1)), (0, .ref (o))]) [0, 3, 1, 4] rfl ?_
                      have q := ihi (i + 1) (by omega)
                      rw [mo_sqI, ← eP, mo_sqS, ← eQ, ← er, if_pos (by omega)] at q
                      exact q
              refine gw_lv (lv2 := [(3, iN (1 + 3 * 0)), (2, iN (k)), (1, iN ((mo_sqI k 0 S).2)), (0, .ref (o))]) [0, 1, 2, 3] rfl ?_
              exact lp3 (6 - 0) 0 (by omega)
        refine gw_lv (lv2 := [(2, iN (0)), (1, iN ((mo_sq 0 (mo_kinds0 N, 1)).2)), (0, .ref (o))]) [0, 1, 2] rfl ?_
        exact lp2 (96 - 0) 0 (by omega)
      ·
        exact absurd h61 (by omega)
    | succ ni ihi =>
      intro i hii
      refine gw_iload_n C 0 dX11_makeKinds_2 rfl rfl ?_
      refine gw_ldc C (x := 40320) 40320 dX11_makeKinds_3 (by decide) (by decide +kernel) ?_
      refine gw_icmp_ge C 28 dX11_makeKinds_5 (by decide) (by omega) (by omega) (fun h70 => ?_) (fun h70 => ?_)
      ·
        exact absurd h70 (by omega)
      ·
        refine gw_aload_n C 1 dX11_makeKinds_8 rfl rfl ?_
        refine gw_get C 0 30 in_X11_makeKinds dX11_makeKinds_9 lk_X11_makeKinds_93 rfl rfl (by decide) rfl rfl ?_
        refine gw_iload_n C 0 dX11_makeKinds_12 rfl rfl ?_
        refine gw_iconst C 4294967295 dX11_makeKinds_13 (by decide) ?_
        refine gw_sst C 27 2 dX11_makeKinds_14 rfl rfl (by decide) (by omega) (by decide) mo_st30 ?_
        refine gw_aload_n C 1 dX11_makeKinds_15 rfl rfl ?_
        refine gw_get C 0 28 in_X11_makeKinds dX11_makeKinds_16 lk_X11_makeKinds_87 rfl rfl (by decide) rfl rfl ?_
        refine gw_iload_n C 0 dX11_makeKinds_19 rfl rfl ?_
        refine gw_iconst C 4294967295 dX11_makeKinds_20 (by decide) ?_
        refine gw_sst C 25 2 dX11_makeKinds_21 rfl rfl (by decide) (by omega) (by decide) mo_st28 ?_
        refine gw_iinc C (v := nI (i + 1)) (lv2 := [(1, iN (i + 1)), (0, .ref (o))]) 0 dX11_makeKinds_22 rfl (nI_add _ _) (by omega) rfl ?_
        refine gw_goto C 2 dX11_makeKinds_25 (by decide) ?_
        refine gw_lv (lv2 := [(1, iN (i + 1)), (0, .ref (o))]) [0, 1] rfl ?_
        exact gw_ws (congrArg (mo_ws o ad cI cB cS) (by rfl)) (ihi (i + 1) (by omega))
  refine gw_lv (lv2 := [(1, iN (0)), (0, .ref (o))]) [0, 1] rfl ?_
  exact lp (40320 - 0) 0 (by omega)
