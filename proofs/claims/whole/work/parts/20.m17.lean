/-- a loop of n rounds from i on -/
def mo_lp (f : Nat → (Nat → Nat → Nat) → Nat → Nat → Nat) : Nat → Nat → (Nat → Nat → Nat) → Nat → Nat → Nat
  | 0, _, M => M
  | n + 1, i, M => mo_lp f n (i + 1) (f i M)
theorem mo_up_lt {M : Nat → Nat → Nat} {k' i v k x c : Nat} (h : M k x < c) (hv : k = k' → v < c) : mo_up M k' i v k x < c := by
  unfold mo_up
  split
  · rename_i e
    split
    · exact hv e
    · rw [← e]; exact h
  · exact h
def fc_1 (t p : Nat) (M : Nat → Nat → Nat) : Nat → Nat → Nat := mo_up M 10 (8 * t + p) p
def fc_2 (t p : Nat) (M : Nat → Nat → Nat) : Nat → Nat → Nat := mo_up M 12 (12 * t + p) p
def fc_3 (fc t k : Nat) (M : Nat → Nat → Nat) : Nat → Nat → Nat := mo_up (mo_up (mo_up (mo_up M 10 (8 * t + M 36 ((k + 1) % 4)) (M 36 k)) 11 (8 * t + M 36 ((k + 1) % 4)) (if fc < 2 then 0 else if M 36 k / 2 ^ 2 = M 36 ((k + 1) % 4) / 2 ^ 2 then 1 else 2)) 12 (12 * t + mo_btw (M 36 ((k + 1) % 4)) (M 36 ((k + 2) % 4))) (mo_btw (M 36 k) (M 36 ((k + 1) % 4)))) 13 (12 * t + mo_btw (M 36 ((k + 1) % 4)) (M 36 ((k + 2) % 4))) (if 3 < fc then 1 else 0)
def fc_4 (t nn p : Nat) (M : Nat → Nat → Nat) : Nat → Nat → Nat := mo_up (mo_up M 10 (8 * (t + nn) + p) (M 10 (8 * (t + nn - 1) + M 10 (8 * t + p)))) 11 (8 * (t + nn) + p) ((M 11 (8 * (t + nn - 1) + M 10 (8 * t + p)) + M 11 (8 * t + p)) % 3)
def fc_5 (t nn p : Nat) (M : Nat → Nat → Nat) : Nat → Nat → Nat := mo_up (mo_up M 12 (12 * (t + nn) + p) (M 12 (12 * (t + nn - 1) + M 12 (12 * t + p)))) 13 (12 * (t + nn) + p) (M 13 (12 * (t + nn - 1) + M 12 (12 * t + p)) ^^^ M 13 (12 * t + p))
def fc_6 (t k : Nat) (M : Nat → Nat → Nat) : Nat → Nat → Nat := mo_lp (fc_5 t (1 + k)) 12 0 (mo_lp (fc_4 t (1 + k)) 8 0 M)
def fc_0 (a b d f : Nat) (M : Nat → Nat → Nat) : Nat → Nat → Nat := mo_up (mo_up (mo_up (mo_up M 36 0 a) 36 1 b) 36 2 d) 36 3 f
def fc_A (fc a b d f : Nat) (M : Nat → Nat → Nat) : Nat → Nat → Nat := mo_lp (fc_6 (3 * fc)) 2 0 (mo_lp (fc_3 fc (3 * fc)) 4 0 (mo_lp (fc_2 (3 * fc)) 12 0 (mo_lp (fc_1 (3 * fc)) 8 0 (fc_0 a b d f M))))
theorem mo_btw_lt : ∀ a, a < 8 → ∀ b, b < 8 → mo_btw a b < 12 := by decide +kernel
/-- what the loops of face keep: the row, the first turn's tables, small twists -/
def fc_I (t : Nat) (M : Nat → Nat → Nat) : Prop := (∀ j, j < 4 → M 36 j < 8) ∧ (∀ p, p < 8 → M 10 (8 * t + p) < 8) ∧ (∀ j, j < 144 → M 11 j < 3) ∧ ∀ p, p < 12 → M 12 (12 * t + p) < 12
def fc_I1 (t i : Nat) (M : Nat → Nat → Nat) : Prop := (∀ j, j < 4 → M 36 j < 8) ∧ (∀ p, p < i → M 10 (8 * t + p) < 8) ∧ (∀ j, j < 144 → M 11 j < 3)
def fc_I2 (t i : Nat) (M : Nat → Nat → Nat) : Prop := fc_I1 t 8 M ∧ ∀ p, p < i → M 12 (12 * t + p) < 12
theorem fc_1_I {t i : Nat} {M : Nat → Nat → Nat} (hi : i < 8) (h : fc_I1 t i M) : fc_I1 t (i + 1) (fc_1 t i M) := by
  refine ⟨fun j hj => mo_up_lt (h.1 j hj) (fun e => by omega), fun p hp => ?_, fun j hj => mo_up_lt (h.2.2 j hj) (fun e => by omega)⟩
  by_cases e : p = i
  · subst e; simp [fc_1, mo_up]; omega
  · exact mo_up_lt (h.2.1 p (by omega)) (fun _ => hi)
theorem fc_2_I {t i : Nat} {M : Nat → Nat → Nat} (hi : i < 12) (h : fc_I2 t i M) : fc_I2 t (i + 1) (fc_2 t i M) := by
  refine ⟨⟨fun j hj => mo_up_lt (h.1.1 j hj) (fun e => by omega), fun p hp => mo_up_lt (h.1.2.1 p hp) (fun e => by omega), fun j hj => mo_up_lt (h.1.2.2 j hj) (fun e => by omega)⟩, fun p hp => ?_⟩
  by_cases e : p = i
  · subst e; simp [fc_2, mo_up]; omega
  · exact mo_up_lt (h.2 p (by omega)) (fun _ => hi)
theorem fc_3_I {fc t k : Nat} {M : Nat → Nat → Nat} (hk : k < 4) (h : fc_I t M) : fc_I t (fc_3 fc t k M) := by
  have a0 := h.1 k hk
  have a1 := h.1 ((k + 1) % 4) (by omega)
  have b1 := mo_btw_lt _ a0 _ a1
  refine ⟨fun j hj => ?_, fun p hp => ?_, fun j hj => ?_, fun p hp => ?_⟩
  · exact mo_up_lt (mo_up_lt (mo_up_lt (mo_up_lt (h.1 j hj) (fun e => by omega)) (fun e => by omega)) (fun e => by omega)) (fun e => by omega)
  · exact mo_up_lt (mo_up_lt (mo_up_lt (mo_up_lt (h.2.1 p hp) (fun _ => a0)) (fun e => by omega)) (fun e => by omega)) (fun e => by omega)
  · exact mo_up_lt (mo_up_lt (mo_up_lt (mo_up_lt (h.2.2.1 j hj) (fun e => by omega)) (fun _ => by split; omega; split <;> omega)) (fun e => by omega)) (fun e => by omega)
  · exact mo_up_lt (mo_up_lt (mo_up_lt (mo_up_lt (h.2.2.2 p hp) (fun e => by omega)) (fun e => by omega)) (fun _ => b1)) (fun e => by omega)
theorem mo_up_ne {M : Nat → Nat → Nat} {k' i v k x : Nat} (h : k ≠ k' ∨ x ≠ i) : mo_up M k' i v k x = M k x := by
  unfold mo_up
  split
  · rename_i e
    split
    · omega
    · rw [e]
  · rfl
theorem fc_4_I {t nn p : Nat} {M : Nat → Nat → Nat} (hn : 1 ≤ nn) (hp : p < 8) (h : fc_I t M) : fc_I t (fc_4 t nn p M) := by
  refine ⟨fun j hj => ?_, fun q hq => ?_, fun j hj => ?_, fun q hq => ?_⟩
  · exact mo_up_lt (mo_up_lt (h.1 j hj) (fun e => by omega)) (fun e => by omega)
  · rw [fc_4, mo_up_ne (by omega), mo_up_ne (by omega)]; exact h.2.1 q hq
  · exact mo_up_lt (mo_up_lt (h.2.2.1 j hj) (fun e => by omega)) (fun _ => Nat.mod_lt _ (by decide))
  · exact mo_up_lt (mo_up_lt (h.2.2.2 q hq) (fun e => by omega)) (fun e => by omega)
theorem fc_5_I {t nn p : Nat} {M : Nat → Nat → Nat} (hn : 1 ≤ nn) (hp : p < 12) (h : fc_I t M) : fc_I t (fc_5 t nn p M) := by
  refine ⟨fun j hj => ?_, fun q hq => ?_, fun j hj => ?_, fun q hq => ?_⟩
  · exact mo_up_lt (mo_up_lt (h.1 j hj) (fun e => by omega)) (fun e => by omega)
  · exact mo_up_lt (mo_up_lt (h.2.1 q hq) (fun e => by omega)) (fun e => by omega)
  · exact mo_up_lt (mo_up_lt (h.2.2.1 j hj) (fun e => by omega)) (fun e => by omega)
  · rw [fc_5, mo_up_ne (by omega), mo_up_ne (by omega)]; exact h.2.2.2 q hq
theorem mo_lp_I {f : Nat → (Nat → Nat → Nat) → Nat → Nat → Nat} {I : (Nat → Nat → Nat) → Prop} (b : Nat) (hf : ∀ i M, i < b → I M → I (f i M)) : ∀ n i M, i + n = b → I M → I (mo_lp f n i M) := by
  intro n
  induction n with
  | zero => intro i M _ h; exact h
  | succ n ih => intro i M hi h; exact ih (i + 1) (f i M) (by omega) (hf i M (by omega) h)
theorem fc_6_I {t k : Nat} {M : Nat → Nat → Nat} (h : fc_I t M) : fc_I t (fc_6 t k M) :=
  mo_lp_I 12 (fun _ _ hi h => fc_5_I (by omega) hi h) 12 0 _ rfl (mo_lp_I 8 (fun _ _ hi h => fc_4_I (by omega) hi h) 8 0 _ rfl h)
theorem in_X11_face : ∀ w ∈ wsX110, w ∈ wsX11_face := fun _ h => List.mem_cons_of_mem _ (List.mem_append_right _ h)
theorem lk_X11_face_40 : Cond.fieldLink RX11 40 "StageCubeModel" "cornerFrom" "[I" ∈ wsX11_face := by decide +kernel
theorem lk_X11_face_43 : Cond.fieldLink RX11 43 "StageCubeModel" "cornerMore" "[I" ∈ wsX11_face := by decide +kernel
theorem lk_X11_face_46 : Cond.fieldLink RX11 46 "StageCubeModel" "edgeFrom" "[I" ∈ wsX11_face := by decide +kernel
theorem lk_X11_face_49 : Cond.fieldLink RX11 49 "StageCubeModel" "edgeMore" "[I" ∈ wsX11_face := by decide +kernel
theorem lk_X11_face_112 : Cond.fieldLink RX11 112 "StageCubeModel" "row" "[I" ∈ wsX11_face := by decide +kernel
set_option maxHeartbeats 4000000 in
set_option maxRecDepth 100000 in
theorem c_face (l : Launch) (D : va_G) (cI cB cS cJ cF cG : ClassId) (zz : (Nat → Prop) → State → Heap → Prop) (hz : gw_zT zz) (o : Nat) (ad : Nat → Nat) (N : Nat → Nat → Nat) (fc a b d f : Nat) (hfc : fc < 6) (ha : a < 8) (hb : b < 8) (hd : d < 8) (hf : f < 8) (h11 : ∀ j, j < 144 → N 11 j < 3) : gw_CV l yX11_face wsX11_face 1 26 0 0 D (mo_ty cI cB cS cJ cF cG) zz (mo_ws o ad cI cB cS N) [.ref o, iN fc, iN a, iN b, iN d, iN f] (fun N' => N' = fc_A fc a b d f N) (fun N' => mo_ws o ad cI cB cS N') := by
  refine gw_CV.of (cc := cX11_face) (maxL := 12) hz (by decide) rfl (Nat.le_of_ble_eq_true rfl) ?_
  intro K C hkl hkn hkR hkD hmn ret
  have C : gw_x K cX11_face RX11 wsX11_face (mo_ty cI cB cS cJ cF cG) zz := C
  subst hkl hkD
  refine gw_aload_n C 0 dX11_face_0 rfl rfl ?_
  refine gw_get C 0 36 in_X11_face dX11_face_1 lk_X11_face_112 rfl rfl (by decide) rfl rfl ?_
  refine gw_astore C (lv2 := [(6, .ref (ad 36)), (0, .ref (o)), (1, iN (fc)), (2, iN (a)), (3, iN (b)), (4, iN (d)), (5, iN (f))]) dX11_face_4 (by omega) rfl ?_
  refine gw_aload C 0 dX11_face_6 rfl ?_
  refine gw_iconst C 0 dX11_face_8 (by decide) ?_
  refine gw_iload_n C 3 dX11_face_9 rfl rfl ?_
  refine gw_ist C 33 0 dX11_face_10 rfl rfl (by decide) (by omega) mo_st36 ?_
  refine gw_aload C 0 dX11_face_11 rfl ?_
  refine gw_iconst C 1 dX11_face_13 (by decide) ?_
  refine gw_iload_n C 4 dX11_face_14 rfl rfl ?_
  refine gw_ist C 33 0 dX11_face_15 rfl rfl (by decide) (by omega) mo_st36 ?_
  refine gw_aload C 0 dX11_face_16 rfl ?_
  refine gw_iconst C 2 dX11_face_18 (by decide) ?_
  refine gw_iload C 5 dX11_face_19 rfl ?_
  refine gw_ist C 33 0 dX11_face_21 rfl rfl (by decide) (by omega) mo_st36 ?_
  refine gw_aload C 0 dX11_face_22 rfl ?_
  refine gw_iconst C 3 dX11_face_24 (by decide) ?_
  refine gw_iload C 6 dX11_face_25 rfl ?_
  refine gw_ist C 33 0 dX11_face_27 rfl rfl (by decide) (by omega) mo_st36 ?_
  refine gw_iconst C 3 dX11_face_28 (by decide) ?_
  refine gw_iload_n C 2 dX11_face_29 rfl rfl ?_
  refine gw_imul C dX11_face_30 ?_
  refine gw_istore C (lv2 := [(7, iN ((3) * (fc))), (6, .ref (ad 36)), (0, .ref (o)), (1, iN (fc)), (2, iN (a)), (3, iN (b)), (4, iN (d)), (5, iN (f))]) dX11_face_31 (by omega) rfl ?_
  refine gw_iconst C 0 dX11_face_33 (by decide) ?_
  refine gw_istore C (lv2 := [(8, iN (0)), (7, iN ((3) * (fc))), (6, .ref (ad 36)), (0, .ref (o)), (1, iN (fc)), (2, iN (a)), (3, iN (b)), (4, iN (d)), (5, iN (f))]) dX11_face_34 (by omega) rfl ?_
  rw [show mo_up (mo_up (mo_up (mo_up N 36 0 a) 36 1 b) 36 2 d) 36 3 f = fc_0 a b d f N from rfl]
  obtain ⟨t, et⟩ : ∃ t, t = 3 * fc := ⟨_, rfl⟩
  rw [← et]
  have htl : t + 2 < 18 := by omega
  have i0 : fc_I1 t 0 (fc_0 a b d f N) := ⟨fun j hj => by rcases (show j = 0 ∨ j = 1 ∨ j = 2 ∨ j = 3 by omega) with e | e | e | e <;> subst e <;> simp [fc_0, mo_up] <;> omega, fun p hp => by omega, fun j hj => h11 j hj⟩
  obtain ⟨Z1, e1⟩ : ∃ Z, Z = mo_lp (fc_1 t) 8 0 (fc_0 a b d f N) := ⟨_, rfl⟩
  obtain ⟨Z2, e2⟩ : ∃ Z, Z = mo_lp (fc_2 t) 12 0 Z1 := ⟨_, rfl⟩
  obtain ⟨Z3, e3⟩ : ∃ Z, Z = mo_lp (fc_3 fc t) 4 0 Z2 := ⟨_, rfl⟩
  obtain ⟨Z4, e4⟩ : ∃ Z, Z = mo_lp (fc_6 t) 2 0 Z3 := ⟨_, rfl⟩
  have eA : Z4 = fc_A fc a b d f N := by rw [e4, e3, e2, e1, et]; rfl
  have lp1 : ∀ (np p : Nat) (M : Nat → Nat → Nat), p + np = 8 → fc_I1 t p M → mo_lp (fc_1 t) np p M = Z1 → gw_G K (mo_ws o ad cI cB cS M) 0 0 36 [(8, iN (p)), (7, iN (t)), (6, .ref (ad 36)), (0, .ref (o)), (1, iN (fc))] [] := by
    intro np
    induction np with
    | zero =>
      intro p M hip hI hZ
      refine gw_iload C 0 dX11_face_36 rfl ?_
      refine gw_bipush C 8 dX11_face_38 (by decide) ?_
      refine gw_icmp_ge C 64 dX11_face_40 (by decide) (by omega) (by omega) (fun h61 => ?_) (fun h61 => ?_)
      ·
        have eMZ : M = Z1 := hZ
        have hI8 : fc_I1 t 8 M := by rw [show 8 = p by omega]; exact hI
        rw [eMZ] at hI8 ⊢
        refine gw_iconst C 0 dX11_face_64 (by decide) ?_
        refine gw_istore C (lv2 := [(8, iN (0)), (7, iN (t)), (6, .ref (ad 36)), (0, .ref (o)), (1, iN (fc))]) dX11_face_65 (by omega) rfl ?_
        have lp2 : ∀ (nq q : Nat) (M : Nat → Nat → Nat), q + nq = 12 → fc_I2 t q M → mo_lp (fc_2 t) nq q M = Z2 → gw_G K (mo_ws o ad cI cB cS M) 0 0 67 [(8, iN (q)), (7, iN (t)), (6, .ref (ad 36)), (0, .ref (o)), (1, iN (fc))] [] := by
          intro nq
          induction nq with
          | zero =>
            intro q M hiq hI hZ
            refine gw_iload C 0 dX11_face_67 rfl ?_
            refine gw_bipush C 12 dX11_face_69 (by decide) ?_
            refine gw_icmp_ge C 95 dX11_face_71 (by decide) (by omega) (by omega) (fun h62 => ?_) (fun h62 => ?_)
            ·
              have eMZ : M = Z2 := hZ
              have hJ : fc_I t M := ⟨hI.1.1, hI.1.2.1, hI.1.2.2, fun p hp => hI.2 p (by omega)⟩
              rw [eMZ] at hJ ⊢
              refine gw_iconst C 0 dX11_face_95 (by decide) ?_
              refine gw_istore C (lv2 := [(8, iN (0)), (7, iN (t)), (6, .ref (ad 36)), (0, .ref (o)), (1, iN (fc))]) dX11_face_96 (by omega) rfl ?_
              have lp3 : ∀ (nk k : Nat) (M : Nat → Nat → Nat), k + nk = 4 → fc_I t M → mo_lp (fc_3 fc t) nk k M = Z3 → gw_G K (mo_ws o ad cI cB cS M) 0 0 98 [(8, iN (k)), (7, iN (t)), (6, .ref (ad 36)), (0, .ref (o)), (1, iN (fc))] [] := by
                intro nk
                induction nk with
                | zero =>
                  intro k M hik hI hZ
                  refine gw_iload C 0 dX11_face_98 rfl ?_
                  refine gw_iconst C 4 dX11_face_100 (by decide) ?_
                  refine gw_icmp_ge C 240 dX11_face_101 (by decide) (by omega) (by omega) (fun h63 => ?_) (fun h63 => ?_)
                  ·
                    have eMZ : M = Z3 := hZ
                    rw [eMZ] at hI ⊢
                    refine gw_iconst C 1 dX11_face_240 (by decide) ?_
                    refine gw_istore C (lv2 := [(8, iN (1)), (7, iN (t)), (6, .ref (ad 36)), (0, .ref (o)), (1, iN (fc))]) dX11_face_241 (by omega) rfl ?_
                    refine gw_lv (lv2 := [(8, iN (1 + 0)), (7, iN t), (6, .ref (ad 36)), (0, .ref o), (1, iN fc)]) [0, 1, 2, 3, 4] rfl ?_
                    have lp4 : ∀ (nk k : Nat) (M : Nat → Nat → Nat), k + nk = 2 → fc_I t M → mo_lp (fc_6 t) nk k M = Z4 → gw_G K (mo_ws o ad cI cB cS M) 0 0 243 [(8, iN (1 + k)), (7, iN (t)), (6, .ref (ad 36)), (0, .ref (o)), (1, iN (fc))] [] := by
                      intro nk
                      induction nk with
                      | zero =>
                        intro k M hik hI4 hZ
                        refine gw_iload C 0 dX11_face_243 rfl ?_
                        refine gw_iconst C 3 dX11_face_245 (by decide) ?_
                        refine gw_icmp_ge C 483 dX11_face_246 (by decide) (by omega) (by omega) (fun h64 => ?_) (fun h64 => ?_)
                        ·
                          have eMZ : M = Z4 := hZ
                          exact ret _ dX11_face_483 rfl (by rw [eMZ, eA]) (Nat.le_refl 0) (Nat.le_refl 0)
                        ·
                          exact absurd h64 (by omega)
                      | succ nk ihk =>
                        intro k M hik hI4 hZ
                        rw [mo_lp] at hZ
                        refine gw_iload C 0 dX11_face_243 rfl ?_
                        refine gw_iconst C 3 dX11_face_245 (by decide) ?_
                        refine gw_icmp_ge C 483 dX11_face_246 (by decide) (by omega) (by omega) (fun h65 => ?_) (fun h65 => ?_)
                        ·
                          exact absurd h65 (by omega)
                        ·
                          refine gw_iconst C 0 dX11_face_249 (by decide) ?_
                          refine gw_istore C (lv2 := [(9, iN (0)), (8, iN (1 + k)), (7, iN (t)), (6, .ref (ad 36)), (0, .ref (o)), (1, iN (fc))]) dX11_face_250 (by omega) rfl ?_
                          obtain ⟨Y1, y1⟩ : ∃ Y, Y = mo_lp (fc_4 t (1 + k)) 8 0 M := ⟨_, rfl⟩
                          obtain ⟨Y2, y2⟩ : ∃ Y, Y = mo_lp (fc_5 t (1 + k)) 12 0 Y1 := ⟨_, rfl⟩
                          have hZ6 : mo_lp (fc_6 t) nk (k + 1) Y2 = Z4 := by rw [y2, y1]; exact hZ
                          have lp5 : ∀ (np p : Nat) (M : Nat → Nat → Nat), p + np = 8 → fc_I t M → mo_lp (fc_4 t (1 + k)) np p M = Y1 → gw_G K (mo_ws o ad cI cB cS M) 0 0 252 [(9, iN (p)), (8, iN (1 + k)), (7, iN (t)), (6, .ref (ad 36)), (0, .ref (o)), (1, iN (fc))] [] := by
                            intro np
                            induction np with
                            | zero =>
                              intro p M hip hI5 hZ
                              refine gw_iload C 0 dX11_face_252 rfl ?_
                              refine gw_bipush C 8 dX11_face_254 (by decide) ?_
                              refine gw_icmp_ge C 364 dX11_face_256 (by decide) (by omega) (by omega) (fun h66 => ?_) (fun h66 => ?_)
                              ·
                                have eMZ : M = Y1 := hZ
                                rw [eMZ] at hI5 ⊢
                                refine gw_iconst C 0 dX11_face_364 (by decide) ?_
                                refine gw_istore C (lv2 := [(9, iN (0)), (8, iN (1 + k)), (7, iN (t)), (6, .ref (ad 36)), (0, .ref (o)), (1, iN (fc))]) dX11_face_365 (by omega) rfl ?_
                                have lp6 : ∀ (nq q : Nat) (M : Nat → Nat → Nat), q + nq = 12 → fc_I t M → mo_lp (fc_5 t (1 + k)) nq q M = Y2 → gw_G K (mo_ws o ad cI cB cS M) 0 0 367 [(9, iN (q)), (8, iN (1 + k)), (7, iN (t)), (6, .ref (ad 36)), (0, .ref (o)), (1, iN (fc))] [] := by
                                  intro nq
                                  induction nq with
                                  | zero =>
                                    intro q M hiq hI6 hZ
                                    refine gw_iload C 0 dX11_face_367 rfl ?_
                                    refine gw_bipush C 12 dX11_face_369 (by decide) ?_
                                    refine gw_icmp_ge C 477 dX11_face_371 (by decide) (by omega) (by omega) (fun h67 => ?_) (fun h67 => ?_)
                                    ·
                                      have eMZ : M = Y2 := hZ
                                      rw [eMZ] at hI6 ⊢
                                      refine gw_iinc C (v := nI (1 + k + 1)) (lv2 := [(8, iN (1 + k + 1)), (9, iN (q)), (7, iN (t)), (6, .ref (ad 36)), (0, .ref (o)), (1, iN (fc))]) 1 dX11_face_477 rfl (nI_add _ _) (by omega) rfl ?_
                                      refine gw_goto C 243 dX11_face_480 (by decide) ?_
                                      refine gw_lv (lv2 := [(8, iN (1 + k + 1)), (7, iN (t)), (6, .ref (ad 36)), (0, .ref (o)), (1, iN (fc))]) [0, 2, 3, 4, 5] rfl ?_
                                      exact ihk (k + 1) Y2 (by omega) hI6 hZ6
                                    ·
                                      exact absurd h67 (by omega)
                                  | succ nq ihq =>
                                    intro q M hiq hI6 hZ
                                    rw [mo_lp] at hZ
                                    refine gw_iload C 0 dX11_face_367 rfl ?_
                                    refine gw_bipush C 12 dX11_face_369 (by decide) ?_
                                    refine gw_icmp_ge C 477 dX11_face_371 (by decide) (by omega) (by omega) (fun h68 => ?_) (fun h68 => ?_)
                                    ·
                                      exact absurd h68 (by omega)
                                    ·
                                      have c0 := hI6.2.2.2 q (by omega)
                                      refine gw_aload_n C 4 dX11_face_374 rfl rfl ?_
                                      refine gw_get C 0 12 in_X11_face dX11_face_375 lk_X11_face_46 rfl rfl (by decide) rfl rfl ?_
                                      refine gw_bipush C 12 dX11_face_378 (by decide) ?_
                                      refine gw_iload C 2 dX11_face_380 rfl ?_
                                      refine gw_imul C dX11_face_382 ?_
                                      refine gw_iload C 0 dX11_face_383 rfl ?_
                                      refine gw_iadd C dX11_face_385 ?_
                                      refine gw_ild C (v := nI (M 12 (((12) * (t)) + (q)))) 13 0 dX11_face_386 rfl rfl (by decide) (by omega) (by first | rfl | simp [mo_up]) ?_
                                      refine gw_istore C (lv2 := [(10, iN (M 12 (((12) * (t)) + (q)))), (9, iN (q)), (8, iN (1 + k)), (7, iN (t)), (6, .ref (ad 36)), (0, .ref (o)), (1, iN (fc))]) dX11_face_387 (by omega) rfl ?_
                                      refine gw_aload_n C 5 dX11_face_389 rfl rfl ?_
                                      refine gw_get C 0 12 in_X11_face dX11_face_390 lk_X11_face_46 rfl rfl (by decide) rfl rfl ?_
                                      refine gw_bipush C 12 dX11_face_393 (by decide) ?_
                                      refine gw_iload C 3 dX11_face_395 rfl ?_
                                      refine gw_iload C 2 dX11_face_397 rfl ?_
                                      refine gw_iadd C dX11_face_399 ?_
                                      refine gw_imul C dX11_face_400 ?_
                                      refine gw_iload C 1 dX11_face_401 rfl ?_
                                      refine gw_iadd C dX11_face_403 ?_
                                      refine gw_aload_n C 5 dX11_face_404 rfl rfl ?_
                                      refine gw_get C 0 12 in_X11_face dX11_face_405 lk_X11_face_46 rfl rfl (by decide) rfl rfl ?_
                                      refine gw_bipush C 12 dX11_face_408 (by decide) ?_
                                      refine gw_iload C 3 dX11_face_410 rfl ?_
                                      refine gw_iload C 2 dX11_face_412 rfl ?_
                                      refine gw_iadd C dX11_face_414 ?_
                                      refine gw_iconst C 1 dX11_face_415 (by decide) ?_
                                      refine gw_isub C dX11_face_416 (by omega) ?_
                                      refine gw_imul C dX11_face_417 ?_
                                      refine gw_iload C 0 dX11_face_418 rfl ?_
                                      refine gw_iadd C dX11_face_420 ?_
                                      refine gw_ild C (v := nI (M 12 (((12) * (((t) + (1 + k)) - (1))) + (M 12 (((12) * (t)) + (q)))))) 13 0 dX11_face_421 rfl rfl (by decide) (by omega) (by first | rfl | simp [mo_up]) ?_
                                      refine gw_ist C 13 0 dX11_face_422 rfl rfl (by decide) (by omega) mo_st12 ?_
                                      refine gw_aload_n C 5 dX11_face_423 rfl rfl ?_
                                      refine gw_get C 0 13 in_X11_face dX11_face_424 lk_X11_face_49 rfl rfl (by decide) rfl rfl ?_
                                      refine gw_bipush C 12 dX11_face_427 (by decide) ?_
                                      refine gw_iload C 3 dX11_face_429 rfl ?_
                                      refine gw_iload C 2 dX11_face_431 rfl ?_
                                      refine gw_iadd C dX11_face_433 ?_
                                      refine gw_imul C dX11_face_434 ?_
                                      refine gw_iload C 1 dX11_face_435 rfl ?_
                                      refine gw_iadd C dX11_face_437 ?_
                                      refine gw_aload_n C 5 dX11_face_438 rfl rfl ?_
                                      refine gw_get C 0 13 in_X11_face dX11_face_439 lk_X11_face_49 rfl rfl (by decide) rfl rfl ?_
                                      refine gw_bipush C 12 dX11_face_442 (by decide) ?_
                                      refine gw_iload C 3 dX11_face_444 rfl ?_
                                      refine gw_iload C 2 dX11_face_446 rfl ?_
                                      refine gw_iadd C dX11_face_448 ?_
                                      refine gw_iconst C 1 dX11_face_449 (by decide) ?_
                                      refine gw_isub C dX11_face_450 (by omega) ?_
                                      refine gw_imul C dX11_face_451 ?_
                                      refine gw_iload C 0 dX11_face_452 rfl ?_
                                      refine gw_iadd C dX11_face_454 ?_
                                      refine gw_ild C (v := nI (M 13 (((12) * (((t) + (1 + k)) - (1))) + (M 12 (((12) * (t)) + (q)))))) 14 0 dX11_face_455 rfl rfl (by decide) (by omega) (by first | rfl | simp [mo_up]) ?_
                                      refine gw_aload_n C 5 dX11_face_456 rfl rfl ?_
                                      refine gw_get C 0 13 in_X11_face dX11_face_457 lk_X11_face_49 rfl rfl (by decide) rfl rfl ?_
                                      refine gw_bipush C 12 dX11_face_460 (by decide) ?_
                                      refine gw_iload C 3 dX11_face_462 rfl ?_
                                      refine gw_imul C dX11_face_464 ?_
                                      refine gw_iload C 1 dX11_face_465 rfl ?_
                                      refine gw_iadd C dX11_face_467 ?_
                                      refine gw_ild C (v := nI (M 13 (((12) * (t)) + (q)))) 14 0 dX11_face_468 rfl rfl (by decide) (by omega) (by first | rfl | simp [mo_up]) ?_
                                      refine gw_ixor C dX11_face_469 ?_
                                      refine gw_ist C 14 0 dX11_face_470 rfl rfl (by decide) (by omega) mo_st13 ?_
                                      refine gw_iinc C (v := nI (q + 1)) (lv2 := [(9, iN (q + 1)), (10, iN (M 12 (((12) * (t)) + (q)))), (8, iN (1 + k)), (7, iN (t)), (6, .ref (ad 36)), (0, .ref (o)), (1, iN (fc))]) 1 dX11_face_471 rfl (nI_add _ _) (by omega) rfl ?_
                                      refine gw_goto C 367 dX11_face_474 (by decide) ?_
                                      refine gw_lv (lv2 := [(9, iN (q + 1)), (8, iN (1 + k)), (7, iN (t)), (6, .ref (ad 36)), (0, .ref (o)), (1, iN (fc))]) [0, 2, 3, 4, 5, 6] rfl ?_
                                      refine gw_ws (congrArg (mo_ws o ad cI cB cS) (a₂ := fc_5 t (1 + k) q M) ?_) (ihq (q + 1) _ (by omega) (fc_5_I (by omega) (by omega) hI6) hZ)
                                      rw [fc_5]
                                refine gw_lv (lv2 := [(9, iN (0)), (8, iN (1 + k)), (7, iN (t)), (6, .ref (ad 36)), (0, .ref (o)), (1, iN (fc))]) [0, 1, 2, 3, 4, 5] rfl ?_
                                exact lp6 12 0 Y1 rfl hI5 y2.symm
                              ·
                                exact absurd h66 (by omega)
                            | succ np ihp =>
                              intro p M hip hI5 hZ
                              rw [mo_lp] at hZ
                              refine gw_iload C 0 dX11_face_252 rfl ?_
                              refine gw_bipush C 8 dX11_face_254 (by decide) ?_
                              refine gw_icmp_ge C 364 dX11_face_256 (by decide) (by omega) (by omega) (fun h69 => ?_) (fun h69 => ?_)
                              ·
                                exact absurd h69 (by omega)
                              ·
                                have c0 := hI5.2.1 p (by omega)
                                have c1 := hI5.2.2.1 (8 * t + p) (by omega)
                                have c2 := hI5.2.2.1 (8 * (t + (1 + k) - 1) + M 10 (8 * t + p)) (by omega)
                                refine gw_aload_n C 4 dX11_face_259 rfl rfl ?_
                                refine gw_get C 0 10 in_X11_face dX11_face_260 lk_X11_face_40 rfl rfl (by decide) rfl rfl ?_
                                refine gw_bipush C 8 dX11_face_263 (by decide) ?_
                                refine gw_iload C 2 dX11_face_265 rfl ?_
                                refine gw_imul C dX11_face_267 ?_
                                refine gw_iload C 0 dX11_face_268 rfl ?_
                                refine gw_iadd C dX11_face_270 ?_
                                refine gw_ild C (v := nI (M 10 (((8) * (t)) + (p)))) 11 0 dX11_face_271 rfl rfl (by decide) (by omega) (by first | rfl | simp [mo_up]) ?_
                                refine gw_istore C (lv2 := [(10, iN (M 10 (((8) * (t)) + (p)))), (9, iN (p)), (8, iN (1 + k)), (7, iN (t)), (6, .ref (ad 36)), (0, .ref (o)), (1, iN (fc))]) dX11_face_272 (by omega) rfl ?_
                                refine gw_aload_n C 5 dX11_face_274 rfl rfl ?_
                                refine gw_get C 0 10 in_X11_face dX11_face_275 lk_X11_face_40 rfl rfl (by decide) rfl rfl ?_
                                refine gw_bipush C 8 dX11_face_278 (by decide) ?_
                                refine gw_iload C 3 dX11_face_280 rfl ?_
                                refine gw_iload C 2 dX11_face_282 rfl ?_
                                refine gw_iadd C dX11_face_284 ?_
                                refine gw_imul C dX11_face_285 ?_
                                refine gw_iload C 1 dX11_face_286 rfl ?_
                                refine gw_iadd C dX11_face_288 ?_
                                refine gw_aload_n C 5 dX11_face_289 rfl rfl ?_
                                refine gw_get C 0 10 in_X11_face dX11_face_290 lk_X11_face_40 rfl rfl (by decide) rfl rfl ?_
                                refine gw_bipush C 8 dX11_face_293 (by decide) ?_
                                refine gw_iload C 3 dX11_face_295 rfl ?_
                                refine gw_iload C 2 dX11_face_297 rfl ?_
                                refine gw_iadd C dX11_face_299 ?_
                                refine gw_iconst C 1 dX11_face_300 (by decide) ?_
                                refine gw_isub C dX11_face_301 (by omega) ?_
                                refine gw_imul C dX11_face_302 ?_
                                refine gw_iload C 0 dX11_face_303 rfl ?_
                                refine gw_iadd C dX11_face_305 ?_
                                refine gw_ild C (v := nI (M 10 (((8) * (((t) + (1 + k)) - (1))) + (M 10 (((8) * (t)) + (p)))))) 11 0 dX11_face_306 rfl rfl (by decide) (by omega) (by first | rfl | simp [mo_up]) ?_
                                refine gw_ist C 11 0 dX11_face_307 rfl rfl (by decide) (by omega) mo_st10 ?_
                                refine gw_aload_n C 5 dX11_face_308 rfl rfl ?_
                                refine gw_get C 0 11 in_X11_face dX11_face_309 lk_X11_face_43 rfl rfl (by decide) rfl rfl ?_
                                refine gw_bipush C 8 dX11_face_312 (by decide) ?_
                                refine gw_iload C 3 dX11_face_314 rfl ?_
                                refine gw_iload C 2 dX11_face_316 rfl ?_
                                refine gw_iadd C dX11_face_318 ?_
                                refine gw_imul C dX11_face_319 ?_
                                refine gw_iload C 1 dX11_face_320 rfl ?_
                                refine gw_iadd C dX11_face_322 ?_
                                refine gw_aload_n C 5 dX11_face_323 rfl rfl ?_
                                refine gw_get C 0 11 in_X11_face dX11_face_324 lk_X11_face_43 rfl rfl (by decide) rfl rfl ?_
                                refine gw_bipush C 8 dX11_face_327 (by decide) ?_
                                refine gw_iload C 3 dX11_face_329 rfl ?_
                                refine gw_iload C 2 dX11_face_331 rfl ?_
                                refine gw_iadd C dX11_face_333 ?_
                                refine gw_iconst C 1 dX11_face_334 (by decide) ?_
                                refine gw_isub C dX11_face_335 (by omega) ?_
                                refine gw_imul C dX11_face_336 ?_
                                refine gw_iload C 0 dX11_face_337 rfl ?_
                                refine gw_iadd C dX11_face_339 ?_
                                refine gw_ild C (v := nI (M 11 (((8) * (((t) + (1 + k)) - (1))) + (M 10 (((8) * (t)) + (p)))))) 12 0 dX11_face_340 rfl rfl (by decide) (by omega) (by first | rfl | simp [mo_up]) ?_
                                refine gw_aload_n C 5 dX11_face_341 rfl rfl ?_
                                refine gw_get C 0 11 in_X11_face dX11_face_342 lk_X11_face_43 rfl rfl (by decide) rfl rfl ?_
                                refine gw_bipush C 8 dX11_face_345 (by decide) ?_
                                refine gw_iload C 3 dX11_face_347 rfl ?_
                                refine gw_imul C dX11_face_349 ?_
                                refine gw_iload C 1 dX11_face_350 rfl ?_
                                refine gw_iadd C dX11_face_352 ?_
                                refine gw_ild C (v := nI (M 11 (((8) * (t)) + (p)))) 12 0 dX11_face_353 rfl rfl (by decide) (by omega) (by first | rfl | simp [mo_up]) ?_
                                refine gw_iadd C dX11_face_354 ?_
                                refine gw_iconst C 3 dX11_face_355 (by decide) ?_
                                refine gw_irem C dX11_face_356 (by omega) (by omega) (by omega) ?_
                                refine gw_ist C 12 0 dX11_face_357 rfl rfl (by decide) (by omega) mo_st11 ?_
                                refine gw_iinc C (v := nI (p + 1)) (lv2 := [(9, iN (p + 1)), (10, iN (M 10 (((8) * (t)) + (p)))), (8, iN (1 + k)), (7, iN (t)), (6, .ref (ad 36)), (0, .ref (o)), (1, iN (fc))]) 1 dX11_face_358 rfl (nI_add _ _) (by omega) rfl ?_
                                refine gw_goto C 252 dX11_face_361 (by decide) ?_
                                refine gw_lv (lv2 := [(9, iN (p + 1)), (8, iN (1 + k)), (7, iN (t)), (6, .ref (ad 36)), (0, .ref (o)), (1, iN (fc))]) [0, 2, 3, 4, 5, 6] rfl ?_
                                refine gw_ws (congrArg (mo_ws o ad cI cB cS) (a₂ := fc_4 t (1 + k) p M) ?_) (ihp (p + 1) _ (by omega) (fc_4_I (by omega) (by omega) hI5) hZ)
                                rw [fc_4]
                          refine gw_lv (lv2 := [(9, iN (0)), (8, iN (1 + k)), (7, iN (t)), (6, .ref (ad 36)), (0, .ref (o)), (1, iN (fc))]) [0, 1, 2, 3, 4, 5] rfl ?_
                          exact lp5 8 0 M rfl hI4 y1.symm
                    exact lp4 2 0 Z3 rfl hI e4.symm
                  ·
                    exact absurd h63 (by omega)
                | succ nk ihk =>
                  intro k M hik hI hZ
                  rw [mo_lp] at hZ
                  refine gw_iload C 0 dX11_face_98 rfl ?_
                  refine gw_iconst C 4 dX11_face_100 (by decide) ?_
                  refine gw_icmp_ge C 240 dX11_face_101 (by decide) (by omega) (by omega) (fun h70 => ?_) (fun h70 => ?_)
                  ·
                    exact absurd h70 (by omega)
                  ·
                    have a0 := hI.1 k (by omega)
                    have a1 := hI.1 ((k + 1) % 4) (by omega)
                    have a2 := hI.1 ((k + 2) % 4) (by omega)
                    have b1 := mo_btw_lt _ a0 _ a1
                    have b2 := mo_btw_lt _ a1 _ a2
                    refine gw_aload C 2 dX11_face_104 rfl ?_
                    refine gw_iload C 0 dX11_face_106 rfl ?_
                    refine gw_ild C (v := nI (M 36 (k))) 33 0 dX11_face_108 rfl rfl (by decide) (by omega) (by first | rfl | simp [mo_up]) ?_
                    refine gw_istore C (lv2 := [(9, iN (M 36 (k))), (8, iN (k)), (7, iN (t)), (6, .ref (ad 36)), (0, .ref (o)), (1, iN (fc))]) dX11_face_109 (by omega) rfl ?_
                    refine gw_aload C 3 dX11_face_111 rfl ?_
                    refine gw_iload C 1 dX11_face_113 rfl ?_
                    refine gw_iconst C 1 dX11_face_115 (by decide) ?_
                    refine gw_iadd C dX11_face_116 ?_
                    refine gw_iconst C 4 dX11_face_117 (by decide) ?_
                    refine gw_irem C dX11_face_118 (by omega) (by omega) (by omega) ?_
                    refine gw_ild C (v := nI (M 36 (((k) + (1)) % (4)))) 33 0 dX11_face_119 rfl rfl (by decide) (by omega) (by first | rfl | simp [mo_up]) ?_
                    refine gw_istore C (lv2 := [(10, iN (M 36 (((k) + (1)) % (4)))), (9, iN (M 36 (k))), (8, iN (k)), (7, iN (t)), (6, .ref (ad 36)), (0, .ref (o)), (1, iN (fc))]) dX11_face_120 (by omega) rfl ?_
                    refine gw_aload_n C 5 dX11_face_122 rfl rfl ?_
                    refine gw_get C 0 10 in_X11_face dX11_face_123 lk_X11_face_40 rfl rfl (by decide) rfl rfl ?_
                    refine gw_bipush C 8 dX11_face_126 (by decide) ?_
                    refine gw_iload C 3 dX11_face_128 rfl ?_
                    refine gw_imul C dX11_face_130 ?_
                    refine gw_iload C 0 dX11_face_131 rfl ?_
                    refine gw_iadd C dX11_face_133 ?_
                    refine gw_iload C 1 dX11_face_134 rfl ?_
                    refine gw_ist C 11 0 dX11_face_136 rfl rfl (by decide) (by omega) mo_st10 ?_
                    refine gw_aload_n C 5 dX11_face_137 rfl rfl ?_
                    refine gw_get C 0 11 in_X11_face dX11_face_138 lk_X11_face_43 rfl rfl (by decide) rfl rfl ?_
                    refine gw_bipush C 8 dX11_face_141 (by decide) ?_
                    refine gw_iload C 3 dX11_face_143 rfl ?_
                    refine gw_imul C dX11_face_145 ?_
                    refine gw_iload C 0 dX11_face_146 rfl ?_
                    refine gw_iadd C dX11_face_148 ?_
                    refine gw_iload_n C 6 dX11_face_149 rfl rfl ?_
                    refine gw_iconst C 2 dX11_face_150 (by decide) ?_
                    refine gw_icmp_ge C 158 dX11_face_151 (by decide) (by omega) (by omega) (fun h71 => ?_) (fun h71 => ?_)
                    ·
                      refine gw_iload C 1 dX11_face_158 rfl ?_
                      refine gw_iconst C 2 dX11_face_160 (by decide) ?_
                      refine gw_ishr C dX11_face_161 (by omega) (by omega) ?_
                      refine gw_iload C 0 dX11_face_162 rfl ?_
                      refine gw_iconst C 2 dX11_face_164 (by decide) ?_
                      refine gw_ishr C dX11_face_165 (by omega) (by omega) ?_
                      refine gw_icmp_ne C 173 dX11_face_166 (by decide) (by omega) (by omega) (fun h72 => ?_) (fun h72 => ?_)
                      ·
                        refine gw_iconst C 2 dX11_face_173 (by decide) ?_
                        refine gw_ist C 12 0 dX11_face_174 rfl rfl (by decide) (by omega) mo_st11 ?_
                        refine gw_iload C 0 dX11_face_175 rfl ?_
                        refine gw_aload C 4 dX11_face_177 rfl ?_
                        refine gw_iload C 2 dX11_face_179 rfl ?_
                        refine gw_iconst C 2 dX11_face_181 (by decide) ?_
                        refine gw_iadd C dX11_face_182 ?_
                        refine gw_iconst C 4 dX11_face_183 (by decide) ?_
                        refine gw_irem C dX11_face_184 (by omega) (by omega) (by omega) ?_
                        refine gw_ild C (v := nI (M 36 (((k) + (2)) % (4)))) 33 0 dX11_face_185 rfl rfl (by decide) (by omega) (by first | rfl | simp [mo_up]) ?_
                        refine gw_allSI (n := 2) C (c_between (kl K) (kD K) _ zz hz _ (M 36 (((k) + (1)) % (4))) (M 36 (((k) + (2)) % (4))) a1 a2) gX11_face_X11_between rfl (by decide +kernel) dX11_face_186 (by rw [hkR]; decide) (by rw [hkR]; decide) rfl (Nat.le_of_ble_eq_true rfl) rfl (fun rv1 v1 hv1 => ?_)
                        subst hv1
                        refine gw_istore C (lv2 := [(11, iN (mo_btw (M 36 (((k) + (1)) % (4))) (M 36 (((k) + (2)) % (4))))), (10, iN (M 36 (((k) + (1)) % (4)))), (9, iN (M 36 (k))), (8, iN (k)), (7, iN (t)), (6, .ref (ad 36)), (0, .ref (o)), (1, iN (fc))]) dX11_face_189 (by omega) rfl ?_
                        refine gw_aload_n C 6 dX11_face_191 rfl rfl ?_
                        refine gw_get C 0 12 in_X11_face dX11_face_192 lk_X11_face_46 rfl rfl (by decide) rfl rfl ?_
                        refine gw_bipush C 12 dX11_face_195 (by decide) ?_
                        refine gw_iload C 4 dX11_face_197 rfl ?_
                        refine gw_imul C dX11_face_199 ?_
                        refine gw_iload C 0 dX11_face_200 rfl ?_
                        refine gw_iadd C dX11_face_202 ?_
                        refine gw_iload C 2 dX11_face_203 rfl ?_
                        refine gw_iload C 1 dX11_face_205 rfl ?_
                        refine gw_allSI (n := 2) C (c_between (kl K) (kD K) _ zz hz _ (M 36 (k)) (M 36 (((k) + (1)) % (4))) a0 a1) gX11_face_X11_between rfl (by decide +kernel) dX11_face_207 (by rw [hkR]; decide) (by rw [hkR]; decide) rfl (Nat.le_of_ble_eq_true rfl) rfl (fun rv2 v2 hv2 => ?_)
                        subst hv2
                        refine gw_ist C 13 0 dX11_face_210 rfl rfl (by decide) (by omega) mo_st12 ?_
                        refine gw_aload_n C 6 dX11_face_211 rfl rfl ?_
                        refine gw_get C 0 13 in_X11_face dX11_face_212 lk_X11_face_49 rfl rfl (by decide) rfl rfl ?_
                        refine gw_bipush C 12 dX11_face_215 (by decide) ?_
                        refine gw_iload C 4 dX11_face_217 rfl ?_
                        refine gw_imul C dX11_face_219 ?_
                        refine gw_iload C 0 dX11_face_220 rfl ?_
                        refine gw_iadd C dX11_face_222 ?_
                        refine gw_iload_n C 7 dX11_face_223 rfl rfl ?_
                        refine gw_iconst C 3 dX11_face_224 (by decide) ?_
                        refine gw_icmp_le C 232 dX11_face_225 (by decide) (by omega) (by omega) (fun h73 => ?_) (fun h73 => ?_)
                        ·
                          refine gw_iconst C 0 dX11_face_232 (by decide) ?_
                          refine gw_ist C 14 0 dX11_face_233 rfl rfl (by decide) (by omega) mo_st13 ?_
                          refine gw_iinc C (v := nI (k + 1)) (lv2 := [(8, iN (k + 1)), (11, iN (mo_btw (M 36 (((k) + (1)) % (4))) (M 36 (((k) + (2)) % (4))))), (10, iN (M 36 (((k) + (1)) % (4)))), (9, iN (M 36 (k))), (7, iN (t)), (6, .ref (ad 36)), (0, .ref (o)), (1, iN (fc))]) 3 dX11_face_234 rfl (nI_add _ _) (by omega) rfl ?_
                          refine gw_goto C 98 dX11_face_237 (by decide) ?_
                          refine gw_lv (lv2 := [(8, iN (k + 1)), (7, iN (t)), (6, .ref (ad 36)), (0, .ref (o)), (1, iN (fc))]) [0, 4, 5, 6, 7] rfl ?_
                          have q := ihk (k + 1) _ (by omega) (fc_3_I (by omega) hI) hZ
                          rw [fc_3, if_neg (by omega), if_neg (by assumption), if_neg (by omega)] at q
                          exact q
                        ·
                          refine gw_iconst C 1 dX11_face_228 (by decide) ?_
                          refine gw_goto C 233 dX11_face_229 (by decide) ?_
                          refine gw_ist C 14 0 dX11_face_233 rfl rfl (by decide) (by omega) mo_st13 ?_
                          refine gw_iinc C (v := nI (k + 1)) (lv2 := [(8, iN (k + 1)), (11, iN (mo_btw (M 36 (((k) + (1)) % (4))) (M 36 (((k) + (2)) % (4))))), (10, iN (M 36 (((k) + (1)) % (4)))), (9, iN (M 36 (k))), (7, iN (t)), (6, .ref (ad 36)), (0, .ref (o)), (1, iN (fc))]) 3 dX11_face_234 rfl (nI_add _ _) (by omega) rfl ?_
                          refine gw_goto C 98 dX11_face_237 (by decide) ?_
                          refine gw_lv (lv2 := [(8, iN (k + 1)), (7, iN (t)), (6, .ref (ad 36)), (0, .ref (o)), (1, iN (fc))]) [0, 4, 5, 6, 7] rfl ?_
                          have q := ihk (k + 1) _ (by omega) (fc_3_I (by omega) hI) hZ
                          rw [fc_3, if_neg (by omega), if_neg (by assumption), if_pos (by omega)] at q
                          exact q
                      ·
                        refine gw_iconst C 1 dX11_face_169 (by decide) ?_
                        refine gw_goto C 174 dX11_face_170 (by decide) ?_
                        refine gw_ist C 12 0 dX11_face_174 rfl rfl (by decide) (by omega) mo_st11 ?_
                        refine gw_iload C 0 dX11_face_175 rfl ?_
                        refine gw_aload C 4 dX11_face_177 rfl ?_
                        refine gw_iload C 2 dX11_face_179 rfl ?_
                        refine gw_iconst C 2 dX11_face_181 (by decide) ?_
                        refine gw_iadd C dX11_face_182 ?_
                        refine gw_iconst C 4 dX11_face_183 (by decide) ?_
                        refine gw_irem C dX11_face_184 (by omega) (by omega) (by omega) ?_
                        refine gw_ild C (v := nI (M 36 (((k) + (2)) % (4)))) 33 0 dX11_face_185 rfl rfl (by decide) (by omega) (by first | rfl | simp [mo_up]) ?_
                        refine gw_allSI (n := 2) C (c_between (kl K) (kD K) _ zz hz _ (M 36 (((k) + (1)) % (4))) (M 36 (((k) + (2)) % (4))) a1 a2) gX11_face_X11_between rfl (by decide +kernel) dX11_face_186 (by rw [hkR]; decide) (by rw [hkR]; decide) rfl (Nat.le_of_ble_eq_true rfl) rfl (fun rv1 v1 hv1 => ?_)
                        subst hv1
                        refine gw_istore C (lv2 := [(11, iN (mo_btw (M 36 (((k) + (1)) % (4))) (M 36 (((k) + (2)) % (4))))), (10, iN (M 36 (((k) + (1)) % (4)))), (9, iN (M 36 (k))), (8, iN (k)), (7, iN (t)), (6, .ref (ad 36)), (0, .ref (o)), (1, iN (fc))]) dX11_face_189 (by omega) rfl ?_
                        refine gw_aload_n C 6 dX11_face_191 rfl rfl ?_
                        refine gw_get C 0 12 in_X11_face dX11_face_192 lk_X11_face_46 rfl rfl (by decide) rfl rfl ?_
                        refine gw_bipush C 12 dX11_face_195 (by decide) ?_
                        refine gw_iload C 4 dX11_face_197 rfl ?_
                        refine gw_imul C dX11_face_199 ?_
                        refine gw_iload C 0 dX11_face_200 rfl ?_
                        refine gw_iadd C dX11_face_202 ?_
                        refine gw_iload C 2 dX11_face_203 rfl ?_
                        refine gw_iload C 1 dX11_face_205 rfl ?_
                        refine gw_allSI (n := 2) C (c_between (kl K) (kD K) _ zz hz _ (M 36 (k)) (M 36 (((k) + (1)) % (4))) a0 a1) gX11_face_X11_between rfl (by decide +kernel) dX11_face_207 (by rw [hkR]; decide) (by rw [hkR]; decide) rfl (Nat.le_of_ble_eq_true rfl) rfl (fun rv2 v2 hv2 => ?_)
                        subst hv2
                        refine gw_ist C 13 0 dX11_face_210 rfl rfl (by decide) (by omega) mo_st12 ?_
                        refine gw_aload_n C 6 dX11_face_211 rfl rfl ?_
                        refine gw_get C 0 13 in_X11_face dX11_face_212 lk_X11_face_49 rfl rfl (by decide) rfl rfl ?_
                        refine gw_bipush C 12 dX11_face_215 (by decide) ?_
                        refine gw_iload C 4 dX11_face_217 rfl ?_
                        refine gw_imul C dX11_face_219 ?_
                        refine gw_iload C 0 dX11_face_220 rfl ?_
                        refine gw_iadd C dX11_face_222 ?_
                        refine gw_iload_n C 7 dX11_face_223 rfl rfl ?_
                        refine gw_iconst C 3 dX11_face_224 (by decide) ?_
                        refine gw_icmp_le C 232 dX11_face_225 (by decide) (by omega) (by omega) (fun h74 => ?_) (fun h74 => ?_)
                        ·
                          refine gw_iconst C 0 dX11_face_232 (by decide) ?_
                          refine gw_ist C 14 0 dX11_face_233 rfl rfl (by decide) (by omega) mo_st13 ?_
                          refine gw_iinc C (v := nI (k + 1)) (lv2 := [(8, iN (k + 1)), (11, iN (mo_btw (M 36 (((k) + (1)) % (4))) (M 36 (((k) + (2)) % (4))))), (10, iN (M 36 (((k) + (1)) % (4)))), (9, iN (M 36 (k))), (7, iN (t)), (6, .ref (ad 36)), (0, .ref (o)), (1, iN (fc))]) 3 dX11_face_234 rfl (nI_add _ _) (by omega) rfl ?_
                          refine gw_goto C 98 dX11_face_237 (by decide) ?_
                          refine gw_lv (lv2 := [(8, iN (k + 1)), (7, iN (t)), (6, .ref (ad 36)), (0, .ref (o)), (1, iN (fc))]) [0, 4, 5, 6, 7] rfl ?_
                          have q := ihk (k + 1) _ (by omega) (fc_3_I (by omega) hI) hZ
                          rw [fc_3, if_neg (by omega), if_pos (by assumption), if_neg (by omega)] at q
                          exact q
                        ·
                          refine gw_iconst C 1 dX11_face_228 (by decide) ?_
                          refine gw_goto C 233 dX11_face_229 (by decide) ?_
                          refine gw_ist C 14 0 dX11_face_233 rfl rfl (by decide) (by omega) mo_st13 ?_
                          refine gw_iinc C (v := nI (k + 1)) (lv2 := [(8, iN (k + 1)), (11, iN (mo_btw (M 36 (((k) + (1)) % (4))) (M 36 (((k) + (2)) % (4))))), (10, iN (M 36 (((k) + (1)) % (4)))), (9, iN (M 36 (k))), (7, iN (t)), (6, .ref (ad 36)), (0, .ref (o)), (1, iN (fc))]) 3 dX11_face_234 rfl (nI_add _ _) (by omega) rfl ?_
                          refine gw_goto C 98 dX11_face_237 (by decide) ?_
                          refine gw_lv (lv2 := [(8, iN (k + 1)), (7, iN (t)), (6, .ref (ad 36)), (0, .ref (o)), (1, iN (fc))]) [0, 4, 5, 6, 7] rfl ?_
                          have q := ihk (k + 1) _ (by omega) (fc_3_I (by omega) hI) hZ
                          rw [fc_3, if_neg (by omega), if_pos (by assumption), if_pos (by omega)] at q
                          exact q
                    ·
                      refine gw_iconst C 0 dX11_face_154 (by decide) ?_
                      refine gw_goto C 174 dX11_face_155 (by decide) ?_
                      refine gw_ist C 12 0 dX11_face_174 rfl rfl (by decide) (by omega) mo_st11 ?_
                      refine gw_iload C 0 dX11_face_175 rfl ?_
                      refine gw_aload C 4 dX11_face_177 rfl ?_
                      refine gw_iload C 2 dX11_face_179 rfl ?_
                      refine gw_iconst C 2 dX11_face_181 (by decide) ?_
                      refine gw_iadd C dX11_face_182 ?_
                      refine gw_iconst C 4 dX11_face_183 (by decide) ?_
                      refine gw_irem C dX11_face_184 (by omega) (by omega) (by omega) ?_
                      refine gw_ild C (v := nI (M 36 (((k) + (2)) % (4)))) 33 0 dX11_face_185 rfl rfl (by decide) (by omega) (by first | rfl | simp [mo_up]) ?_
                      refine gw_allSI (n := 2) C (c_between (kl K) (kD K) _ zz hz _ (M 36 (((k) + (1)) % (4))) (M 36 (((k) + (2)) % (4))) a1 a2) gX11_face_X11_between rfl (by decide +kernel) dX11_face_186 (by rw [hkR]; decide) (by rw [hkR]; decide) rfl (Nat.le_of_ble_eq_true rfl) rfl (fun rv1 v1 hv1 => ?_)
                      subst hv1
                      refine gw_istore C (lv2 := [(11, iN (mo_btw (M 36 (((k) + (1)) % (4))) (M 36 (((k) + (2)) % (4))))), (10, iN (M 36 (((k) + (1)) % (4)))), (9, iN (M 36 (k))), (8, iN (k)), (7, iN (t)), (6, .ref (ad 36)), (0, .ref (o)), (1, iN (fc))]) dX11_face_189 (by omega) rfl ?_
                      refine gw_aload_n C 6 dX11_face_191 rfl rfl ?_
                      refine gw_get C 0 12 in_X11_face dX11_face_192 lk_X11_face_46 rfl rfl (by decide) rfl rfl ?_
                      refine gw_bipush C 12 dX11_face_195 (by decide) ?_
                      refine gw_iload C 4 dX11_face_197 rfl ?_
                      refine gw_imul C dX11_face_199 ?_
                      refine gw_iload C 0 dX11_face_200 rfl ?_
                      refine gw_iadd C dX11_face_202 ?_
                      refine gw_iload C 2 dX11_face_203 rfl ?_
                      refine gw_iload C 1 dX11_face_205 rfl ?_
                      refine gw_allSI (n := 2) C (c_between (kl K) (kD K) _ zz hz _ (M 36 (k)) (M 36 (((k) + (1)) % (4))) a0 a1) gX11_face_X11_between rfl (by decide +kernel) dX11_face_207 (by rw [hkR]; decide) (by rw [hkR]; decide) rfl (Nat.le_of_ble_eq_true rfl) rfl (fun rv2 v2 hv2 => ?_)
                      subst hv2
                      refine gw_ist C 13 0 dX11_face_210 rfl rfl (by decide) (by omega) mo_st12 ?_
                      refine gw_aload_n C 6 dX11_face_211 rfl rfl ?_
                      refine gw_get C 0 13 in_X11_face dX11_face_212 lk_X11_face_49 rfl rfl (by decide) rfl rfl ?_
                      refine gw_bipush C 12 dX11_face_215 (by decide) ?_
                      refine gw_iload C 4 dX11_face_217 rfl ?_
                      refine gw_imul C dX11_face_219 ?_
                      refine gw_iload C 0 dX11_face_220 rfl ?_
                      refine gw_iadd C dX11_face_222 ?_
                      refine gw_iload_n C 7 dX11_face_223 rfl rfl ?_
                      refine gw_iconst C 3 dX11_face_224 (by decide) ?_
                      refine gw_icmp_le C 232 dX11_face_225 (by decide) (by omega) (by omega) (fun h75 => ?_) (fun h75 => ?_)
                      ·
                        refine gw_iconst C 0 dX11_face_232 (by decide) ?_
                        refine gw_ist C 14 0 dX11_face_233 rfl rfl (by decide) (by omega) mo_st13 ?_
                        refine gw_iinc C (v := nI (k + 1)) (lv2 := [(8, iN (k + 1)), (11, iN (mo_btw (M 36 (((k) + (1)) % (4))) (M 36 (((k) + (2)) % (4))))), (10, iN (M 36 (((k) + (1)) % (4)))), (9, iN (M 36 (k))), (7, iN (t)), (6, .ref (ad 36)), (0, .ref (o)), (1, iN (fc))]) 3 dX11_face_234 rfl (nI_add _ _) (by omega) rfl ?_
                        refine gw_goto C 98 dX11_face_237 (by decide) ?_
                        refine gw_lv (lv2 := [(8, iN (k + 1)), (7, iN (t)), (6, .ref (ad 36)), (0, .ref (o)), (1, iN (fc))]) [0, 4, 5, 6, 7] rfl ?_
                        have q := ihk (k + 1) _ (by omega) (fc_3_I (by omega) hI) hZ
                        rw [fc_3, if_pos (by omega), if_neg (by omega)] at q
                        exact q
                      ·
                        refine gw_iconst C 1 dX11_face_228 (by decide) ?_
                        refine gw_goto C 233 dX11_face_229 (by decide) ?_
                        refine gw_ist C 14 0 dX11_face_233 rfl rfl (by decide) (by omega) mo_st13 ?_
                        refine gw_iinc C (v := nI (k + 1)) (lv2 := [(8, iN (k + 1)), (11, iN (mo_btw (M 36 (((k) + (1)) % (4))) (M 36 (((k) + (2)) % (4))))), (10, iN (M 36 (((k) + (1)) % (4)))), (9, iN (M 36 (k))), (7, iN (t)), (6, .ref (ad 36)), (0, .ref (o)), (1, iN (fc))]) 3 dX11_face_234 rfl (nI_add _ _) (by omega) rfl ?_
                        refine gw_goto C 98 dX11_face_237 (by decide) ?_
                        refine gw_lv (lv2 := [(8, iN (k + 1)), (7, iN (t)), (6, .ref (ad 36)), (0, .ref (o)), (1, iN (fc))]) [0, 4, 5, 6, 7] rfl ?_
                        have q := ihk (k + 1) _ (by omega) (fc_3_I (by omega) hI) hZ
                        rw [fc_3, if_pos (by omega), if_pos (by omega)] at q
                        exact q
              refine gw_lv (lv2 := [(8, iN (0)), (7, iN (t)), (6, .ref (ad 36)), (0, .ref (o)), (1, iN (fc))]) [0, 1, 2, 3, 4] rfl ?_
              exact lp3 4 0 Z2 rfl hJ e3.symm
            ·
              exact absurd h62 (by omega)
          | succ nq ihq =>
            intro q M hiq hI hZ
            rw [mo_lp] at hZ
            refine gw_iload C 0 dX11_face_67 rfl ?_
            refine gw_bipush C 12 dX11_face_69 (by decide) ?_
            refine gw_icmp_ge C 95 dX11_face_71 (by decide) (by omega) (by omega) (fun h76 => ?_) (fun h76 => ?_)
            ·
              exact absurd h76 (by omega)
            ·
              refine gw_aload_n C 3 dX11_face_74 rfl rfl ?_
              refine gw_get C 0 12 in_X11_face dX11_face_75 lk_X11_face_46 rfl rfl (by decide) rfl rfl ?_
              refine gw_bipush C 12 dX11_face_78 (by decide) ?_
              refine gw_iload C 1 dX11_face_80 rfl ?_
              refine gw_imul C dX11_face_82 ?_
              refine gw_iload C 0 dX11_face_83 rfl ?_
              refine gw_iadd C dX11_face_85 ?_
              refine gw_iload C 0 dX11_face_86 rfl ?_
              refine gw_ist C 13 0 dX11_face_88 rfl rfl (by decide) (by omega) mo_st12 ?_
              refine gw_iinc C (v := nI (q + 1)) (lv2 := [(8, iN (q + 1)), (7, iN (t)), (6, .ref (ad 36)), (0, .ref (o)), (1, iN (fc))]) 0 dX11_face_89 rfl (nI_add _ _) (by omega) rfl ?_
              refine gw_goto C 67 dX11_face_92 (by decide) ?_
              refine gw_lv (lv2 := [(8, iN (q + 1)), (7, iN (t)), (6, .ref (ad 36)), (0, .ref (o)), (1, iN (fc))]) [0, 1, 2, 3, 4] rfl ?_
              exact ihq (q + 1) _ (by omega) (fc_2_I (by omega) hI) hZ
        refine gw_lv (lv2 := [(8, iN (0)), (7, iN (t)), (6, .ref (ad 36)), (0, .ref (o)), (1, iN (fc))]) [0, 1, 2, 3, 4] rfl ?_
        exact lp2 12 0 Z1 rfl ⟨hI8, fun p hp => by omega⟩ e2.symm
      ·
        exact absurd h61 (by omega)
    | succ np ihp =>
      intro p M hip hI hZ
      rw [mo_lp] at hZ
      refine gw_iload C 0 dX11_face_36 rfl ?_
      refine gw_bipush C 8 dX11_face_38 (by decide) ?_
      refine gw_icmp_ge C 64 dX11_face_40 (by decide) (by omega) (by omega) (fun h77 => ?_) (fun h77 => ?_)
      ·
        exact absurd h77 (by omega)
      ·
        refine gw_aload_n C 3 dX11_face_43 rfl rfl ?_
        refine gw_get C 0 10 in_X11_face dX11_face_44 lk_X11_face_40 rfl rfl (by decide) rfl rfl ?_
        refine gw_bipush C 8 dX11_face_47 (by decide) ?_
        refine gw_iload C 1 dX11_face_49 rfl ?_
        refine gw_imul C dX11_face_51 ?_
        refine gw_iload C 0 dX11_face_52 rfl ?_
        refine gw_iadd C dX11_face_54 ?_
        refine gw_iload C 0 dX11_face_55 rfl ?_
        refine gw_ist C 11 0 dX11_face_57 rfl rfl (by decide) (by omega) mo_st10 ?_
        refine gw_iinc C (v := nI (p + 1)) (lv2 := [(8, iN (p + 1)), (7, iN (t)), (6, .ref (ad 36)), (0, .ref (o)), (1, iN (fc))]) 0 dX11_face_58 rfl (nI_add _ _) (by omega) rfl ?_
        refine gw_goto C 36 dX11_face_61 (by decide) ?_
        refine gw_lv (lv2 := [(8, iN (p + 1)), (7, iN (t)), (6, .ref (ad 36)), (0, .ref (o)), (1, iN (fc))]) [0, 1, 2, 3, 4] rfl ?_
        exact ihp (p + 1) _ (by omega) (fc_1_I (by omega) hI) hZ
  refine gw_lv (lv2 := [(8, iN (0)), (7, iN (t)), (6, .ref (ad 36)), (0, .ref (o)), (1, iN (fc))]) [0, 1, 2, 3, 4] rfl ?_
  exact lp1 8 0 _ rfl i0 e1.symm
