/-- makeSecond: the moves of the twists -/
def mo_l3 (s : Nat) : Nat → Nat
  | 0 => s
  | p + 1 => mo_l3 s p / 3
def mo_s3 (s : Nat) : Nat → Nat
  | 0 => 0
  | p + 1 => mo_s3 s p + mo_l3 s p % 3
def mo_rw (s : Nat) : Nat → (Nat → Nat → Nat) → Nat → Nat → Nat
  | 0, N => N
  | p + 1, N => mo_up (mo_rw s p N) 36 p (mo_l3 s p % 3)
def mo_nx2 (N : Nat → Nat → Nat) (t : Nat) : Nat → Nat
  | 0 => 0
  | k + 1 => 3 * mo_nx2 N t k + (N 36 (N 10 (8 * t + (7 - 1 - k))) + N 11 (8 * t + (7 - 1 - k))) % 3
def mo_m1t (s : Nat) : Nat → (Nat → Nat → Nat) → Nat → Nat → Nat
  | 0, N => N
  | t + 1, N => mo_up (mo_m1t s t N) 32 (18 * s + t) (mo_nx2 (mo_m1t s t N) t 7)
def mo_m1 : Nat → (Nat → Nat → Nat) → Nat → Nat → Nat
  | 0, N => N
  | s + 1, N => mo_m1t s 18 (mo_up (mo_rw s 7 (mo_m1 s N)) 36 7 ((24 - mo_s3 s 7) % 3))
def mo_m2t (m : Nat) : Nat → (Nat → Nat → Nat) → Nat → Nat → Nat
  | 0, N => N
  | t + 1, N => mo_up (mo_m2t m t N) 33 (18 * m + t) (mo_m2t m t N 24 (mo_mk (mo_m2t m t N) (mo_m2t m t N 25 m) t 12))
def mo_m2 : Nat → (Nat → Nat → Nat) → Nat → Nat → Nat
  | 0, N => N
  | m + 1, N => mo_m2t m 18 (mo_m2 m N)
theorem mo_l3_le (s : Nat) : ∀ p, mo_l3 s p ≤ s
  | 0 => Nat.le_refl _
  | p + 1 => Nat.le_trans (Nat.div_le_self _ _) (mo_l3_le s p)
theorem mo_s3_le (s : Nat) : ∀ p, mo_s3 s p ≤ 2 * p
  | 0 => Nat.le_refl _
  | p + 1 => by have := mo_s3_le s p; have := Nat.mod_lt (mo_l3 s p) (show 0 < 3 by decide); rw [mo_s3]; omega
theorem mo_rw_k {k : Nat} (h : k ≠ 36) (s : Nat) (N : Nat → Nat → Nat) : ∀ p, mo_rw s p N k = N k := by
  intro p
  induction p with
  | zero => rfl
  | succ p ih => funext j; simp [mo_rw, mo_up, h, ih]
theorem mo_rw_v (s : Nat) (N : Nat → Nat → Nat) : ∀ p j, j < p → mo_rw s p N 36 j = mo_l3 s j % 3 := by
  intro p
  induction p with
  | zero => intro j h; omega
  | succ p ih =>
    intro j h
    rw [mo_rw]
    by_cases e : j = p
    · subst e; simp [mo_up]
    · simp [mo_up, e, ih j (by omega)]
theorem mo_m1t_k {k : Nat} (h : k ≠ 32) (s : Nat) (N : Nat → Nat → Nat) : ∀ t, mo_m1t s t N k = N k := by
  intro t
  induction t with
  | zero => rfl
  | succ t ih => funext j; simp [mo_m1t, mo_up, h, ih]
theorem mo_m1_k {k : Nat} (h1 : k ≠ 32) (h2 : k ≠ 36) (N : Nat → Nat → Nat) : ∀ s, mo_m1 s N k = N k := by
  intro s
  induction s with
  | zero => rfl
  | succ s ih => funext j; simp [mo_m1, mo_m1t_k h1, mo_up, h2, mo_rw_k h2, ih]
theorem mo_m2t_k {k : Nat} (h : k ≠ 33) (m : Nat) (N : Nat → Nat → Nat) : ∀ t, mo_m2t m t N k = N k := by
  intro t
  induction t with
  | zero => rfl
  | succ t ih => funext j; simp [mo_m2t, mo_up, h, ih]
theorem mo_m2_k {k : Nat} (h1 : k ≠ 33) (N : Nat → Nat → Nat) : ∀ s, mo_m2 s N k = N k := by
  intro s
  induction s with
  | zero => rfl
  | succ s ih => rw [mo_m2, mo_m2t_k h1, ih]
theorem mo_nx2_lt (N : Nat → Nat → Nat) (t : Nat) : ∀ k, mo_nx2 N t k < 3 ^ k
  | 0 => by show 0 < 1; decide
  | k + 1 => by
    have h := mo_nx2_lt N t k
    have h2 := Nat.mod_lt (N 36 (N 10 (8 * t + (7 - 1 - k))) + N 11 (8 * t + (7 - 1 - k))) (show 0 < 3 by decide)
    rw [mo_nx2, Nat.pow_succ]
    omega
theorem mo_mk_lt (N : Nat → Nat → Nat) (mask t : Nat) : ∀ p, mo_mk N mask t p < 2 ^ p := by
  intro p
  induction p with
  | zero => show 0 < 1; decide
  | succ p ih =>
    rw [mo_mk]
    have h1 : mask / 2 ^ (N 12 (12 * t + p)) &&& 1 ≤ 1 := Nat.and_le_right
    have h2 : (mask / 2 ^ (N 12 (12 * t + p)) &&& 1) * 2 ^ p ≤ 1 * 2 ^ p := Nat.mul_le_mul_right _ h1
    have h3 : 2 ^ (p + 1) = 2 ^ p * 2 := Nat.pow_succ ..
    exact Nat.or_lt_two_pow (by omega) (by have := Nat.two_pow_pos p; omega)
def mo_tabB (N : Nat → Nat → Nat) : Nat → Nat → Nat := mo_m2 495 (mo_m1 2187 N)
def mo_near2 (N : Nat → Nat → Nat) : Nat → (Nat → Nat) × Nat := bf_l2 (mo_nxB (mo_tabB N)) (mo_may 1) 18 1082565 (up1 (fl1 100 (mo_tabB N 21) 1082565) (mo_tabB N 24 3840) 0)
theorem in_X11_makeSecond : ∀ w ∈ wsX110, w ∈ wsX11_makeSecond := fun _ h => List.mem_cons_of_mem _ (List.mem_append_right _ h)
theorem lk_X11_makeSecond_40 : Cond.fieldLink RX11 40 "StageCubeModel" "cornerFrom" "[I" ∈ wsX11_makeSecond := by decide +kernel
theorem lk_X11_makeSecond_43 : Cond.fieldLink RX11 43 "StageCubeModel" "cornerMore" "[I" ∈ wsX11_makeSecond := by decide +kernel
theorem lk_X11_makeSecond_63 : Cond.fieldLink RX11 63 "StageCubeModel" "near2" "[B" ∈ wsX11_makeSecond := by decide +kernel
theorem lk_X11_makeSecond_73 : Cond.fieldLink RX11 73 "StageCubeModel" "maskOf" "[S" ∈ wsX11_makeSecond := by decide +kernel
theorem lk_X11_makeSecond_77 : Cond.fieldLink RX11 77 "StageCubeModel" "maskAt" "[S" ∈ wsX11_makeSecond := by decide +kernel
theorem lk_X11_makeSecond_100 : Cond.fieldLink RX11 100 "StageCubeModel" "move1" "[I" ∈ wsX11_makeSecond := by decide +kernel
theorem lk_X11_makeSecond_103 : Cond.fieldLink RX11 103 "StageCubeModel" "move2" "[I" ∈ wsX11_makeSecond := by decide +kernel
theorem lk_X11_makeSecond_112 : Cond.fieldLink RX11 112 "StageCubeModel" "row" "[I" ∈ wsX11_makeSecond := by decide +kernel
set_option maxHeartbeats 4000000 in
set_option maxRecDepth 100000 in
theorem c_makeSecond (l : Launch) (D : va_G) (cI cB cS cJ cF cG : ClassId) (zz : (Nat → Prop) → State → Heap → Prop) (hz : gw_zT zz) (o : Nat) (ad : Nat → Nat) (N : Nat → Nat → Nat) (hN : ∀ j, N 21 j ≤ 100) (hf : ∀ j, j < 144 → N 10 j < 8) (hmm : ∀ j, j < 144 → N 11 j < 3) (hg : ∀ j, j < 216 → N 12 j < 12) (h25 : ∀ j, j < 495 → N 25 j < 4096) (h24 : N 24 3840 < 1082565) (hx : ∀ k t, k < 1082565 → t < 18 → mo_nxB (mo_tabB N) k t < 1082565) (E : Nat) (hE : E < 99) (hE0 : (mo_near2 N E).2 = 0) (hE1 : ∀ d, d < E → (mo_near2 N d).2 ≠ 0) : gw_CV l yX11_makeSecond wsX11_makeSecond 2 50 0 0 D (mo_ty cI cB cS cJ cF cG) zz (mo_ws o ad cI cB cS N) [.ref o] (fun N' => N' = mo_a (mo_tabB N) 21 (mo_near2 N E).1) (fun N' => mo_ws o ad cI cB cS N') := by
  refine gw_CV.of (cc := cX11_makeSecond) (maxL := 7) hz (by decide) rfl (Nat.le_of_ble_eq_true rfl) ?_
  intro K C hkl hkn hkR hkD hmn ret
  have C : gw_x K cX11_makeSecond RX11 wsX11_makeSecond (mo_ty cI cB cS cJ cF cG) zz := C
  subst hkl hkD
  refine gw_iconst C 0 dX11_makeSecond_0 (by decide) ?_
  refine gw_istore_n C (lv2 := [(1, iN (0)), (0, .ref (o))]) dX11_makeSecond_1 rfl (by omega) rfl ?_
  have lp : ∀ ns s : Nat, s + ns = 2187 → gw_G K (mo_ws o ad cI cB cS (mo_m1 s N)) 0 0 2 [(1, iN (s)), (0, .ref (o))] [] := by
    intro ns
    induction ns with
    | zero =>
      intro s his
      refine gw_iload_n C 0 dX11_makeSecond_2 rfl rfl ?_
      refine gw_sipush C 2187 dX11_makeSecond_3 (by decide) ?_
      refine gw_icmp_ge C 161 dX11_makeSecond_6 (by decide) (by omega) (by omega) (fun h61 => ?_) (fun h61 => ?_)
      ·
        rw [show s = 2187 by omega]
        refine gw_iconst C 0 dX11_makeSecond_161 (by decide) ?_
        refine gw_istore_n C (lv2 := [(1, iN (0)), (0, .ref (o))]) dX11_makeSecond_162 rfl (by omega) rfl ?_
        have lp5 : ∀ nm m : Nat, m + nm = 495 → gw_G K (mo_ws o ad cI cB cS (mo_m2 m (mo_m1 2187 N))) 0 0 163 [(1, iN (m)), (0, .ref (o))] [] := by
          intro nm
          induction nm with
          | zero =>
            intro m him
            refine gw_iload_n C 0 dX11_makeSecond_163 rfl rfl ?_
            refine gw_sipush C 495 dX11_makeSecond_164 (by decide) ?_
            refine gw_icmp_ge C 219 dX11_makeSecond_167 (by decide) (by omega) (by omega) (fun h62 => ?_) (fun h62 => ?_)
            ·
              rw [show m = 495 by omega]
              rw [show mo_m2 495 (mo_m1 2187 N) = mo_tabB N from rfl]
              have t24 : mo_tabB N 24 3840 < 1082565 := by unfold mo_tabB; rw [mo_m2_k (by decide), mo_m1_k (by decide) (by decide)]; exact h24
              have t21 : ∀ j, mo_tabB N 21 j ≤ 100 := fun j => by unfold mo_tabB; rw [mo_m2_k (by decide), mo_m1_k (by decide) (by decide)]; exact hN j
              refine gw_ldc C (x := 1082565) 1082565 dX11_makeSecond_219 (by decide) (by decide +kernel) ?_
              refine gw_istore_n C (lv2 := [(1, iN (1082565)), (0, .ref (o))]) dX11_makeSecond_221 rfl (by omega) rfl ?_
              refine gw_iconst C 0 dX11_makeSecond_222 (by decide) ?_
              refine gw_istore_n C (lv2 := [(2, iN (0)), (1, iN (1082565)), (0, .ref (o))]) dX11_makeSecond_223 rfl (by omega) rfl ?_
              refine gw_ws (ws2 := mo_ws o ad cI cB cS (mo_a (mo_tabB N) 21 (fl1 100 (mo_tabB N 21) 0))) (by rw [fl1_0, mo_a_self]) ?_
              have lpf : ∀ ni i : Nat, i + ni = 1082565 → gw_G K (mo_ws o ad cI cB cS (mo_a (mo_tabB N) 21 (fl1 100 (mo_tabB N 21) i))) 0 0 224 [(2, iN (i)), (1, iN (1082565)), (0, .ref (o))] [] := by
                intro ni
                induction ni with
                | zero =>
                  intro i hii
                  refine gw_iload_n C 0 dX11_makeSecond_224 rfl rfl ?_
                  refine gw_iload_n C 1 dX11_makeSecond_225 rfl rfl ?_
                  refine gw_icmp_ge C 243 dX11_makeSecond_226 (by decide) (by omega) (by omega) (fun h63 => ?_) (fun h63 => ?_)
                  ·
                    rw [show i = 1082565 by omega]
                    refine gw_aload_n C 2 dX11_makeSecond_243 rfl rfl ?_
                    refine gw_get C 0 21 in_X11_makeSecond dX11_makeSecond_244 lk_X11_makeSecond_63 rfl rfl (by decide) rfl rfl ?_
                    refine gw_aload_n C 2 dX11_makeSecond_247 rfl rfl ?_
                    refine gw_get C 0 24 in_X11_makeSecond dX11_makeSecond_248 lk_X11_makeSecond_73 rfl rfl (by decide) rfl rfl ?_
                    refine gw_sipush C 3840 dX11_makeSecond_251 (by decide) ?_
                    refine gw_sld C (v := nI ((mo_tabB N) 24 (3840))) 21 2 dX11_makeSecond_254 rfl rfl (by decide) (by omega) (by rw [mo_a_ne (by decide)]) ?_
                    refine gw_iconst C 0 dX11_makeSecond_255 (by decide) ?_
                    refine gw_bst C 18 1 dX11_makeSecond_256 rfl rfl (by decide) (by omega) (by decide) mo_st21 ?_
                    refine gw_iconst C 1 dX11_makeSecond_257 (by decide) ?_
                    refine gw_istore_n C (lv2 := [(2, iN (1)), (1, iN (1082565)), (0, .ref (o))]) dX11_makeSecond_258 rfl (by omega) rfl ?_
                    refine gw_iconst C 0 dX11_makeSecond_259 (by decide) ?_
                    refine gw_istore_n C (lv2 := [(3, iN (0)), (2, iN (1)), (1, iN (1082565)), (0, .ref (o))]) dX11_makeSecond_260 rfl (by omega) rfl ?_
                    rw [mo_up_a]
                    have hok : ∀ d, d ≤ 100 → bf_ok (mo_near2 N d) := bf_l2_ok _ _ (fun j => by simp only [up1, fl1]; split; omega; split; omega; exact t21 j)
                    have lpd : ∀ nd d : Nat, d + nd = E → gw_G K (mo_ws o ad cI cB cS (mo_a (mo_tabB N) 21 (mo_near2 N d).1)) 0 0 261 [(3, iN d), (2, iN (mo_near2 N d).2), (1, iN 1082565), (0, .ref o)] [] := by
                      intro nd
                      induction nd with
                      | zero =>
                        intro d hd
                        have hd2 : d = E := by omega
                        subst hd2
                        rw [hE0]
                        refine gw_iload_n C 1 dX11_makeSecond_261 rfl rfl ?_
                        refine gw_if_eq C 319 dX11_makeSecond_262 (by decide) (by omega) (fun h64 => ?_) (fun h64 => ?_)
                        ·
                          exact ret _ dX11_makeSecond_319 rfl rfl (Nat.le_refl 0) (Nat.le_refl 0)
                        ·
                          exact absurd h64 (by omega)
                      | succ nd ihd =>
                        intro d hd
                        have hm := hE1 d (by omega)
                        have hk := hok d (by omega)
                        have hk2 := hk.2
                        obtain ⟨S0, eS0⟩ : ∃ S0, S0 = ((mo_near2 N d).1, 0) := ⟨_, rfl⟩
                        have ok0 : bf_ok S0 := by rw [eS0]; exact ⟨hk.1, Nat.zero_le 1⟩
                        refine gw_iload_n C 1 dX11_makeSecond_261 rfl rfl ?_
                        refine gw_if_eq C 319 dX11_makeSecond_262 (by decide) (by omega) (fun h65 => ?_) (fun h65 => ?_)
                        ·
                          exact absurd h65 hm
                        ·
                          refine gw_iconst C 0 dX11_makeSecond_265 (by decide) ?_
                          refine gw_istore_n C (lv2 := [(2, iN (0)), (3, iN (d)), (1, iN (1082565)), (0, .ref (o))]) dX11_makeSecond_266 rfl (by omega) rfl ?_
                          refine gw_iconst C 0 dX11_makeSecond_267 (by decide) ?_
                          refine gw_istore C (lv2 := [(4, iN (0)), (2, iN (0)), (3, iN (d)), (1, iN (1082565)), (0, .ref (o))]) dX11_makeSecond_268 (by omega) rfl ?_
                          refine gw_ws (ws2 := mo_ws o ad cI cB cS (mo_a (mo_tabB N) 21 (bf_r2 (mo_nxB (mo_tabB N)) (mo_may 1) 18 d 0 S0).1)) (by rw [eS0]; rfl) ?_
                          refine gw_lv (lv2 := [(4, iN 0), (2, iN (bf_r2 (mo_nxB (mo_tabB N)) (mo_may 1) 18 d 0 S0).2), (3, iN d), (1, iN 1082565), (0, .ref o)]) [0, 1, 2, 3, 4] (by rw [eS0]; rfl) ?_
                          have lpk : ∀ nk k : Nat, k + nk = 1082565 → gw_G K (mo_ws o ad cI cB cS (mo_a (mo_tabB N) 21 ((bf_r2 (mo_nxB (mo_tabB N)) (mo_may 1) 18 d k S0).1))) 0 0 270 [(4, iN (k)), (2, iN ((bf_r2 (mo_nxB (mo_tabB N)) (mo_may 1) 18 d k S0).2)), (3, iN (d)), (1, iN (1082565)), (0, .ref (o))] [] := by
                            intro nk
                            induction nk with
                            | zero =>
                              intro k hik
                              refine gw_iload C 0 dX11_makeSecond_270 rfl ?_
                              refine gw_iload_n C 3 dX11_makeSecond_272 rfl rfl ?_
                              refine gw_icmp_ge C 313 dX11_makeSecond_273 (by decide) (by omega) (by omega) (fun h66 => ?_) (fun h66 => ?_)
                              ·
                                rw [show k = 1082565 by omega]
                                refine gw_iinc C (v := nI (d + 1)) (lv2 := [(3, iN (d + 1)), (4, iN (1082565)), (2, iN ((bf_r2 (mo_nxB (mo_tabB N)) (mo_may 1) 18 d 1082565 S0).2)), (1, iN (1082565)), (0, .ref (o))]) 2 dX11_makeSecond_313 rfl (nI_add _ _) (by omega) rfl ?_
                                refine gw_goto C 261 dX11_makeSecond_316 (by decide) ?_
                                refine gw_lv (lv2 := [(3, iN (d + 1)), (2, iN ((bf_r2 (mo_nxB (mo_tabB N)) (mo_may 1) 18 d 1082565 S0).2)), (1, iN (1082565)), (0, .ref (o))]) [0, 2, 3, 4] rfl ?_
                                have q := ihd (d + 1) (by omega)
                                rw [show mo_near2 N (d + 1) = bf_r2 (mo_nxB (mo_tabB N)) (mo_may 1) 18 d 1082565 S0 by rw [eS0]; rfl] at q
                                exact q
                              ·
                                exact absurd h66 (by omega)
                            | succ nk ihk =>
                              intro k hik
                              refine gw_iload C 0 dX11_makeSecond_270 rfl ?_
                              refine gw_iload_n C 3 dX11_makeSecond_272 rfl rfl ?_
                              refine gw_icmp_ge C 313 dX11_makeSecond_273 (by decide) (by omega) (by omega) (fun h67 => ?_) (fun h67 => ?_)
                              ·
                                exact absurd h67 (by omega)
                              ·
                                have ok := bf_r2_ok (mo_nxB (mo_tabB N)) (mo_may 1) (T := 18) (d := d) (by omega) ok0 k
                                obtain ⟨S, eS⟩ : ∃ S, S = bf_r2 (mo_nxB (mo_tabB N)) (mo_may 1) 18 d k S0 := ⟨_, rfl⟩
                                rw [← eS] at ok
                                rw [← eS]
                                have okk := ok.1 k
                                have ok2 := ok.2
                                refine gw_aload_n C 4 dX11_makeSecond_276 rfl rfl ?_
                                refine gw_get C 0 21 in_X11_makeSecond dX11_makeSecond_277 lk_X11_makeSecond_63 rfl rfl (by decide) rfl rfl ?_
                                refine gw_iload C 0 dX11_makeSecond_280 rfl ?_
                                refine gw_bld C (v := nI ((S.1) (k))) 18 1 dX11_makeSecond_282 rfl rfl (by decide) (by omega) (by rw [mo_a_eq]) ?_
                                refine gw_iload_n C 2 dX11_makeSecond_283 rfl rfl ?_
                                refine gw_icmp_ne C 307 dX11_makeSecond_284 (by decide) (by omega) (by omega) (fun h68 => ?_) (fun h68 => ?_)
                                ·
                                  refine gw_iinc C (v := nI (k + 1)) (lv2 := [(4, iN (k + 1)), (2, iN (S.2)), (3, iN (d)), (1, iN (1082565)), (0, .ref (o))]) 0 dX11_makeSecond_307 rfl (nI_add _ _) (by omega) rfl ?_
                                  refine gw_goto C 270 dX11_makeSecond_310 (by decide) ?_
                                  refine gw_lv (lv2 := [(4, iN (k + 1)), (2, iN (S.2)), (3, iN (d)), (1, iN (1082565)), (0, .ref (o))]) [0, 1, 2, 3, 4] rfl ?_
                                  have q := ihk (k + 1) (by omega)
                                  rw [bf_r2, ← eS, bf_q2, if_neg h68] at q
                                  exact q
                                ·
                                  refine gw_aload_n C 4 dX11_makeSecond_287 rfl rfl ?_
                                  refine gw_iload C 0 dX11_makeSecond_288 rfl ?_
                                  refine gw_iload_n C 2 dX11_makeSecond_290 rfl rfl ?_
                                  refine gw_allVI (n := 2) C (c_spread2 (kl K) (kD K) cI cB cS cJ cF cG zz hz o ad (mo_tabB N) S.1 k d (by omega) (by omega) ok.1 (fun t ht => hx k t (by omega) ht)) 0 rfl rfl rfl gX11_makeSecond_X11_spread2 rfl (by decide +kernel) dX11_makeSecond_291 (by rw [hkR]; decide) (by rw [hkR]; decide) rfl (Nat.le_of_ble_eq_true rfl) rfl (fun rv9 v9 hv9 => ?_)
                                  obtain ⟨rfl, rfl⟩ := hv9
                                  have okt := (bf_t2_ok (mo_nxB (mo_tabB N)) (mo_may 1) (d := d) (s := k) (S := (S.1, 0)) (by omega) ⟨ok.1, Nat.zero_le 1⟩ 18).2
                                  obtain ⟨Q, eQ⟩ : ∃ Q, Q = bf_t2 (mo_nxB (mo_tabB N)) (mo_may 1) d k 18 (S.1, 0) := ⟨_, rfl⟩
                                  rw [← eQ] at okt
                                  rw [← eQ]
                                  refine gw_if_ne C 301 dX11_makeSecond_294 (by decide) (by omega) (fun h69 => ?_) (fun h69 => ?_)
                                  ·
                                    refine gw_iconst C 1 dX11_makeSecond_301 (by decide) ?_
                                    refine gw_goto C 306 dX11_makeSecond_302 (by decide) ?_
                                    refine gw_istore_n C (lv2 := [(2, iN (1)), (4, iN (k)), (3, iN (d)), (1, iN (1082565)), (0, .ref (o))]) dX11_makeSecond_306 rfl (by omega) rfl ?_
                                    refine gw_iinc C (v := nI (k + 1)) (lv2 := [(4, iN (k + 1)), (2, iN (1)), (3, iN (d)), (1, iN (1082565)), (0, .ref (o))]) 1 dX11_makeSecond_307 rfl (nI_add _ _) (by omega) rfl ?_
                                    refine gw_goto C 270 dX11_makeSecond_310 (by decide) ?_
                                    refine gw_lv (lv2 := [(4, iN (k + 1)), (2, iN (1)), (3, iN (d)), (1, iN (1082565)), (0, .ref (o))]) [0, 1, 2, 3, 4] rfl ?_
                                    have q := ihk (k + 1) (by omega)
                                    rw [bf_r2, ← eS, bf_q2, if_pos h68, ← eQ] at q
                                    dsimp only at q
                                    rw [if_pos (by omega)] at q
                                    exact q
                                  ·
                                    refine gw_iload_n C 1 dX11_makeSecond_297 rfl rfl ?_
                                    refine gw_if_eq C 305 dX11_makeSecond_298 (by decide) (by omega) (fun h70 => ?_) (fun h70 => ?_)
                                    ·
                                      refine gw_iconst C 0 dX11_makeSecond_305 (by decide) ?_
                                      refine gw_istore_n C (lv2 := [(2, iN (0)), (4, iN (k)), (3, iN (d)), (1, iN (1082565)), (0, .ref (o))]) dX11_makeSecond_306 rfl (by omega) rfl ?_
                                      refine gw_iinc C (v := nI (k + 1)) (lv2 := [(4, iN (k + 1)), (2, iN (0)), (3, iN (d)), (1, iN (1082565)), (0, .ref (o))]) 1 dX11_makeSecond_307 rfl (nI_add _ _) (by omega) rfl ?_
                                      refine gw_goto C 270 dX11_makeSecond_310 (by decide) ?_
                                      refine gw_lv (lv2 := [(4, iN (k + 1)), (2, iN (0)), (3, iN (d)), (1, iN (1082565)), (0, .ref (o))]) [0, 1, 2, 3, 4] rfl ?_
                                      have q := ihk (k + 1) (by omega)
                                      rw [bf_r2, ← eS, bf_q2, if_pos h68, ← eQ] at q
                                      dsimp only at q
                                      rw [if_neg (by omega)] at q
                                      exact q
                                    ·
                                      refine gw_iconst C 1 dX11_makeSecond_301 (by decide) ?_
                                      refine gw_goto C 306 dX11_makeSecond_302 (by decide) ?_
                                      refine gw_istore_n C (lv2 := [(2, iN (1)), (4, iN (k)), (3, iN (d)), (1, iN (1082565)), (0, .ref (o))]) dX11_makeSecond_306 rfl (by omega) rfl ?_
                                      refine gw_iinc C (v := nI (k + 1)) (lv2 := [(4, iN (k + 1)), (2, iN (1)), (3, iN (d)), (1, iN (1082565)), (0, .ref (o))]) 1 dX11_makeSecond_307 rfl (nI_add _ _) (by omega) rfl ?_
                                      refine gw_goto C 270 dX11_makeSecond_310 (by decide) ?_
                                      refine gw_lv (lv2 := [(4, iN (k + 1)), (2, iN (1)), (3, iN (d)), (1, iN (1082565)), (0, .ref (o))]) [0, 1, 2, 3, 4] rfl ?_
                                      have q := ihk (k + 1) (by omega)
                                      rw [bf_r2, ← eS, bf_q2, if_pos h68, ← eQ] at q
                                      dsimp only at q
                                      rw [if_pos (by omega)] at q
                                      exact q
                          refine gw_lv (lv2 := [(4, iN (0)), (2, iN ((bf_r2 (mo_nxB (mo_tabB N)) (mo_may 1) 18 d 0 S0).2)), (3, iN (d)), (1, iN (1082565)), (0, .ref (o))]) [0, 1, 2, 3, 4] rfl ?_
                          exact lpk (1082565 - 0) 0 (by omega)
                    refine gw_lv (lv2 := [(3, iN (0)), (2, iN (1)), (1, iN (1082565)), (0, .ref (o))]) [0, 1, 2, 3] rfl ?_
                    exact lpd E 0 (by omega)
                  ·
                    exact absurd h63 (by omega)
                | succ ni ihi =>
                  intro i hii
                  refine gw_iload_n C 0 dX11_makeSecond_224 rfl rfl ?_
                  refine gw_iload_n C 1 dX11_makeSecond_225 rfl rfl ?_
                  refine gw_icmp_ge C 243 dX11_makeSecond_226 (by decide) (by omega) (by omega) (fun h71 => ?_) (fun h71 => ?_)
                  ·
                    exact absurd h71 (by omega)
                  ·
                    refine gw_aload_n C 2 dX11_makeSecond_229 rfl rfl ?_
                    refine gw_get C 0 21 in_X11_makeSecond dX11_makeSecond_230 lk_X11_makeSecond_63 rfl rfl (by decide) rfl rfl ?_
                    refine gw_iload_n C 0 dX11_makeSecond_233 rfl rfl ?_
                    refine gw_bipush C 100 dX11_makeSecond_234 (by decide) ?_
                    refine gw_bst C 18 1 dX11_makeSecond_236 rfl rfl (by decide) (by omega) (by decide) mo_st21 ?_
                    refine gw_iinc C (v := nI (i + 1)) (lv2 := [(2, iN (i + 1)), (1, iN (1082565)), (0, .ref (o))]) 0 dX11_makeSecond_237 rfl (nI_add _ _) (by omega) rfl ?_
                    refine gw_goto C 224 dX11_makeSecond_240 (by decide) ?_
                    refine gw_lv (lv2 := [(2, iN (i + 1)), (1, iN (1082565)), (0, .ref (o))]) [0, 1, 2] rfl ?_
                    exact gw_ws (congrArg (mo_ws o ad cI cB cS) (by rw [mo_up_a, fl1_s])) (ihi (i + 1) (by omega))
              refine gw_lv (lv2 := [(2, iN (0)), (1, iN (1082565)), (0, .ref (o))]) [0, 1, 2] rfl ?_
              exact lpf (1082565 - 0) 0 (by omega)
            ·
              exact absurd h62 (by omega)
          | succ nm ihm =>
            intro m him
            refine gw_iload_n C 0 dX11_makeSecond_163 rfl rfl ?_
            refine gw_sipush C 495 dX11_makeSecond_164 (by decide) ?_
            refine gw_icmp_ge C 219 dX11_makeSecond_167 (by decide) (by omega) (by omega) (fun h72 => ?_) (fun h72 => ?_)
            ·
              exact absurd h72 (by omega)
            ·
              obtain ⟨M, eM⟩ : ∃ M, M = mo_m2 m (mo_m1 2187 N) := ⟨_, rfl⟩
              have f12 : M 12 = N 12 := by rw [eM, mo_m2_k (by decide), mo_m1_k (by decide) (by decide)]
              have f25 : M 25 = N 25 := by rw [eM, mo_m2_k (by decide), mo_m1_k (by decide) (by decide)]
              rw [← eM]
              refine gw_iconst C 0 dX11_makeSecond_170 (by decide) ?_
              refine gw_istore_n C (lv2 := [(2, iN (0)), (1, iN (m)), (0, .ref (o))]) dX11_makeSecond_171 rfl (by omega) rfl ?_
              have lp6 : ∀ nt t : Nat, t + nt = 18 → gw_G K (mo_ws o ad cI cB cS (mo_m2t m t M)) 0 0 172 [(2, iN (t)), (1, iN (m)), (0, .ref (o))] [] := by
                intro nt
                induction nt with
                | zero =>
                  intro t hit
                  refine gw_iload_n C 0 dX11_makeSecond_172 rfl rfl ?_
                  refine gw_bipush C 18 dX11_makeSecond_173 (by decide) ?_
                  refine gw_icmp_ge C 213 dX11_makeSecond_175 (by decide) (by omega) (by omega) (fun h73 => ?_) (fun h73 => ?_)
                  ·
                    rw [show t = 18 by omega]
                    refine gw_iinc C (v := nI (m + 1)) (lv2 := [(1, iN (m + 1)), (2, iN (18)), (0, .ref (o))]) 1 dX11_makeSecond_213 rfl (nI_add _ _) (by omega) rfl ?_
                    refine gw_goto C 163 dX11_makeSecond_216 (by decide) ?_
                    refine gw_lv (lv2 := [(1, iN (m + 1)), (0, .ref (o))]) [0, 2] rfl ?_
                    have q := ihm (m + 1) (by omega)
                    rw [mo_m2, ← eM] at q
                    exact q
                  ·
                    exact absurd h73 (by omega)
                | succ nt iht =>
                  intro t hit
                  refine gw_iload_n C 0 dX11_makeSecond_172 rfl rfl ?_
                  refine gw_bipush C 18 dX11_makeSecond_173 (by decide) ?_
                  refine gw_icmp_ge C 213 dX11_makeSecond_175 (by decide) (by omega) (by omega) (fun h74 => ?_) (fun h74 => ?_)
                  ·
                    exact absurd h74 (by omega)
                  ·
                    have q12 : mo_m2t m t M 12 = N 12 := by rw [mo_m2t_k (by decide)]; exact f12
                    have q25 : mo_m2t m t M 25 = N 25 := by rw [mo_m2t_k (by decide)]; exact f25
                    obtain ⟨Q, eQ⟩ : ∃ Q, Q = mo_m2t m t M := ⟨_, rfl⟩
                    rw [← eQ] at q12 q25
                    rw [← eQ]
                    have c25 : Q 25 m < 4096 := by rw [q25]; exact h25 m (by omega)
                    have cg : ∀ j, j < 216 → Q 12 j < 12 := fun j hj => by rw [q12]; exact hg j hj
                    have cl := mo_mk_lt Q (Q 25 m) t 12
                    refine gw_aload_n C 2 dX11_makeSecond_178 rfl rfl ?_
                    refine gw_get C 0 33 in_X11_makeSecond dX11_makeSecond_179 lk_X11_makeSecond_103 rfl rfl (by decide) rfl rfl ?_
                    refine gw_bipush C 18 dX11_makeSecond_182 (by decide) ?_
                    refine gw_iload_n C 1 dX11_makeSecond_184 rfl rfl ?_
                    refine gw_imul C dX11_makeSecond_185 ?_
                    refine gw_iload_n C 0 dX11_makeSecond_186 rfl rfl ?_
                    refine gw_iadd C dX11_makeSecond_187 ?_
                    refine gw_aload_n C 2 dX11_makeSecond_188 rfl rfl ?_
                    refine gw_get C 0 24 in_X11_makeSecond dX11_makeSecond_189 lk_X11_makeSecond_73 rfl rfl (by decide) rfl rfl ?_
                    refine gw_aload_n C 2 dX11_makeSecond_192 rfl rfl ?_
                    refine gw_aload_n C 2 dX11_makeSecond_193 rfl rfl ?_
                    refine gw_get C 0 25 in_X11_makeSecond dX11_makeSecond_194 lk_X11_makeSecond_77 rfl rfl (by decide) rfl rfl ?_
                    refine gw_iload_n C 1 dX11_makeSecond_197 rfl rfl ?_
                    refine gw_sld C (v := nI (Q 25 (m))) 22 2 dX11_makeSecond_198 rfl rfl (by decide) (by omega) (by first | rfl | simp [mo_up]) ?_
                    refine gw_iload_n C 0 dX11_makeSecond_199 rfl rfl ?_
                    refine gw_bipush C 12 dX11_makeSecond_200 (by decide) ?_
                    refine gw_allVI (n := 3) C (c_maskBy (kl K) (kD K) cI cB cS cJ cF cG zz hz o ad Q (Q 25 m) t 12 (by omega) (by omega) (by omega) cg) 0 rfl rfl rfl gX11_makeSecond_X11_maskBy rfl (by decide +kernel) dX11_makeSecond_202 (by rw [hkR]; decide) (by rw [hkR]; decide) rfl (Nat.le_of_ble_eq_true rfl) rfl (fun rv1 v1 hv1 => ?_)
                    obtain ⟨rfl, rfl⟩ := hv1
                    refine gw_sld C (v := nI (v1 24 (mo_mk v1 (v1 25 (m)) t 12))) 21 2 dX11_makeSecond_205 rfl rfl (by decide) (by omega) (by first | rfl | simp [mo_up]) ?_
                    refine gw_ist C 30 0 dX11_makeSecond_206 rfl rfl (by decide) (by omega) mo_st33 ?_
                    refine gw_iinc C (v := nI (t + 1)) (lv2 := [(2, iN (t + 1)), (1, iN (m)), (0, .ref (o))]) 0 dX11_makeSecond_207 rfl (nI_add _ _) (by omega) rfl ?_
                    refine gw_goto C 172 dX11_makeSecond_210 (by decide) ?_
                    refine gw_lv (lv2 := [(2, iN (t + 1)), (1, iN (m)), (0, .ref (o))]) [0, 1, 2] rfl ?_
                    have q := iht (t + 1) (by omega)
                    rw [mo_m2t, ← eQ] at q
                    exact q
              refine gw_lv (lv2 := [(2, iN (0)), (1, iN (m)), (0, .ref (o))]) [0, 1, 2] rfl ?_
              exact lp6 (18 - 0) 0 (by omega)
        refine gw_lv (lv2 := [(1, iN (0)), (0, .ref (o))]) [0, 1] rfl ?_
        exact lp5 (495 - 0) 0 (by omega)
      ·
        exact absurd h61 (by omega)
    | succ ns ihs =>
      intro s his
      refine gw_iload_n C 0 dX11_makeSecond_2 rfl rfl ?_
      refine gw_sipush C 2187 dX11_makeSecond_3 (by decide) ?_
      refine gw_icmp_ge C 161 dX11_makeSecond_6 (by decide) (by omega) (by omega) (fun h75 => ?_) (fun h75 => ?_)
      ·
        exact absurd h75 (by omega)
      ·
        obtain ⟨M, eM⟩ : ∃ M, M = mo_m1 s N := ⟨_, rfl⟩
        have f10 : M 10 = N 10 := by rw [eM, mo_m1_k (by decide) (by decide)]
        have f11 : M 11 = N 11 := by rw [eM, mo_m1_k (by decide) (by decide)]
        rw [← eM]
        refine gw_iload_n C 0 dX11_makeSecond_9 rfl rfl ?_
        refine gw_istore_n C (lv2 := [(2, iN (s)), (1, iN (s)), (0, .ref (o))]) dX11_makeSecond_10 rfl (by omega) rfl ?_
        refine gw_iconst C 0 dX11_makeSecond_11 (by decide) ?_
        refine gw_istore_n C (lv2 := [(3, iN (0)), (2, iN (s)), (1, iN (s)), (0, .ref (o))]) dX11_makeSecond_12 rfl (by omega) rfl ?_
        refine gw_iconst C 0 dX11_makeSecond_13 (by decide) ?_
        refine gw_istore C (lv2 := [(4, iN (0)), (3, iN (0)), (2, iN (s)), (1, iN (s)), (0, .ref (o))]) dX11_makeSecond_14 (by omega) rfl ?_
        have lp2 : ∀ np p : Nat, p + np = 7 → gw_G K (mo_ws o ad cI cB cS (mo_rw s p M)) 0 0 16 [(4, iN (p)), (3, iN (mo_s3 s p)), (2, iN (mo_l3 s p)), (1, iN (s)), (0, .ref (o))] [] := by
          intro np
          induction np with
          | zero =>
            intro p hip
            refine gw_iload C 0 dX11_makeSecond_16 rfl ?_
            refine gw_bipush C 7 dX11_makeSecond_18 (by decide) ?_
            refine gw_icmp_ge C 53 dX11_makeSecond_20 (by decide) (by omega) (by omega) (fun h76 => ?_) (fun h76 => ?_)
            ·
              rw [show p = 7 by omega]
              have l2 := mo_s3_le s 7
              refine gw_aload_n C 4 dX11_makeSecond_53 rfl rfl ?_
              refine gw_get C 0 36 in_X11_makeSecond dX11_makeSecond_54 lk_X11_makeSecond_112 rfl rfl (by decide) rfl rfl ?_
              refine gw_bipush C 7 dX11_makeSecond_57 (by decide) ?_
              refine gw_bipush C 24 dX11_makeSecond_59 (by decide) ?_
              refine gw_iload_n C 1 dX11_makeSecond_61 rfl rfl ?_
              refine gw_isub C dX11_makeSecond_62 (by omega) ?_
              refine gw_iconst C 3 dX11_makeSecond_63 (by decide) ?_
              refine gw_irem C dX11_makeSecond_64 (by omega) (by omega) (by omega) ?_
              refine gw_ist C 33 0 dX11_makeSecond_65 rfl rfl (by decide) (by omega) mo_st36 ?_
              refine gw_iconst C 0 dX11_makeSecond_66 (by decide) ?_
              refine gw_istore C (lv2 := [(4, iN (0)), (3, iN (mo_s3 s 7)), (2, iN (mo_l3 s 7)), (1, iN (s)), (0, .ref (o))]) dX11_makeSecond_67 (by omega) rfl ?_
              obtain ⟨P, eP⟩ : ∃ P, P = mo_up (mo_rw s 7 M) 36 7 ((24 - mo_s3 s 7) % 3) := ⟨_, rfl⟩
              rw [← eP]
              have p10 : P 10 = N 10 := by rw [eP]; show mo_rw s 7 M 10 = N 10; rw [mo_rw_k (by decide)]; exact f10
              have p11 : P 11 = N 11 := by rw [eP]; show mo_rw s 7 M 11 = N 11; rw [mo_rw_k (by decide)]; exact f11
              have p36 : ∀ j, j < 8 → P 36 j < 3 := fun j hj => by rw [eP]; simp only [mo_up, if_true]; split; exact Nat.mod_lt _ (by decide); rw [mo_rw_v _ _ _ _ (by omega)]; exact Nat.mod_lt _ (by decide)
              have lp3 : ∀ nt t : Nat, t + nt = 18 → gw_G K (mo_ws o ad cI cB cS (mo_m1t s t P)) 0 0 69 [(4, iN (t)), (1, iN (s)), (0, .ref (o))] [] := by
                intro nt
                induction nt with
                | zero =>
                  intro t hit
                  refine gw_iload C 0 dX11_makeSecond_69 rfl ?_
                  refine gw_bipush C 18 dX11_makeSecond_71 (by decide) ?_
                  refine gw_icmp_ge C 155 dX11_makeSecond_73 (by decide) (by omega) (by omega) (fun h77 => ?_) (fun h77 => ?_)
                  ·
                    rw [show t = 18 by omega]
                    refine gw_iinc C (v := nI (s + 1)) (lv2 := [(1, iN (s + 1)), (4, iN (18)), (0, .ref (o))]) 1 dX11_makeSecond_155 rfl (nI_add _ _) (by omega) rfl ?_
                    refine gw_goto C 2 dX11_makeSecond_158 (by decide) ?_
                    refine gw_lv (lv2 := [(1, iN (s + 1)), (0, .ref (o))]) [0, 2] rfl ?_
                    have q := ihs (s + 1) (by omega)
                    rw [mo_m1, ← eM, ← eP] at q
                    exact q
                  ·
                    exact absurd h77 (by omega)
                | succ nt iht =>
                  intro t hit
                  refine gw_iload C 0 dX11_makeSecond_69 rfl ?_
                  refine gw_bipush C 18 dX11_makeSecond_71 (by decide) ?_
                  refine gw_icmp_ge C 155 dX11_makeSecond_73 (by decide) (by omega) (by omega) (fun h78 => ?_) (fun h78 => ?_)
                  ·
                    exact absurd h78 (by omega)
                  ·
                    have q10 : mo_m1t s t P 10 = N 10 := by rw [mo_m1t_k (by decide)]; exact p10
                    have q11 : mo_m1t s t P 11 = N 11 := by rw [mo_m1t_k (by decide)]; exact p11
                    have q36 : ∀ j, j < 8 → mo_m1t s t P 36 j < 3 := fun j hj => by rw [mo_m1t_k (by decide)]; exact p36 j hj
                    obtain ⟨Q, eQ⟩ : ∃ Q, Q = mo_m1t s t P := ⟨_, rfl⟩
                    rw [← eQ] at q10 q11 q36
                    rw [← eQ]
                    refine gw_iconst C 0 dX11_makeSecond_76 (by decide) ?_
                    refine gw_istore C (lv2 := [(5, iN (0)), (4, iN (t)), (1, iN (s)), (0, .ref (o))]) dX11_makeSecond_77 (by omega) rfl ?_
                    refine gw_bipush C 6 dX11_makeSecond_79 (by decide) ?_
                    refine gw_istore C (lv2 := [(6, iN (6)), (5, iN (0)), (4, iN (t)), (1, iN (s)), (0, .ref (o))]) dX11_makeSecond_81 (by omega) rfl ?_
                    refine gw_lv (lv2 := [(6, iN (mo_dn 7 0)), (5, iN (mo_nx2 Q t 0)), (4, iN t), (1, iN s), (0, .ref o)]) [0, 1, 2, 3, 4] rfl ?_
                    have lp4 : ∀ nk k : Nat, k + nk = 7 → gw_G K (mo_ws o ad cI cB cS (Q)) 0 0 83 [(6, iN (mo_dn 7 k)), (5, iN (mo_nx2 Q t k)), (4, iN (t)), (1, iN (s)), (0, .ref (o))] [] := by
                      intro nk
                      induction nk with
                      | zero =>
                        intro k hik
                        have d32 := mo_dn_32 (n := 7) (t := k) (by omega)
                        have d33 : k < 7 → mo_dn 7 k = 7 - 1 - k := mo_dn_lt
                        have d34 : ¬ k < 7 → mo_dn 7 k = 4294967295 := mo_dn_ge
                        refine gw_iload C 0 dX11_makeSecond_83 rfl ?_
                        refine gw_if_lt32 C 135 dX11_makeSecond_85 (by decide) (by omega) (fun h79 => ?_) (fun h79 => ?_)
                        ·
                          rw [show k = 7 by omega]
                          refine gw_aload_n C 4 dX11_makeSecond_135 rfl rfl ?_
                          refine gw_get C 0 32 in_X11_makeSecond dX11_makeSecond_136 lk_X11_makeSecond_100 rfl rfl (by decide) rfl rfl ?_
                          refine gw_bipush C 18 dX11_makeSecond_139 (by decide) ?_
                          refine gw_iload_n C 3 dX11_makeSecond_141 rfl rfl ?_
                          refine gw_imul C dX11_makeSecond_142 ?_
                          refine gw_iload C 2 dX11_makeSecond_143 rfl ?_
                          refine gw_iadd C dX11_makeSecond_145 ?_
                          refine gw_iload C 1 dX11_makeSecond_146 rfl ?_
                          refine gw_ist C 29 0 dX11_makeSecond_148 rfl rfl (by decide) (by omega) mo_st32 ?_
                          refine gw_iinc C (v := nI (t + 1)) (lv2 := [(4, iN (t + 1)), (6, iN (mo_dn 7 7)), (5, iN (mo_nx2 Q t 7)), (1, iN (s)), (0, .ref (o))]) 2 dX11_makeSecond_149 rfl (nI_add _ _) (by omega) rfl ?_
                          refine gw_goto C 69 dX11_makeSecond_152 (by decide) ?_
                          refine gw_lv (lv2 := [(4, iN (t + 1)), (1, iN (s)), (0, .ref (o))]) [0, 3, 4] rfl ?_
                          have q := iht (t + 1) (by omega)
                          rw [mo_m1t, ← eQ] at q
                          exact q
                        ·
                          exact absurd h79 (by omega)
                      | succ nk ihk =>
                        intro k hik
                        have d32 := mo_dn_32 (n := 7) (t := k) (by omega)
                        have d33 : k < 7 → mo_dn 7 k = 7 - 1 - k := mo_dn_lt
                        have d34 : ¬ k < 7 → mo_dn 7 k = 4294967295 := mo_dn_ge
                        refine gw_iload C 0 dX11_makeSecond_83 rfl ?_
                        refine gw_if_lt32 C 135 dX11_makeSecond_85 (by decide) (by omega) (fun h80 => ?_) (fun h80 => ?_)
                        ·
                          exact absurd h80 (by omega)
                        ·
                          rw [mo_dn_lt (show k < 7 by omega)]
                          have c1 : Q 10 (8 * t + (7 - 1 - k)) < 8 := by rw [q10]; exact hf _ (by omega)
                          have c2 : Q 11 (8 * t + (7 - 1 - k)) < 3 := by rw [q11]; exact hmm _ (by omega)
                          have c3 := q36 _ c1
                          refine gw_iconst C 3 dX11_makeSecond_88 (by decide) ?_
                          refine gw_iload C 1 dX11_makeSecond_89 rfl ?_
                          refine gw_imul C dX11_makeSecond_91 ?_
                          refine gw_aload_n C 4 dX11_makeSecond_92 rfl rfl ?_
                          refine gw_get C 0 36 in_X11_makeSecond dX11_makeSecond_93 lk_X11_makeSecond_112 rfl rfl (by decide) rfl rfl ?_
                          refine gw_aload_n C 4 dX11_makeSecond_96 rfl rfl ?_
                          refine gw_get C 0 10 in_X11_makeSecond dX11_makeSecond_97 lk_X11_makeSecond_40 rfl rfl (by decide) rfl rfl ?_
                          refine gw_bipush C 8 dX11_makeSecond_100 (by decide) ?_
                          refine gw_iload C 2 dX11_makeSecond_102 rfl ?_
                          refine gw_imul C dX11_makeSecond_104 ?_
                          refine gw_iload C 0 dX11_makeSecond_105 rfl ?_
                          refine gw_iadd C dX11_makeSecond_107 ?_
                          refine gw_ild C (v := nI (Q 10 (((8) * (t)) + (7 - 1 - k)))) 11 0 dX11_makeSecond_108 rfl rfl (by decide) (by omega) (by first | rfl | simp [mo_up]) ?_
                          refine gw_ild C (v := nI (Q 36 (Q 10 (((8) * (t)) + (7 - 1 - k))))) 33 0 dX11_makeSecond_109 rfl rfl (by decide) (by omega) (by first | rfl | simp [mo_up]) ?_
                          refine gw_aload_n C 4 dX11_makeSecond_110 rfl rfl ?_
                          refine gw_get C 0 11 in_X11_makeSecond dX11_makeSecond_111 lk_X11_makeSecond_43 rfl rfl (by decide) rfl rfl ?_
                          refine gw_bipush C 8 dX11_makeSecond_114 (by decide) ?_
                          refine gw_iload C 2 dX11_makeSecond_116 rfl ?_
                          refine gw_imul C dX11_makeSecond_118 ?_
                          refine gw_iload C 0 dX11_makeSecond_119 rfl ?_
                          refine gw_iadd C dX11_makeSecond_121 ?_
                          refine gw_ild C (v := nI (Q 11 (((8) * (t)) + (7 - 1 - k)))) 12 0 dX11_makeSecond_122 rfl rfl (by decide) (by omega) (by first | rfl | simp [mo_up]) ?_
                          refine gw_iadd C dX11_makeSecond_123 ?_
                          refine gw_iconst C 3 dX11_makeSecond_124 (by decide) ?_
                          refine gw_irem C dX11_makeSecond_125 (by omega) (by omega) (by omega) ?_
                          refine gw_iadd C dX11_makeSecond_126 ?_
                          refine gw_istore C (lv2 := [(5, iN (((3) * (mo_nx2 Q t k)) + (((Q 36 (Q 10 (((8) * (t)) + (7 - 1 - k)))) + (Q 11 (((8) * (t)) + (7 - 1 - k)))) % (3)))), (6, iN (7 - 1 - k)), (4, iN (t)), (1, iN (s)), (0, .ref (o))]) dX11_makeSecond_127 (by omega) rfl ?_
                          refine gw_iinc C (v := nI (mo_dn 7 (k + 1))) (lv2 := [(6, iN (mo_dn 7 (k + 1))), (5, iN (((3) * (mo_nx2 Q t k)) + (((Q 36 (Q 10 (((8) * (t)) + (7 - 1 - k)))) + (Q 11 (((8) * (t)) + (7 - 1 - k)))) % (3)))), (4, iN (t)), (1, iN (s)), (0, .ref (o))]) 1 dX11_makeSecond_129 rfl (mo_dn_dec (by omega)) (by omega) rfl ?_
                          refine gw_goto C 83 dX11_makeSecond_132 (by decide) ?_
                          refine gw_lv (lv2 := [(6, iN (mo_dn 7 (k + 1))), (5, iN (((3) * (mo_nx2 Q t k)) + (((Q 36 (Q 10 (((8) * (t)) + (7 - 1 - k)))) + (Q 11 (((8) * (t)) + (7 - 1 - k)))) % (3)))), (4, iN (t)), (1, iN (s)), (0, .ref (o))]) [0, 1, 2, 3, 4] rfl ?_
                          exact ihk (k + 1) (by omega)
                    refine gw_lv (lv2 := [(6, iN (mo_dn 7 0)), (5, iN (mo_nx2 Q t 0)), (4, iN (t)), (1, iN (s)), (0, .ref (o))]) [0, 1, 2, 3, 4] rfl ?_
                    exact lp4 (7 - 0) 0 (by omega)
              refine gw_lv (lv2 := [(4, iN (0)), (1, iN (s)), (0, .ref (o))]) [0, 3, 4] rfl ?_
              exact lp3 (18 - 0) 0 (by omega)
            ·
              exact absurd h76 (by omega)
          | succ np ihp =>
            intro p hip
            refine gw_iload C 0 dX11_makeSecond_16 rfl ?_
            refine gw_bipush C 7 dX11_makeSecond_18 (by decide) ?_
            refine gw_icmp_ge C 53 dX11_makeSecond_20 (by decide) (by omega) (by omega) (fun h81 => ?_) (fun h81 => ?_)
            ·
              exact absurd h81 (by omega)
            ·
              have l1 := mo_l3_le s p
              have l2 := mo_s3_le s p
              refine gw_aload_n C 4 dX11_makeSecond_23 rfl rfl ?_
              refine gw_get C 0 36 in_X11_makeSecond dX11_makeSecond_24 lk_X11_makeSecond_112 rfl rfl (by decide) rfl rfl ?_
              refine gw_iload C 0 dX11_makeSecond_27 rfl ?_
              refine gw_iload_n C 2 dX11_makeSecond_29 rfl rfl ?_
              refine gw_iconst C 3 dX11_makeSecond_30 (by decide) ?_
              refine gw_irem C dX11_makeSecond_31 (by omega) (by omega) (by omega) ?_
              refine gw_ist C 33 0 dX11_makeSecond_32 rfl rfl (by decide) (by omega) mo_st36 ?_
              refine gw_iload_n C 1 dX11_makeSecond_33 rfl rfl ?_
              refine gw_aload_n C 4 dX11_makeSecond_34 rfl rfl ?_
              refine gw_get C 0 36 in_X11_makeSecond dX11_makeSecond_35 lk_X11_makeSecond_112 rfl rfl (by decide) rfl rfl ?_
              refine gw_iload C 0 dX11_makeSecond_38 rfl ?_
              refine gw_ild C (v := nI ((mo_l3 s p) % (3))) 33 0 dX11_makeSecond_40 rfl rfl (by decide) (by omega) (by first | rfl | simp [mo_up]) ?_
              refine gw_iadd C dX11_makeSecond_41 ?_
              refine gw_istore_n C (lv2 := [(3, iN ((mo_s3 s p) + ((mo_l3 s p) % (3)))), (4, iN (p)), (2, iN (mo_l3 s p)), (1, iN (s)), (0, .ref (o))]) dX11_makeSecond_42 rfl (by omega) rfl ?_
              refine gw_iload_n C 2 dX11_makeSecond_43 rfl rfl ?_
              refine gw_iconst C 3 dX11_makeSecond_44 (by decide) ?_
              refine gw_idiv C dX11_makeSecond_45 (by omega) (by omega) (by omega) ?_
              refine gw_istore_n C (lv2 := [(2, iN ((mo_l3 s p) / (3))), (3, iN ((mo_s3 s p) + ((mo_l3 s p) % (3)))), (4, iN (p)), (1, iN (s)), (0, .ref (o))]) dX11_makeSecond_46 rfl (by omega) rfl ?_
              refine gw_iinc C (v := nI (p + 1)) (lv2 := [(4, iN (p + 1)), (2, iN ((mo_l3 s p) / (3))), (3, iN ((mo_s3 s p) + ((mo_l3 s p) % (3)))), (1, iN (s)), (0, .ref (o))]) 2 dX11_makeSecond_47 rfl (nI_add _ _) (by omega) rfl ?_
              refine gw_goto C 16 dX11_makeSecond_50 (by decide) ?_
              refine gw_lv (lv2 := [(4, iN (p + 1)), (3, iN ((mo_s3 s p) + ((mo_l3 s p) % (3)))), (2, iN ((mo_l3 s p) / (3))), (1, iN (s)), (0, .ref (o))]) [0, 2, 1, 3, 4] rfl ?_
              exact ihp (p + 1) (by omega)
        refine gw_lv (lv2 := [(4, iN (0)), (3, iN (0)), (2, iN (s)), (1, iN (s)), (0, .ref (o))]) [0, 1, 2, 3, 4] rfl ?_
        exact lp2 (7 - 0) 0 (by omega)
  refine gw_lv (lv2 := [(1, iN (0)), (0, .ref (o))]) [0, 1] rfl ?_
  exact lp (2187 - 0) 0 (by omega)
