/-- makeFourth -/
def mo_q4 (sl fc : Nat) : Nat → (Nat → Nat → Nat) → Nat → Nat → Nat
  | 0, N => N
  | p + 1, N => mo_up (mo_q4 sl fc p N) 36 p (mo_q4 sl fc p N 37 (mo_q4 sl fc p N 12 (12 * (3 * fc + 1) + 4 * sl + p) - 4 * sl))
def mo_q4R (sl r fc : Nat) (N : Nat → Nat → Nat) : Nat → Nat → Nat := mo_q4 sl fc 4 (mo_r1 4 (mo_unr 4 r N))
def mo_f4f (sl r : Nat) : Nat → (Nat → Nat → Nat) → Nat → Nat → Nat
  | 0, N => N
  | fc + 1, N => mo_up (mo_q4R sl r fc (mo_f4f sl r fc N)) 35 (6 * (24 * sl + r) + fc) (mo_rk (mo_q4R sl r fc (mo_f4f sl r fc N) 36) 4 4)
def mo_f4r (sl : Nat) : Nat → (Nat → Nat → Nat) → Nat → Nat → Nat
  | 0, N => N
  | r + 1, N => mo_f4f sl r 6 (mo_f4r sl r N)
def mo_f4s : Nat → (Nat → Nat → Nat) → Nat → Nat → Nat
  | 0, N => N
  | sl + 1, N => mo_f4r sl 24 (mo_f4s sl N)
def mo_g4f (k : Nat) : Nat → (Nat → Nat → Nat) → Nat → Nat → Nat
  | 0, N => N
  | fc + 1, N => mo_up (mo_sqR (mo_g4f k fc N) 31 k (3 * fc + 1)) 35 (6 * (72 + k) + fc) (mo_g4f k fc N 30 (mo_rk (mo_sqR (mo_g4f k fc N) 31 k (3 * fc + 1) 36) 8 8))
def mo_g4 : Nat → (Nat → Nat → Nat) → Nat → Nat → Nat
  | 0, N => N
  | k + 1, N => mo_g4f k 6 (mo_g4 k N)
def mo_tabD (N : Nat → Nat → Nat) : Nat → Nat → Nat := mo_g4 96 (mo_f4s 3 N)
def mo_near4 (N : Nat → Nat → Nat) : Nat → (Nat → Nat) × Nat := bf_l2 (mo_nxD (mo_tabD N)) bf_one 6 1327104 (up1 (fl1 100 (mo_tabD N 23) 1327104) 0 0)
theorem mo_q4_k {k : Nat} (h : k ≠ 36) (sl fc : Nat) (N : Nat → Nat → Nat) : ∀ p, mo_q4 sl fc p N k = N k := by
  intro p
  induction p with
  | zero => rfl
  | succ p ih => funext j; simp [mo_q4, mo_up, h, ih]
theorem mo_q4R_k {k : Nat} (h1 : k ≠ 36) (h2 : k ≠ 37) (sl r fc : Nat) (N : Nat → Nat → Nat) : mo_q4R sl r fc N k = N k := by
  rw [mo_q4R, mo_q4_k h1, mo_r1_k h2, mo_unr_k h1]
theorem mo_q4_v (sl fc : Nat) (N : Nat → Nat → Nat) : ∀ p j, j < p → mo_q4 sl fc p N 36 j = N 37 (N 12 (12 * (3 * fc + 1) + 4 * sl + j) - 4 * sl) := by
  intro p
  induction p with
  | zero => intro j h; omega
  | succ p ih =>
    intro j h
    rw [mo_q4]
    by_cases e : j = p
    · subst e; simp [mo_up, mo_q4_k (k := 37) (by decide), mo_q4_k (k := 12) (by decide)]
    · simp [mo_up, e, ih j (by omega)]
theorem mo_q4R_v (sl r fc : Nat) (N : Nat → Nat → Nat) (j : Nat) (hj : j < 4) (h : N 12 (12 * (3 * fc + 1) + 4 * sl + j) - 4 * sl < 4) : mo_q4R sl r fc N 36 j = mo_unr 4 r N 36 (N 12 (12 * (3 * fc + 1) + 4 * sl + j) - 4 * sl) := by
  have e : (mo_r1 4 (mo_unr 4 r N)) 12 = N 12 := by rw [mo_r1_k (by decide), mo_unr_k (by decide)]
  rw [mo_q4R, mo_q4_v _ _ _ _ _ hj, e, mo_r1_v _ _ _ h]
theorem mo_f4f_k {k : Nat} (h1 : k ≠ 35) (h2 : k ≠ 36) (h3 : k ≠ 37) (sl r : Nat) (N : Nat → Nat → Nat) : ∀ t, mo_f4f sl r t N k = N k := by
  intro t
  induction t with
  | zero => rfl
  | succ t ih => funext j; simp [mo_f4f, mo_up, h1, mo_q4R_k h2 h3, ih]
theorem mo_f4r_k {k : Nat} (h1 : k ≠ 35) (h2 : k ≠ 36) (h3 : k ≠ 37) (sl : Nat) (N : Nat → Nat → Nat) : ∀ t, mo_f4r sl t N k = N k := by
  intro t
  induction t with
  | zero => rfl
  | succ t ih => rw [mo_f4r, mo_f4f_k h1 h2 h3, ih]
theorem mo_f4s_k {k : Nat} (h1 : k ≠ 35) (h2 : k ≠ 36) (h3 : k ≠ 37) (N : Nat → Nat → Nat) : ∀ t, mo_f4s t N k = N k := by
  intro t
  induction t with
  | zero => rfl
  | succ t ih => rw [mo_f4s, mo_f4r_k h1 h2 h3, ih]
theorem mo_g4f_k {k : Nat} (h1 : k ≠ 35) (h2 : k ≠ 36) (h3 : k ≠ 37) (q : Nat) (N : Nat → Nat → Nat) : ∀ t, mo_g4f q t N k = N k := by
  intro t
  induction t with
  | zero => rfl
  | succ t ih => funext j; simp [mo_g4f, mo_up, h1, mo_sqR_k h2 h3, ih]
theorem mo_g4_k {k : Nat} (h1 : k ≠ 35) (h2 : k ≠ 36) (h3 : k ≠ 37) (N : Nat → Nat → Nat) : ∀ t, mo_g4 t N k = N k := by
  intro t
  induction t with
  | zero => rfl
  | succ t ih => rw [mo_g4, mo_g4f_k h1 h2 h3, ih]
theorem in_X11_makeFourth : ∀ w ∈ wsX110, w ∈ wsX11_makeFourth := fun _ h => List.mem_cons_of_mem _ (List.mem_append_right _ h)
theorem lk_X11_makeFourth_46 : Cond.fieldLink RX11 46 "StageCubeModel" "edgeFrom" "[I" ∈ wsX11_makeFourth := by decide +kernel
theorem lk_X11_makeFourth_70 : Cond.fieldLink RX11 70 "StageCubeModel" "near4" "[B" ∈ wsX11_makeFourth := by decide +kernel
theorem lk_X11_makeFourth_93 : Cond.fieldLink RX11 93 "StageCubeModel" "squareOf" "[S" ∈ wsX11_makeFourth := by decide +kernel
theorem lk_X11_makeFourth_96 : Cond.fieldLink RX11 96 "StageCubeModel" "squareAt" "[I" ∈ wsX11_makeFourth := by decide +kernel
theorem lk_X11_makeFourth_109 : Cond.fieldLink RX11 109 "StageCubeModel" "move4" "[I" ∈ wsX11_makeFourth := by decide +kernel
theorem lk_X11_makeFourth_112 : Cond.fieldLink RX11 112 "StageCubeModel" "row" "[I" ∈ wsX11_makeFourth := by decide +kernel
theorem lk_X11_makeFourth_115 : Cond.fieldLink RX11 115 "StageCubeModel" "other" "[I" ∈ wsX11_makeFourth := by decide +kernel
set_option maxHeartbeats 4000000 in
set_option maxRecDepth 100000 in
theorem c_makeFourth (l : Launch) (D : va_G) (cI cB cS cJ cF cG : ClassId) (zz : (Nat → Prop) → State → Heap → Prop) (hz : gw_zT zz) (o : Nat) (ad : Nat → Nat) (N : Nat → Nat → Nat) (hN : ∀ j, N 23 j ≤ 100) (hf : ∀ j, j < 144 → N 10 j < 8) (he : ∀ fc sl p, fc < 6 → sl < 3 → p < 4 → 4 * sl ≤ N 12 (12 * (3 * fc + 1) + 4 * sl + p) ∧ N 12 (12 * (3 * fc + 1) + 4 * sl + p) < 4 * sl + 4) (h31 : ∀ j, j < 96 → N 31 j < 2 ^ 31) (hx : ∀ k t, k < 1327104 → t < 6 → mo_nxD (mo_tabD N) k t < 1327104) (E : Nat) (hE : E < 99) (hE0 : (mo_near4 N E).2 = 0) (hE1 : ∀ d, d < E → (mo_near4 N d).2 ≠ 0) : gw_CV l yX11_makeFourth wsX11_makeFourth 2 50 0 0 D (mo_ty cI cB cS cJ cF cG) zz (mo_ws o ad cI cB cS N) [.ref o] (fun N' => N' = mo_a (mo_tabD N) 23 (mo_near4 N E).1) (fun N' => mo_ws o ad cI cB cS N') := by
  refine gw_CV.of (cc := cX11_makeFourth) (maxL := 5) hz (by decide) rfl (Nat.le_of_ble_eq_true rfl) ?_
  intro K C hkl hkn hkR hkD hmn ret
  have C : gw_x K cX11_makeFourth RX11 wsX11_makeFourth (mo_ty cI cB cS cJ cF cG) zz := C
  subst hkl hkD
  refine gw_iconst C 0 dX11_makeFourth_0 (by decide) ?_
  refine gw_istore_n C (lv2 := [(1, iN (0)), (0, .ref (o))]) dX11_makeFourth_1 rfl (by omega) rfl ?_
  have lpS : ∀ nsl sl : Nat, sl + nsl = 3 → gw_G K (mo_ws o ad cI cB cS (mo_f4s sl N)) 0 0 2 [(1, iN (sl)), (0, .ref (o))] [] := by
    intro nsl
    induction nsl with
    | zero =>
      intro sl hisl
      refine gw_iload_n C 0 dX11_makeFourth_2 rfl rfl ?_
      refine gw_iconst C 3 dX11_makeFourth_3 (by decide) ?_
      refine gw_icmp_ge C 148 dX11_makeFourth_4 (by decide) (by omega) (by omega) (fun h61 => ?_) (fun h61 => ?_)
      ·
        rw [show sl = 3 by omega]
        have f10 : mo_f4s 3 N 10 = N 10 := mo_f4s_k (by decide) (by decide) (by decide) N 3
        have f31 : mo_f4s 3 N 31 = N 31 := mo_f4s_k (by decide) (by decide) (by decide) N 3
        obtain ⟨B, eB⟩ : ∃ B, B = mo_f4s 3 N := ⟨_, rfl⟩
        rw [← eB] at f10 f31
        rw [← eB]
        refine gw_iconst C 0 dX11_makeFourth_148 (by decide) ?_
        refine gw_istore_n C (lv2 := [(1, iN (0)), (0, .ref (o))]) dX11_makeFourth_149 rfl (by omega) rfl ?_
        have lpK : ∀ nk k : Nat, k + nk = 96 → gw_G K (mo_ws o ad cI cB cS (mo_g4 k B)) 0 0 150 [(1, iN (k)), (0, .ref (o))] [] := by
          intro nk
          induction nk with
          | zero =>
            intro k hik
            refine gw_iload_n C 0 dX11_makeFourth_150 rfl rfl ?_
            refine gw_bipush C 96 dX11_makeFourth_151 (by decide) ?_
            refine gw_icmp_ge C 222 dX11_makeFourth_153 (by decide) (by omega) (by omega) (fun h62 => ?_) (fun h62 => ?_)
            ·
              rw [show k = 96 by omega, eB]
              rw [show mo_g4 96 (mo_f4s 3 N) = mo_tabD N from rfl]
              have t23 : ∀ j, mo_tabD N 23 j ≤ 100 := fun j => by unfold mo_tabD; rw [mo_g4_k (by decide) (by decide) (by decide), mo_f4s_k (by decide) (by decide) (by decide)]; exact hN j
              refine gw_ldc C (x := 1327104) 1327104 dX11_makeFourth_222 (by decide) (by decide +kernel) ?_
              refine gw_istore_n C (lv2 := [(1, iN (1327104)), (0, .ref (o))]) dX11_makeFourth_224 rfl (by omega) rfl ?_
              refine gw_iconst C 0 dX11_makeFourth_225 (by decide) ?_
              refine gw_istore_n C (lv2 := [(2, iN (0)), (1, iN (1327104)), (0, .ref (o))]) dX11_makeFourth_226 rfl (by omega) rfl ?_
              refine gw_ws (ws2 := mo_ws o ad cI cB cS (mo_a (mo_tabD N) 23 (fl1 100 (mo_tabD N 23) 0))) (by rw [fl1_0, mo_a_self]) ?_
              have lpf : ∀ ni i : Nat, i + ni = 1327104 → gw_G K (mo_ws o ad cI cB cS (mo_a (mo_tabD N) 23 (fl1 100 (mo_tabD N 23) i))) 0 0 227 [(2, iN (i)), (1, iN (1327104)), (0, .ref (o))] [] := by
                intro ni
                induction ni with
                | zero =>
                  intro i hii
                  refine gw_iload_n C 0 dX11_makeFourth_227 rfl rfl ?_
                  refine gw_iload_n C 1 dX11_makeFourth_228 rfl rfl ?_
                  refine gw_icmp_ge C 246 dX11_makeFourth_229 (by decide) (by omega) (by omega) (fun h63 => ?_) (fun h63 => ?_)
                  ·
                    rw [show i = 1327104 by omega]
                    refine gw_aload_n C 2 dX11_makeFourth_246 rfl rfl ?_
                    refine gw_get C 0 23 in_X11_makeFourth dX11_makeFourth_247 lk_X11_makeFourth_70 rfl rfl (by decide) rfl rfl ?_
                    refine gw_iconst C 0 dX11_makeFourth_250 (by decide) ?_
                    refine gw_iconst C 0 dX11_makeFourth_251 (by decide) ?_
                    refine gw_bst C 20 1 dX11_makeFourth_252 rfl rfl (by decide) (by omega) (by decide) mo_st23 ?_
                    refine gw_iconst C 1 dX11_makeFourth_253 (by decide) ?_
                    refine gw_istore_n C (lv2 := [(2, iN (1)), (1, iN (1327104)), (0, .ref (o))]) dX11_makeFourth_254 rfl (by omega) rfl ?_
                    refine gw_iconst C 0 dX11_makeFourth_255 (by decide) ?_
                    refine gw_istore_n C (lv2 := [(3, iN (0)), (2, iN (1)), (1, iN (1327104)), (0, .ref (o))]) dX11_makeFourth_256 rfl (by omega) rfl ?_
                    rw [mo_up_a]
                    have hok : ∀ d, d ≤ 100 → bf_ok (mo_near4 N d) := bf_l2_ok _ _ (fun j => by simp only [up1, fl1]; split; omega; split; omega; exact t23 j)
                    have lpd : ∀ nd d : Nat, d + nd = E → gw_G K (mo_ws o ad cI cB cS (mo_a (mo_tabD N) 23 (mo_near4 N d).1)) 0 0 257 [(3, iN d), (2, iN (mo_near4 N d).2), (1, iN 1327104), (0, .ref o)] [] := by
                      intro nd
                      induction nd with
                      | zero =>
                        intro d hd
                        have hd2 : d = E := by omega
                        subst hd2
                        rw [hE0]
                        refine gw_iload_n C 1 dX11_makeFourth_257 rfl rfl ?_
                        refine gw_if_eq C 315 dX11_makeFourth_258 (by decide) (by omega) (fun h64 => ?_) (fun h64 => ?_)
                        ·
                          exact ret _ dX11_makeFourth_315 rfl rfl (Nat.le_refl 0) (Nat.le_refl 0)
                        ·
                          exact absurd h64 (by omega)
                      | succ nd ihd =>
                        intro d hd
                        have hm := hE1 d (by omega)
                        have hk := hok d (by omega)
                        have hk2 := hk.2
                        obtain ⟨S0, eS0⟩ : ∃ S0, S0 = ((mo_near4 N d).1, 0) := ⟨_, rfl⟩
                        have ok0 : bf_ok S0 := by rw [eS0]; exact ⟨hk.1, Nat.zero_le 1⟩
                        refine gw_iload_n C 1 dX11_makeFourth_257 rfl rfl ?_
                        refine gw_if_eq C 315 dX11_makeFourth_258 (by decide) (by omega) (fun h65 => ?_) (fun h65 => ?_)
                        ·
                          exact absurd h65 hm
                        ·
                          refine gw_iconst C 0 dX11_makeFourth_261 (by decide) ?_
                          refine gw_istore_n C (lv2 := [(2, iN (0)), (3, iN (d)), (1, iN (1327104)), (0, .ref (o))]) dX11_makeFourth_262 rfl (by omega) rfl ?_
                          refine gw_iconst C 0 dX11_makeFourth_263 (by decide) ?_
                          refine gw_istore C (lv2 := [(4, iN (0)), (2, iN (0)), (3, iN (d)), (1, iN (1327104)), (0, .ref (o))]) dX11_makeFourth_264 (by omega) rfl ?_
                          refine gw_ws (ws2 := mo_ws o ad cI cB cS (mo_a (mo_tabD N) 23 (bf_r2 (mo_nxD (mo_tabD N)) bf_one 6 d 0 S0).1)) (by rw [eS0]; rfl) ?_
                          refine gw_lv (lv2 := [(4, iN 0), (2, iN (bf_r2 (mo_nxD (mo_tabD N)) bf_one 6 d 0 S0).2), (3, iN d), (1, iN 1327104), (0, .ref o)]) [0, 1, 2, 3, 4] (by rw [eS0]; rfl) ?_
                          have lpk : ∀ nk k : Nat, k + nk = 1327104 → gw_G K (mo_ws o ad cI cB cS (mo_a (mo_tabD N) 23 ((bf_r2 (mo_nxD (mo_tabD N)) bf_one 6 d k S0).1))) 0 0 266 [(4, iN (k)), (2, iN ((bf_r2 (mo_nxD (mo_tabD N)) bf_one 6 d k S0).2)), (3, iN (d)), (1, iN (1327104)), (0, .ref (o))] [] := by
                            intro nk
                            induction nk with
                            | zero =>
                              intro k hik
                              refine gw_iload C 0 dX11_makeFourth_266 rfl ?_
                              refine gw_iload_n C 3 dX11_makeFourth_268 rfl rfl ?_
                              refine gw_icmp_ge C 309 dX11_makeFourth_269 (by decide) (by omega) (by omega) (fun h66 => ?_) (fun h66 => ?_)
                              ·
                                rw [show k = 1327104 by omega]
                                refine gw_iinc C (v := nI (d + 1)) (lv2 := [(3, iN (d + 1)), (4, iN (1327104)), (2, iN ((bf_r2 (mo_nxD (mo_tabD N)) bf_one 6 d 1327104 S0).2)), (1, iN (1327104)), (0, .ref (o))]) 2 dX11_makeFourth_309 rfl (nI_add _ _) (by omega) rfl ?_
                                refine gw_goto C 257 dX11_makeFourth_312 (by decide) ?_
                                refine gw_lv (lv2 := [(3, iN (d + 1)), (2, iN ((bf_r2 (mo_nxD (mo_tabD N)) bf_one 6 d 1327104 S0).2)), (1, iN (1327104)), (0, .ref (o))]) [0, 2, 3, 4] rfl ?_
                                have q := ihd (d + 1) (by omega)
                                rw [show mo_near4 N (d + 1) = bf_r2 (mo_nxD (mo_tabD N)) bf_one 6 d 1327104 S0 by rw [eS0]; rfl] at q
                                exact q
                              ·
                                exact absurd h66 (by omega)
                            | succ nk ihk =>
                              intro k hik
                              refine gw_iload C 0 dX11_makeFourth_266 rfl ?_
                              refine gw_iload_n C 3 dX11_makeFourth_268 rfl rfl ?_
                              refine gw_icmp_ge C 309 dX11_makeFourth_269 (by decide) (by omega) (by omega) (fun h67 => ?_) (fun h67 => ?_)
                              ·
                                exact absurd h67 (by omega)
                              ·
                                have ok := bf_r2_ok (mo_nxD (mo_tabD N)) bf_one (T := 6) (d := d) (by omega) ok0 k
                                obtain ⟨S, eS⟩ : ∃ S, S = bf_r2 (mo_nxD (mo_tabD N)) bf_one 6 d k S0 := ⟨_, rfl⟩
                                rw [← eS] at ok
                                rw [← eS]
                                have okk := ok.1 k
                                have ok2 := ok.2
                                refine gw_aload_n C 4 dX11_makeFourth_272 rfl rfl ?_
                                refine gw_get C 0 23 in_X11_makeFourth dX11_makeFourth_273 lk_X11_makeFourth_70 rfl rfl (by decide) rfl rfl ?_
                                refine gw_iload C 0 dX11_makeFourth_276 rfl ?_
                                refine gw_bld C (v := nI ((S.1) (k))) 20 1 dX11_makeFourth_278 rfl rfl (by decide) (by omega) (by rw [mo_a_eq]) ?_
                                refine gw_iload_n C 2 dX11_makeFourth_279 rfl rfl ?_
                                refine gw_icmp_ne C 303 dX11_makeFourth_280 (by decide) (by omega) (by omega) (fun h68 => ?_) (fun h68 => ?_)
                                ·
                                  refine gw_iinc C (v := nI (k + 1)) (lv2 := [(4, iN (k + 1)), (2, iN (S.2)), (3, iN (d)), (1, iN (1327104)), (0, .ref (o))]) 0 dX11_makeFourth_303 rfl (nI_add _ _) (by omega) rfl ?_
                                  refine gw_goto C 266 dX11_makeFourth_306 (by decide) ?_
                                  refine gw_lv (lv2 := [(4, iN (k + 1)), (2, iN (S.2)), (3, iN (d)), (1, iN (1327104)), (0, .ref (o))]) [0, 1, 2, 3, 4] rfl ?_
                                  have q := ihk (k + 1) (by omega)
                                  rw [bf_r2, ← eS, bf_q2, if_neg h68] at q
                                  exact q
                                ·
                                  refine gw_aload_n C 4 dX11_makeFourth_283 rfl rfl ?_
                                  refine gw_iload C 0 dX11_makeFourth_284 rfl ?_
                                  refine gw_iload_n C 2 dX11_makeFourth_286 rfl rfl ?_
                                  refine gw_allVI (n := 2) C (c_spread4 (kl K) (kD K) cI cB cS cJ cF cG zz hz o ad (mo_tabD N) S.1 k d (by omega) (by omega) ok.1 (fun t ht => hx k t (by omega) ht)) 0 rfl rfl rfl gX11_makeFourth_X11_spread4 rfl (by decide +kernel) dX11_makeFourth_287 (by rw [hkR]; decide) (by rw [hkR]; decide) rfl (Nat.le_of_ble_eq_true rfl) rfl (fun rv9 v9 hv9 => ?_)
                                  obtain ⟨rfl, rfl⟩ := hv9
                                  have okt := (bf_t2_ok (mo_nxD (mo_tabD N)) bf_one (d := d) (s := k) (S := (S.1, 0)) (by omega) ⟨ok.1, Nat.zero_le 1⟩ 6).2
                                  obtain ⟨Q, eQ⟩ : ∃ Q, Q = bf_t2 (mo_nxD (mo_tabD N)) bf_one d k 6 (S.1, 0) := ⟨_, rfl⟩
                                  rw [← eQ] at okt
                                  rw [← eQ]
                                  refine gw_if_ne C 297 dX11_makeFourth_290 (by decide) (by omega) (fun h69 => ?_) (fun h69 => ?_)
                                  ·
                                    refine gw_iconst C 1 dX11_makeFourth_297 (by decide) ?_
                                    refine gw_goto C 302 dX11_makeFourth_298 (by decide) ?_
                                    refine gw_istore_n C (lv2 := [(2, iN (1)), (4, iN (k)), (3, iN (d)), (1, iN (1327104)), (0, .ref (o))]) dX11_makeFourth_302 rfl (by omega) rfl ?_
                                    refine gw_iinc C (v := nI (k + 1)) (lv2 := [(4, iN (k + 1)), (2, iN (1)), (3, iN (d)), (1, iN (1327104)), (0, .ref (o))]) 1 dX11_makeFourth_303 rfl (nI_add _ _) (by omega) rfl ?_
                                    refine gw_goto C 266 dX11_makeFourth_306 (by decide) ?_
                                    refine gw_lv (lv2 := [(4, iN (k + 1)), (2, iN (1)), (3, iN (d)), (1, iN (1327104)), (0, .ref (o))]) [0, 1, 2, 3, 4] rfl ?_
                                    have q := ihk (k + 1) (by omega)
                                    rw [bf_r2, ← eS, bf_q2, if_pos h68, ← eQ] at q
                                    dsimp only at q
                                    rw [if_pos (by omega)] at q
                                    exact q
                                  ·
                                    refine gw_iload_n C 1 dX11_makeFourth_293 rfl rfl ?_
                                    refine gw_if_eq C 301 dX11_makeFourth_294 (by decide) (by omega) (fun h70 => ?_) (fun h70 => ?_)
                                    ·
                                      refine gw_iconst C 0 dX11_makeFourth_301 (by decide) ?_
                                      refine gw_istore_n C (lv2 := [(2, iN (0)), (4, iN (k)), (3, iN (d)), (1, iN (1327104)), (0, .ref (o))]) dX11_makeFourth_302 rfl (by omega) rfl ?_
                                      refine gw_iinc C (v := nI (k + 1)) (lv2 := [(4, iN (k + 1)), (2, iN (0)), (3, iN (d)), (1, iN (1327104)), (0, .ref (o))]) 1 dX11_makeFourth_303 rfl (nI_add _ _) (by omega) rfl ?_
                                      refine gw_goto C 266 dX11_makeFourth_306 (by decide) ?_
                                      refine gw_lv (lv2 := [(4, iN (k + 1)), (2, iN (0)), (3, iN (d)), (1, iN (1327104)), (0, .ref (o))]) [0, 1, 2, 3, 4] rfl ?_
                                      have q := ihk (k + 1) (by omega)
                                      rw [bf_r2, ← eS, bf_q2, if_pos h68, ← eQ] at q
                                      dsimp only at q
                                      rw [if_neg (by omega)] at q
                                      exact q
                                    ·
                                      refine gw_iconst C 1 dX11_makeFourth_297 (by decide) ?_
                                      refine gw_goto C 302 dX11_makeFourth_298 (by decide) ?_
                                      refine gw_istore_n C (lv2 := [(2, iN (1)), (4, iN (k)), (3, iN (d)), (1, iN (1327104)), (0, .ref (o))]) dX11_makeFourth_302 rfl (by omega) rfl ?_
                                      refine gw_iinc C (v := nI (k + 1)) (lv2 := [(4, iN (k + 1)), (2, iN (1)), (3, iN (d)), (1, iN (1327104)), (0, .ref (o))]) 1 dX11_makeFourth_303 rfl (nI_add _ _) (by omega) rfl ?_
                                      refine gw_goto C 266 dX11_makeFourth_306 (by decide) ?_
                                      refine gw_lv (lv2 := [(4, iN (k + 1)), (2, iN (1)), (3, iN (d)), (1, iN (1327104)), (0, .ref (o))]) [0, 1, 2, 3, 4] rfl ?_
                                      have q := ihk (k + 1) (by omega)
                                      rw [bf_r2, ← eS, bf_q2, if_pos h68, ← eQ] at q
                                      dsimp only at q
                                      rw [if_pos (by omega)] at q
                                      exact q
                          refine gw_lv (lv2 := [(4, iN (0)), (2, iN ((bf_r2 (mo_nxD (mo_tabD N)) bf_one 6 d 0 S0).2)), (3, iN (d)), (1, iN (1327104)), (0, .ref (o))]) [0, 1, 2, 3, 4] rfl ?_
                          exact lpk (1327104 - 0) 0 (by omega)
                    refine gw_lv (lv2 := [(3, iN (0)), (2, iN (1)), (1, iN (1327104)), (0, .ref (o))]) [0, 1, 2, 3] rfl ?_
                    exact lpd E 0 (by omega)
                  ·
                    exact absurd h63 (by omega)
                | succ ni ihi =>
                  intro i hii
                  refine gw_iload_n C 0 dX11_makeFourth_227 rfl rfl ?_
                  refine gw_iload_n C 1 dX11_makeFourth_228 rfl rfl ?_
                  refine gw_icmp_ge C 246 dX11_makeFourth_229 (by decide) (by omega) (by omega) (fun h71 => ?_) (fun h71 => ?_)
                  ·
                    exact absurd h71 (by omega)
                  ·
                    refine gw_aload_n C 2 dX11_makeFourth_232 rfl rfl ?_
                    refine gw_get C 0 23 in_X11_makeFourth dX11_makeFourth_233 lk_X11_makeFourth_70 rfl rfl (by decide) rfl rfl ?_
                    refine gw_iload_n C 0 dX11_makeFourth_236 rfl rfl ?_
                    refine gw_bipush C 100 dX11_makeFourth_237 (by decide) ?_
                    refine gw_bst C 20 1 dX11_makeFourth_239 rfl rfl (by decide) (by omega) (by decide) mo_st23 ?_
                    refine gw_iinc C (v := nI (i + 1)) (lv2 := [(2, iN (i + 1)), (1, iN (1327104)), (0, .ref (o))]) 0 dX11_makeFourth_240 rfl (nI_add _ _) (by omega) rfl ?_
                    refine gw_goto C 227 dX11_makeFourth_243 (by decide) ?_
                    refine gw_lv (lv2 := [(2, iN (i + 1)), (1, iN (1327104)), (0, .ref (o))]) [0, 1, 2] rfl ?_
                    exact gw_ws (congrArg (mo_ws o ad cI cB cS) (by rw [mo_up_a, fl1_s])) (ihi (i + 1) (by omega))
              refine gw_lv (lv2 := [(2, iN (0)), (1, iN (1327104)), (0, .ref (o))]) [0, 1, 2] rfl ?_
              exact lpf (1327104 - 0) 0 (by omega)
            ·
              exact absurd h62 (by omega)
          | succ nk ihk =>
            intro k hik
            refine gw_iload_n C 0 dX11_makeFourth_150 rfl rfl ?_
            refine gw_bipush C 96 dX11_makeFourth_151 (by decide) ?_
            refine gw_icmp_ge C 222 dX11_makeFourth_153 (by decide) (by omega) (by omega) (fun h72 => ?_) (fun h72 => ?_)
            ·
              exact absurd h72 (by omega)
            ·
              have g10 : mo_g4 k B 10 = N 10 := by rw [mo_g4_k (by decide) (by decide) (by decide)]; exact f10
              have g31 : mo_g4 k B 31 = N 31 := by rw [mo_g4_k (by decide) (by decide) (by decide)]; exact f31
              obtain ⟨M, eM⟩ : ∃ M, M = mo_g4 k B := ⟨_, rfl⟩
              rw [← eM] at g10 g31
              rw [← eM]
              refine gw_iconst C 0 dX11_makeFourth_156 (by decide) ?_
              refine gw_istore_n C (lv2 := [(2, iN (0)), (1, iN (k)), (0, .ref (o))]) dX11_makeFourth_157 rfl (by omega) rfl ?_
              have lpF : ∀ nfc fc : Nat, fc + nfc = 6 → gw_G K (mo_ws o ad cI cB cS (mo_g4f k fc M)) 0 0 158 [(2, iN (fc)), (1, iN (k)), (0, .ref (o))] [] := by
                intro nfc
                induction nfc with
                | zero =>
                  intro fc hifc
                  refine gw_iload_n C 0 dX11_makeFourth_158 rfl rfl ?_
                  refine gw_bipush C 6 dX11_makeFourth_159 (by decide) ?_
                  refine gw_icmp_ge C 216 dX11_makeFourth_161 (by decide) (by omega) (by omega) (fun h73 => ?_) (fun h73 => ?_)
                  ·
                    rw [show fc = 6 by omega]
                    refine gw_iinc C (v := nI (k + 1)) (lv2 := [(1, iN (k + 1)), (2, iN (6)), (0, .ref (o))]) 1 dX11_makeFourth_216 rfl (nI_add _ _) (by omega) rfl ?_
                    refine gw_goto C 150 dX11_makeFourth_219 (by decide) ?_
                    refine gw_lv (lv2 := [(1, iN (k + 1)), (0, .ref (o))]) [0, 2] rfl ?_
                    have q := ihk (k + 1) (by omega)
                    rw [mo_g4, ← eM] at q
                    exact q
                  ·
                    exact absurd h73 (by omega)
                | succ nfc ihfc =>
                  intro fc hifc
                  refine gw_iload_n C 0 dX11_makeFourth_158 rfl rfl ?_
                  refine gw_bipush C 6 dX11_makeFourth_159 (by decide) ?_
                  refine gw_icmp_ge C 216 dX11_makeFourth_161 (by decide) (by omega) (by omega) (fun h74 => ?_) (fun h74 => ?_)
                  ·
                    exact absurd h74 (by omega)
                  ·
                    have q10 : mo_g4f k fc M 10 = N 10 := by rw [mo_g4f_k (by decide) (by decide) (by decide)]; exact g10
                    have q31 : mo_g4f k fc M 31 = N 31 := by rw [mo_g4f_k (by decide) (by decide) (by decide)]; exact g31
                    obtain ⟨P, eP⟩ : ∃ P, P = mo_g4f k fc M := ⟨_, rfl⟩
                    rw [← eP] at q10 q31
                    rw [← eP]
                    have k10 : ∀ j, j < 144 → P 10 j < 8 := fun j hj => by rw [q10]; exact hf j hj
                    have k31 : P 31 k < 2 ^ 31 := by rw [q31]; exact h31 k (by omega)
                    refine gw_aload_n C 2 dX11_makeFourth_164 rfl rfl ?_
                    refine gw_bipush C 8 dX11_makeFourth_165 (by decide) ?_
                    refine gw_aload_n C 2 dX11_makeFourth_167 rfl rfl ?_
                    refine gw_get C 0 31 in_X11_makeFourth dX11_makeFourth_168 lk_X11_makeFourth_96 rfl rfl (by decide) rfl rfl ?_
                    refine gw_iload_n C 1 dX11_makeFourth_171 rfl rfl ?_
                    refine gw_ild C (v := nI (P 31 (k))) 28 0 dX11_makeFourth_172 rfl rfl (by decide) (by omega) (by first | rfl | simp [mo_up]) ?_
                    refine gw_allVV (n := 2) C (c_unrank (kl K) (kD K) cI cB cS cJ cF cG zz hz o ad (P) 8 (P 31 k) (by omega) (by omega) (k31)) 0 rfl rfl rfl gX11_makeFourth_X11_unrank rfl (by decide +kernel) dX11_makeFourth_173 (by rw [hkR]; decide) (by rw [hkR]; decide) rfl (Nat.le_of_ble_eq_true rfl) rfl (fun v1 hv1 => ?_)
                    subst hv1
                    refine gw_aload_n C 2 dX11_makeFourth_176 rfl rfl ?_
                    refine gw_iconst C 3 dX11_makeFourth_177 (by decide) ?_
                    refine gw_iload_n C 0 dX11_makeFourth_178 rfl rfl ?_
                    refine gw_imul C dX11_makeFourth_179 ?_
                    refine gw_iconst C 1 dX11_makeFourth_180 (by decide) ?_
                    refine gw_iadd C dX11_makeFourth_181 ?_
                    refine gw_allVV (n := 1) C (c_turnRow (kl K) (kD K) cI cB cS cJ cF cG zz hz o ad (mo_unr 8 (P 31 k) P) (3 * fc + 1) (by omega) (fun j hj => by rw [mo_unr_k (by decide)]; exact k10 j hj)) 0 rfl rfl rfl gX11_makeFourth_X11_turnRow rfl (by decide +kernel) dX11_makeFourth_182 (by rw [hkR]; decide) (by rw [hkR]; decide) rfl (Nat.le_of_ble_eq_true rfl) rfl (fun v2 hv2 => ?_)
                    subst hv2
                    rw [show mo_trow (3 * fc + 1) (mo_unr 8 (P 31 k) P) = mo_sqR P 31 k (3 * fc + 1) from rfl]
                    have kb : ∀ j, j < 8 → mo_sqR P 31 k (3 * fc + 1) 36 j < 100 := fun j hj => by have := mo_sqR_b P 31 k (3 * fc + 1) j hj (k10 _ (by omega)); omega
                    have kr := mo_rk_lt8 (mo_sqR P 31 k (3 * fc + 1) 36)
                    have ke : mo_sqR P 31 k (3 * fc + 1) 30 = P 30 := mo_sqR_k (by decide) (by decide) P 31 k (3 * fc + 1)
                    obtain ⟨Q, eQ⟩ : ∃ Q, Q = mo_sqR P 31 k (3 * fc + 1) := ⟨_, rfl⟩
                    rw [← eQ] at kb kr ke
                    rw [← eQ]
                    refine gw_aload_n C 2 dX11_makeFourth_185 rfl rfl ?_
                    refine gw_get C 0 35 in_X11_makeFourth dX11_makeFourth_186 lk_X11_makeFourth_109 rfl rfl (by decide) rfl rfl ?_
                    refine gw_bipush C 6 dX11_makeFourth_189 (by decide) ?_
                    refine gw_bipush C 72 dX11_makeFourth_191 (by decide) ?_
                    refine gw_iload_n C 1 dX11_makeFourth_193 rfl rfl ?_
                    refine gw_iadd C dX11_makeFourth_194 ?_
                    refine gw_imul C dX11_makeFourth_195 ?_
                    refine gw_iload_n C 0 dX11_makeFourth_196 rfl rfl ?_
                    refine gw_iadd C dX11_makeFourth_197 ?_
                    refine gw_aload_n C 2 dX11_makeFourth_198 rfl rfl ?_
                    refine gw_get C 0 30 in_X11_makeFourth dX11_makeFourth_199 lk_X11_makeFourth_93 rfl rfl (by decide) rfl rfl ?_
                    refine gw_aload_n C 2 dX11_makeFourth_202 rfl rfl ?_
                    refine gw_bipush C 8 dX11_makeFourth_203 (by decide) ?_
                    refine gw_allVI (n := 1) C (c_rank (kl K) (kD K) cI cB cS cJ cF cG zz hz o ad (Q) 8 (by omega) (kb)) 0 rfl rfl rfl gX11_makeFourth_X11_rank rfl (by decide +kernel) dX11_makeFourth_205 (by rw [hkR]; decide) (by rw [hkR]; decide) rfl (Nat.le_of_ble_eq_true rfl) rfl (fun rv3 v3 hv3 => ?_)
                    obtain ⟨rfl, rfl⟩ := hv3
                    refine gw_sld C (v := nI (v3 30 (mo_rk (v3 36) 8 8))) 27 2 dX11_makeFourth_208 rfl rfl (by decide) (by omega) (by first | rfl | simp [mo_up]) ?_
                    refine gw_ist C 32 0 dX11_makeFourth_209 rfl rfl (by decide) (by omega) mo_st35 ?_
                    refine gw_iinc C (v := nI (fc + 1)) (lv2 := [(2, iN (fc + 1)), (1, iN (k)), (0, .ref (o))]) 0 dX11_makeFourth_210 rfl (nI_add _ _) (by omega) rfl ?_
                    refine gw_goto C 158 dX11_makeFourth_213 (by decide) ?_
                    refine gw_lv (lv2 := [(2, iN (fc + 1)), (1, iN (k)), (0, .ref (o))]) [0, 1, 2] rfl ?_
                    have q := ihfc (fc + 1) (by omega)
                    rw [mo_g4f, ← eP, ← eQ, ← ke] at q
                    exact q
              refine gw_lv (lv2 := [(2, iN (0)), (1, iN (k)), (0, .ref (o))]) [0, 1, 2] rfl ?_
              exact lpF (6 - 0) 0 (by omega)
        refine gw_lv (lv2 := [(1, iN (0)), (0, .ref (o))]) [0, 1] rfl ?_
        exact lpK (96 - 0) 0 (by omega)
      ·
        exact absurd h61 (by omega)
    | succ nsl ihsl =>
      intro sl hisl
      refine gw_iload_n C 0 dX11_makeFourth_2 rfl rfl ?_
      refine gw_iconst C 3 dX11_makeFourth_3 (by decide) ?_
      refine gw_icmp_ge C 148 dX11_makeFourth_4 (by decide) (by omega) (by omega) (fun h75 => ?_) (fun h75 => ?_)
      ·
        exact absurd h75 (by omega)
      ·
        have fa : mo_f4s sl N 12 = N 12 := mo_f4s_k (by decide) (by decide) (by decide) N sl
        obtain ⟨M, eM⟩ : ∃ M, M = mo_f4s sl N := ⟨_, rfl⟩
        rw [← eM] at fa
        rw [← eM]
        refine gw_iconst C 0 dX11_makeFourth_7 (by decide) ?_
        refine gw_istore_n C (lv2 := [(2, iN (0)), (1, iN (sl)), (0, .ref (o))]) dX11_makeFourth_8 rfl (by omega) rfl ?_
        have lpR : ∀ nr r : Nat, r + nr = 24 → gw_G K (mo_ws o ad cI cB cS (mo_f4r sl r M)) 0 0 9 [(2, iN (r)), (1, iN (sl)), (0, .ref (o))] [] := by
          intro nr
          induction nr with
          | zero =>
            intro r hir
            refine gw_iload_n C 0 dX11_makeFourth_9 rfl rfl ?_
            refine gw_bipush C 24 dX11_makeFourth_10 (by decide) ?_
            refine gw_icmp_ge C 142 dX11_makeFourth_12 (by decide) (by omega) (by omega) (fun h76 => ?_) (fun h76 => ?_)
            ·
              rw [show r = 24 by omega]
              refine gw_iinc C (v := nI (sl + 1)) (lv2 := [(1, iN (sl + 1)), (2, iN (24)), (0, .ref (o))]) 1 dX11_makeFourth_142 rfl (nI_add _ _) (by omega) rfl ?_
              refine gw_goto C 2 dX11_makeFourth_145 (by decide) ?_
              refine gw_lv (lv2 := [(1, iN (sl + 1)), (0, .ref (o))]) [0, 2] rfl ?_
              have q := ihsl (sl + 1) (by omega)
              rw [mo_f4s, ← eM] at q
              exact q
            ·
              exact absurd h76 (by omega)
          | succ nr ihr =>
            intro r hir
            refine gw_iload_n C 0 dX11_makeFourth_9 rfl rfl ?_
            refine gw_bipush C 24 dX11_makeFourth_10 (by decide) ?_
            refine gw_icmp_ge C 142 dX11_makeFourth_12 (by decide) (by omega) (by omega) (fun h77 => ?_) (fun h77 => ?_)
            ·
              exact absurd h77 (by omega)
            ·
              have fb : mo_f4r sl r M 12 = N 12 := by rw [mo_f4r_k (by decide) (by decide) (by decide)]; exact fa
              obtain ⟨P, eP⟩ : ∃ P, P = mo_f4r sl r M := ⟨_, rfl⟩
              rw [← eP] at fb
              rw [← eP]
              refine gw_iconst C 0 dX11_makeFourth_15 (by decide) ?_
              refine gw_istore_n C (lv2 := [(3, iN (0)), (2, iN (r)), (1, iN (sl)), (0, .ref (o))]) dX11_makeFourth_16 rfl (by omega) rfl ?_
              have lpF : ∀ nfc fc : Nat, fc + nfc = 6 → gw_G K (mo_ws o ad cI cB cS (mo_f4f sl r fc P)) 0 0 17 [(3, iN (fc)), (2, iN (r)), (1, iN (sl)), (0, .ref (o))] [] := by
                intro nfc
                induction nfc with
                | zero =>
                  intro fc hifc
                  refine gw_iload_n C 0 dX11_makeFourth_17 rfl rfl ?_
                  refine gw_bipush C 6 dX11_makeFourth_18 (by decide) ?_
                  refine gw_icmp_ge C 136 dX11_makeFourth_20 (by decide) (by omega) (by omega) (fun h78 => ?_) (fun h78 => ?_)
                  ·
                    rw [show fc = 6 by omega]
                    refine gw_iinc C (v := nI (r + 1)) (lv2 := [(2, iN (r + 1)), (3, iN (6)), (1, iN (sl)), (0, .ref (o))]) 1 dX11_makeFourth_136 rfl (nI_add _ _) (by omega) rfl ?_
                    refine gw_goto C 9 dX11_makeFourth_139 (by decide) ?_
                    refine gw_lv (lv2 := [(2, iN (r + 1)), (1, iN (sl)), (0, .ref (o))]) [0, 2, 3] rfl ?_
                    have q := ihr (r + 1) (by omega)
                    rw [mo_f4r, ← eP] at q
                    exact q
                  ·
                    exact absurd h78 (by omega)
                | succ nfc ihfc =>
                  intro fc hifc
                  refine gw_iload_n C 0 dX11_makeFourth_17 rfl rfl ?_
                  refine gw_bipush C 6 dX11_makeFourth_18 (by decide) ?_
                  refine gw_icmp_ge C 136 dX11_makeFourth_20 (by decide) (by omega) (by omega) (fun h79 => ?_) (fun h79 => ?_)
                  ·
                    exact absurd h79 (by omega)
                  ·
                    have fc' : mo_f4f sl r fc P 12 = N 12 := by rw [mo_f4f_k (by decide) (by decide) (by decide)]; exact fb
                    obtain ⟨Q, eQ⟩ : ∃ Q, Q = mo_f4f sl r fc P := ⟨_, rfl⟩
                    rw [← eQ] at fc'
                    rw [← eQ]
                    refine gw_aload_n C 3 dX11_makeFourth_23 rfl rfl ?_
                    refine gw_iconst C 4 dX11_makeFourth_24 (by decide) ?_
                    refine gw_iload_n C 1 dX11_makeFourth_25 rfl rfl ?_
                    refine gw_allVV (n := 2) C (c_unrank (kl K) (kD K) cI cB cS cJ cF cG zz hz o ad (Q) 4 (r) (by omega) (by omega) (by omega)) 0 rfl rfl rfl gX11_makeFourth_X11_unrank rfl (by decide +kernel) dX11_makeFourth_26 (by rw [hkR]; decide) (by rw [hkR]; decide) rfl (Nat.le_of_ble_eq_true rfl) rfl (fun v1 hv1 => ?_)
                    subst hv1
                    refine gw_iconst C 0 dX11_makeFourth_29 (by decide) ?_
                    refine gw_istore C (lv2 := [(4, iN (0)), (3, iN (fc)), (2, iN (r)), (1, iN (sl)), (0, .ref (o))]) dX11_makeFourth_30 (by omega) rfl ?_
                    have lq1 : ∀ np p : Nat, p + np = 4 → gw_G K (mo_ws o ad cI cB cS (mo_r1 p (mo_unr 4 r Q))) 0 0 32 [(4, iN (p)), (3, iN (fc)), (2, iN (r)), (1, iN (sl)), (0, .ref (o))] [] := by
                      intro np
                      induction np with
                      | zero =>
                        intro p hip
                        refine gw_iload C 0 dX11_makeFourth_32 rfl ?_
                        refine gw_iconst C 4 dX11_makeFourth_34 (by decide) ?_
                        refine gw_icmp_ge C 58 dX11_makeFourth_35 (by decide) (by omega) (by omega) (fun h80 => ?_) (fun h80 => ?_)
                        ·
                          rw [show p = 4 by omega]
                          refine gw_iconst C 0 dX11_makeFourth_58 (by decide) ?_
                          refine gw_istore C (lv2 := [(4, iN (0)), (3, iN (fc)), (2, iN (r)), (1, iN (sl)), (0, .ref (o))]) dX11_makeFourth_59 (by omega) rfl ?_
                          have g12 : ∀ u, mo_q4 sl fc u (mo_r1 4 (mo_unr 4 r Q)) 12 = N 12 := fun u => by rw [mo_q4_k (by decide), mo_r1_k (by decide), mo_unr_k (by decide)]; exact fc'
                          have lq2 : ∀ nu u : Nat, u + nu = 4 → gw_G K (mo_ws o ad cI cB cS (mo_q4 sl fc u (mo_r1 4 (mo_unr 4 r Q)))) 0 0 61 [(4, iN (u)), (3, iN (fc)), (2, iN (r)), (1, iN (sl)), (0, .ref (o))] [] := by
                            intro nu
                            induction nu with
                            | zero =>
                              intro u hiu
                              refine gw_iload C 0 dX11_makeFourth_61 rfl ?_
                              refine gw_iconst C 4 dX11_makeFourth_63 (by decide) ?_
                              refine gw_icmp_ge C 109 dX11_makeFourth_64 (by decide) (by omega) (by omega) (fun h81 => ?_) (fun h81 => ?_)
                              ·
                                rw [show u = 4 by omega]
                                rw [show mo_q4 sl fc 4 (mo_r1 4 (mo_unr 4 r Q)) = mo_q4R sl r fc Q from rfl]
                                have kb : ∀ j, j < 4 → mo_q4R sl r fc Q 36 j < 100 := fun j hj => by have h1 := he fc sl j (by omega) (by omega) hj; rw [← fc'] at h1; rw [mo_q4R_v _ _ _ _ _ hj (by omega)]; have := mo_unr_lt 4 r Q (show Q 12 (12 * (3 * fc + 1) + 4 * sl + j) - 4 * sl < 4 by omega); omega
                                obtain ⟨R, eR⟩ : ∃ R, R = mo_q4R sl r fc Q := ⟨_, rfl⟩
                                rw [← eR] at kb
                                rw [← eR]
                                refine gw_aload_n C 4 dX11_makeFourth_109 rfl rfl ?_
                                refine gw_get C 0 35 in_X11_makeFourth dX11_makeFourth_110 lk_X11_makeFourth_109 rfl rfl (by decide) rfl rfl ?_
                                refine gw_bipush C 6 dX11_makeFourth_113 (by decide) ?_
                                refine gw_bipush C 24 dX11_makeFourth_115 (by decide) ?_
                                refine gw_iload_n C 3 dX11_makeFourth_117 rfl rfl ?_
                                refine gw_imul C dX11_makeFourth_118 ?_
                                refine gw_iload_n C 2 dX11_makeFourth_119 rfl rfl ?_
                                refine gw_iadd C dX11_makeFourth_120 ?_
                                refine gw_imul C dX11_makeFourth_121 ?_
                                refine gw_iload_n C 1 dX11_makeFourth_122 rfl rfl ?_
                                refine gw_iadd C dX11_makeFourth_123 ?_
                                refine gw_aload_n C 4 dX11_makeFourth_124 rfl rfl ?_
                                refine gw_iconst C 4 dX11_makeFourth_125 (by decide) ?_
                                refine gw_allVI (n := 1) C (c_rank (kl K) (kD K) cI cB cS cJ cF cG zz hz o ad (R) 4 (by omega) (kb)) 0 rfl rfl rfl gX11_makeFourth_X11_rank rfl (by decide +kernel) dX11_makeFourth_126 (by rw [hkR]; decide) (by rw [hkR]; decide) rfl (Nat.le_of_ble_eq_true rfl) rfl (fun rv3 v3 hv3 => ?_)
                                obtain ⟨rfl, rfl⟩ := hv3
                                refine gw_ist C 32 0 dX11_makeFourth_129 rfl rfl (by decide) (by omega) mo_st35 ?_
                                refine gw_iinc C (v := nI (fc + 1)) (lv2 := [(3, iN (fc + 1)), (4, iN (4)), (2, iN (r)), (1, iN (sl)), (0, .ref (o))]) 1 dX11_makeFourth_130 rfl (nI_add _ _) (by omega) rfl ?_
                                refine gw_goto C 17 dX11_makeFourth_133 (by decide) ?_
                                refine gw_lv (lv2 := [(3, iN (fc + 1)), (2, iN (r)), (1, iN (sl)), (0, .ref (o))]) [0, 2, 3, 4] rfl ?_
                                have q := ihfc (fc + 1) (by omega)
                                rw [mo_f4f, ← eQ, ← eR] at q
                                exact q
                              ·
                                exact absurd h81 (by omega)
                            | succ nu ihu =>
                              intro u hiu
                              refine gw_iload C 0 dX11_makeFourth_61 rfl ?_
                              refine gw_iconst C 4 dX11_makeFourth_63 (by decide) ?_
                              refine gw_icmp_ge C 109 dX11_makeFourth_64 (by decide) (by omega) (by omega) (fun h82 => ?_) (fun h82 => ?_)
                              ·
                                exact absurd h82 (by omega)
                              ·
                                have h1 := he fc sl u (by omega) (by omega) (by omega)
                                rw [← g12 u] at h1
                                refine gw_aload_n C 4 dX11_makeFourth_67 rfl rfl ?_
                                refine gw_get C 0 36 in_X11_makeFourth dX11_makeFourth_68 lk_X11_makeFourth_112 rfl rfl (by decide) rfl rfl ?_
                                refine gw_iload C 0 dX11_makeFourth_71 rfl ?_
                                refine gw_aload_n C 4 dX11_makeFourth_73 rfl rfl ?_
                                refine gw_get C 0 37 in_X11_makeFourth dX11_makeFourth_74 lk_X11_makeFourth_115 rfl rfl (by decide) rfl rfl ?_
                                refine gw_aload_n C 4 dX11_makeFourth_77 rfl rfl ?_
                                refine gw_get C 0 12 in_X11_makeFourth dX11_makeFourth_78 lk_X11_makeFourth_46 rfl rfl (by decide) rfl rfl ?_
                                refine gw_bipush C 12 dX11_makeFourth_81 (by decide) ?_
                                refine gw_iconst C 3 dX11_makeFourth_83 (by decide) ?_
                                refine gw_iload_n C 1 dX11_makeFourth_84 rfl rfl ?_
                                refine gw_imul C dX11_makeFourth_85 ?_
                                refine gw_iconst C 1 dX11_makeFourth_86 (by decide) ?_
                                refine gw_iadd C dX11_makeFourth_87 ?_
                                refine gw_imul C dX11_makeFourth_88 ?_
                                refine gw_iconst C 4 dX11_makeFourth_89 (by decide) ?_
                                refine gw_iload_n C 3 dX11_makeFourth_90 rfl rfl ?_
                                refine gw_imul C dX11_makeFourth_91 ?_
                                refine gw_iadd C dX11_makeFourth_92 ?_
                                refine gw_iload C 0 dX11_makeFourth_93 rfl ?_
                                refine gw_iadd C dX11_makeFourth_95 ?_
                                refine gw_ild C (v := nI ((mo_q4 sl fc u (mo_r1 4 (mo_unr 4 r Q))) 12 ((((12) * (((3) * (fc)) + (1))) + ((4) * (sl))) + (u)))) 13 0 dX11_makeFourth_96 rfl rfl (by decide) (by omega) (by first | rfl | simp [mo_up]) ?_
                                refine gw_iconst C 4 dX11_makeFourth_97 (by decide) ?_
                                refine gw_iload_n C 3 dX11_makeFourth_98 rfl rfl ?_
                                refine gw_imul C dX11_makeFourth_99 ?_
                                refine gw_isub C dX11_makeFourth_100 (by omega) ?_
                                refine gw_ild C (v := nI ((mo_q4 sl fc u (mo_r1 4 (mo_unr 4 r Q))) 37 (((mo_q4 sl fc u (mo_r1 4 (mo_unr 4 r Q))) 12 ((((12) * (((3) * (fc)) + (1))) + ((4) * (sl))) + (u))) - ((4) * (sl))))) 34 0 dX11_makeFourth_101 rfl rfl (by decide) (by omega) (by first | rfl | simp [mo_up]) ?_
                                refine gw_ist C 33 0 dX11_makeFourth_102 rfl rfl (by decide) (by omega) mo_st36 ?_
                                refine gw_iinc C (v := nI (u + 1)) (lv2 := [(4, iN (u + 1)), (3, iN (fc)), (2, iN (r)), (1, iN (sl)), (0, .ref (o))]) 0 dX11_makeFourth_103 rfl (nI_add _ _) (by omega) rfl ?_
                                refine gw_goto C 61 dX11_makeFourth_106 (by decide) ?_
                                refine gw_lv (lv2 := [(4, iN (u + 1)), (3, iN (fc)), (2, iN (r)), (1, iN (sl)), (0, .ref (o))]) [0, 1, 2, 3, 4] rfl ?_
                                exact gw_ws (congrArg (mo_ws o ad cI cB cS) (by rfl)) (ihu (u + 1) (by omega))
                          refine gw_lv (lv2 := [(4, iN (0)), (3, iN (fc)), (2, iN (r)), (1, iN (sl)), (0, .ref (o))]) [0, 1, 2, 3, 4] rfl ?_
                          exact lq2 (4 - 0) 0 (by omega)
                        ·
                          exact absurd h80 (by omega)
                      | succ np ihp =>
                        intro p hip
                        refine gw_iload C 0 dX11_makeFourth_32 rfl ?_
                        refine gw_iconst C 4 dX11_makeFourth_34 (by decide) ?_
                        refine gw_icmp_ge C 58 dX11_makeFourth_35 (by decide) (by omega) (by omega) (fun h83 => ?_) (fun h83 => ?_)
                        ·
                          exact absurd h83 (by omega)
                        ·
                          refine gw_aload_n C 4 dX11_makeFourth_38 rfl rfl ?_
                          refine gw_get C 0 37 in_X11_makeFourth dX11_makeFourth_39 lk_X11_makeFourth_115 rfl rfl (by decide) rfl rfl ?_
                          refine gw_iload C 0 dX11_makeFourth_42 rfl ?_
                          refine gw_aload_n C 4 dX11_makeFourth_44 rfl rfl ?_
                          refine gw_get C 0 36 in_X11_makeFourth dX11_makeFourth_45 lk_X11_makeFourth_112 rfl rfl (by decide) rfl rfl ?_
                          refine gw_iload C 0 dX11_makeFourth_48 rfl ?_
                          refine gw_ild C (v := nI ((mo_r1 p (mo_unr 4 r Q)) 36 (p))) 33 0 dX11_makeFourth_50 rfl rfl (by decide) (by omega) (by first | rfl | simp [mo_up]) ?_
                          refine gw_ist C 34 0 dX11_makeFourth_51 rfl rfl (by decide) (by omega) mo_st37 ?_
                          refine gw_iinc C (v := nI (p + 1)) (lv2 := [(4, iN (p + 1)), (3, iN (fc)), (2, iN (r)), (1, iN (sl)), (0, .ref (o))]) 0 dX11_makeFourth_52 rfl (nI_add _ _) (by omega) rfl ?_
                          refine gw_goto C 32 dX11_makeFourth_55 (by decide) ?_
                          refine gw_lv (lv2 := [(4, iN (p + 1)), (3, iN (fc)), (2, iN (r)), (1, iN (sl)), (0, .ref (o))]) [0, 1, 2, 3, 4] rfl ?_
                          exact gw_ws (congrArg (mo_ws o ad cI cB cS) (by rfl)) (ihp (p + 1) (by omega))
                    refine gw_lv (lv2 := [(4, iN (0)), (3, iN (fc)), (2, iN (r)), (1, iN (sl)), (0, .ref (o))]) [0, 1, 2, 3, 4] rfl ?_
                    exact lq1 (4 - 0) 0 (by omega)
              refine gw_lv (lv2 := [(3, iN (0)), (2, iN (r)), (1, iN (sl)), (0, .ref (o))]) [0, 1, 2, 3] rfl ?_
              exact lpF (6 - 0) 0 (by omega)
        refine gw_lv (lv2 := [(2, iN (0)), (1, iN (sl)), (0, .ref (o))]) [0, 1, 2] rfl ?_
        exact lpR (24 - 0) 0 (by omega)
  refine gw_lv (lv2 := [(1, iN (0)), (0, .ref (o))]) [0, 1] rfl ?_
  exact lpS (3 - 0) 0 (by omega)
