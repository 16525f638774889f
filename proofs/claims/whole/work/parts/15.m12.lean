/-- makeThird -/
def mo_m3t (k : Nat) : Nat → (Nat → Nat → Nat) → Nat → Nat → Nat
  | 0, N => N
  | t + 1, N => mo_up (mo_sqR (mo_m3t k t N) 29 k t) 34 (18 * k + t) (mo_m3t k t N 28 (mo_rk (mo_sqR (mo_m3t k t N) 29 k t 36) 8 8))
def mo_m3 : Nat → (Nat → Nat → Nat) → Nat → Nat → Nat
  | 0, N => N
  | k + 1, N => mo_m3t k 18 (mo_m3 k N)
theorem mo_m3t_k {q : Nat} (h1 : q ≠ 34) (h2 : q ≠ 36) (h3 : q ≠ 37) (k : Nat) (N : Nat → Nat → Nat) : ∀ t, mo_m3t k t N q = N q := by
  intro t
  induction t with
  | zero => rfl
  | succ t ih => funext j; simp [mo_m3t, mo_up, h1, mo_sqR_k h2 h3, ih]
theorem mo_m3_k {q : Nat} (h1 : q ≠ 34) (h2 : q ≠ 36) (h3 : q ≠ 37) (N : Nat → Nat → Nat) : ∀ k, mo_m3 k N q = N q := by
  intro k
  induction k with
  | zero => rfl
  | succ k ih => rw [mo_m3, mo_m3t_k h1 h2 h3, ih]
def mo_nxC (N : Nat → Nat → Nat) (k t : Nat) : Nat := 70 * N 34 (18 * (k / 70) + t) + N 26 (mo_mk N (N 27 (k % 70)) t 8)
def mo_near3 (N : Nat → Nat → Nat) : Nat → (Nat → Nat) × Nat := bf_l1 (mo_nxC (mo_m3 420 N)) (mo_may 2) 29400 (up1 (fl1 100 (mo_m3 420 N 22) 29400) (mo_m3 420 N 26 15) 0)
theorem mo_mk_a {N : Nat → Nat → Nat} {k : Nat} (h : k ≠ 12) (f : Nat → Nat) (mask t : Nat) : ∀ p, mo_mk (mo_a N k f) mask t p = mo_mk N mask t p := by
  intro p
  induction p with
  | zero => rfl
  | succ p ih => rw [mo_mk, mo_mk, ih, mo_a_ne (fun e => h e.symm)]
theorem in_X11_makeThird : ∀ w ∈ wsX110, w ∈ wsX11_makeThird := fun _ h => List.mem_cons_of_mem _ (List.mem_append_right _ h)
theorem lk_X11_makeThird_66 : Cond.fieldLink RX11 66 "StageCubeModel" "near3" "[B" ∈ wsX11_makeThird := by decide +kernel
theorem lk_X11_makeThird_80 : Cond.fieldLink RX11 80 "StageCubeModel" "halfOf" "[S" ∈ wsX11_makeThird := by decide +kernel
theorem lk_X11_makeThird_83 : Cond.fieldLink RX11 83 "StageCubeModel" "halfAt" "[S" ∈ wsX11_makeThird := by decide +kernel
theorem lk_X11_makeThird_87 : Cond.fieldLink RX11 87 "StageCubeModel" "kindOf" "[S" ∈ wsX11_makeThird := by decide +kernel
theorem lk_X11_makeThird_90 : Cond.fieldLink RX11 90 "StageCubeModel" "kindAt" "[I" ∈ wsX11_makeThird := by decide +kernel
theorem lk_X11_makeThird_106 : Cond.fieldLink RX11 106 "StageCubeModel" "move3" "[I" ∈ wsX11_makeThird := by decide +kernel
set_option maxHeartbeats 4000000 in
set_option maxRecDepth 100000 in
theorem c_makeThird (l : Launch) (D : va_G) (cI cB cS cJ cF cG : ClassId) (zz : (Nat → Prop) → State → Heap → Prop) (hz : gw_zT zz) (o : Nat) (ad : Nat → Nat) (N : Nat → Nat → Nat) (hN : ∀ j, N 22 j ≤ 100) (hf : ∀ j, j < 144 → N 10 j < 8) (hg : ∀ j, j < 216 → N 12 j < 12) (h29 : ∀ j, j < 420 → N 29 j < 2 ^ 31) (h26 : N 26 15 < 29400) (h27 : ∀ j, j < 70 → N 27 j < 256) (hx : ∀ k t, k < 29400 → t < 18 → mo_may 2 t ≠ 0 → mo_nxC (mo_m3 420 N) k t < 29400) (E : Nat) (hE : E < 99) (hE0 : (mo_near3 N E).2 = 0) (hE1 : ∀ d, d < E → (mo_near3 N d).2 ≠ 0) : gw_CV l yX11_makeThird wsX11_makeThird 2 50 0 0 D (mo_ty cI cB cS cJ cF cG) zz (mo_ws o ad cI cB cS N) [.ref o] (fun N' => N' = mo_a (mo_m3 420 N) 22 (mo_near3 N E).1) (fun N' => mo_ws o ad cI cB cS N') := by
  refine gw_CV.of (cc := cX11_makeThird) (maxL := 7) hz (by decide) rfl (Nat.le_of_ble_eq_true rfl) ?_
  intro K C hkl hkn hkR hkD hmn ret
  have C : gw_x K cX11_makeThird RX11 wsX11_makeThird (mo_ty cI cB cS cJ cF cG) zz := C
  subst hkl hkD
  refine gw_iconst C 0 dX11_makeThird_0 (by decide) ?_
  refine gw_istore_n C (lv2 := [(1, iN (0)), (0, .ref (o))]) dX11_makeThird_1 rfl (by omega) rfl ?_
  have lp : ∀ nk k : Nat, k + nk = 420 → gw_G K (mo_ws o ad cI cB cS (mo_m3 k N)) 0 0 2 [(1, iN (k)), (0, .ref (o))] [] := by
    intro nk
    induction nk with
    | zero =>
      intro k hik
      refine gw_iload_n C 0 dX11_makeThird_2 rfl rfl ?_
      refine gw_sipush C 420 dX11_makeThird_3 (by decide) ?_
      refine gw_icmp_ge C 68 dX11_makeThird_6 (by decide) (by omega) (by omega) (fun h61 => ?_) (fun h61 => ?_)
      ·
        rw [show k = 420 by omega]
        have b26 : mo_m3 420 N 26 15 < 29400 := by rw [mo_m3_k (by decide) (by decide) (by decide)]; exact h26
        have b22 : ∀ j, mo_m3 420 N 22 j ≤ 100 := fun j => by rw [mo_m3_k (by decide) (by decide) (by decide)]; exact hN j
        have b12 : ∀ j, j < 216 → mo_m3 420 N 12 j < 12 := fun j hj => by rw [mo_m3_k (by decide) (by decide) (by decide)]; exact hg j hj
        have b27 : ∀ j, j < 70 → mo_m3 420 N 27 j < 256 := fun j hj => by rw [mo_m3_k (by decide) (by decide) (by decide)]; exact h27 j hj
        have hE0' := hE0
        have hE1' := hE1
        have ret' := @ret
        unfold mo_near3 at hE0' hE1' ret'
        obtain ⟨B, eB⟩ : ∃ B, B = mo_m3 420 N := ⟨_, rfl⟩
        rw [← eB] at b26 b22 b12 b27 hx hE0' hE1'
        rw [← eB]
        have reB : mo_a (mo_m3 420 N) 22 (mo_near3 N E).1 = mo_a B 22 (bf_l1 (mo_nxC B) (mo_may 2) 29400 (up1 (fl1 100 (B 22) 29400) (B 26 15) 0) E).1 := by unfold mo_near3; rw [← eB]
        obtain ⟨F, eF⟩ : ∃ F, F = bf_l1 (mo_nxC B) (mo_may 2) 29400 (up1 (fl1 100 (B 22) 29400) (B 26 15) 0) := ⟨_, rfl⟩
        rw [← eF] at reB hE0' hE1'
        refine gw_sipush C 29400 dX11_makeThird_68 (by decide) ?_
        refine gw_istore_n C (lv2 := [(1, iN (29400)), (0, .ref (o))]) dX11_makeThird_71 rfl (by omega) rfl ?_
        refine gw_iconst C 0 dX11_makeThird_72 (by decide) ?_
        refine gw_istore_n C (lv2 := [(2, iN (0)), (1, iN (29400)), (0, .ref (o))]) dX11_makeThird_73 rfl (by omega) rfl ?_
        refine gw_ws (ws2 := mo_ws o ad cI cB cS (mo_a B 22 (fl1 100 (B 22) 0))) (by rw [fl1_0, mo_a_self]) ?_
        have lpf : ∀ ni i : Nat, i + ni = 29400 → gw_G K (mo_ws o ad cI cB cS (mo_a B 22 (fl1 100 (B 22) i))) 0 0 74 [(2, iN (i)), (1, iN (29400)), (0, .ref (o))] [] := by
          intro ni
          induction ni with
          | zero =>
            intro i hii
            refine gw_iload_n C 0 dX11_makeThird_74 rfl rfl ?_
            refine gw_iload_n C 1 dX11_makeThird_75 rfl rfl ?_
            refine gw_icmp_ge C 93 dX11_makeThird_76 (by decide) (by omega) (by omega) (fun h62 => ?_) (fun h62 => ?_)
            ·
              rw [show i = 29400 by omega]
              refine gw_aload_n C 2 dX11_makeThird_93 rfl rfl ?_
              refine gw_get C 0 22 in_X11_makeThird dX11_makeThird_94 lk_X11_makeThird_66 rfl rfl (by decide) rfl rfl ?_
              refine gw_aload_n C 2 dX11_makeThird_97 rfl rfl ?_
              refine gw_get C 0 26 in_X11_makeThird dX11_makeThird_98 lk_X11_makeThird_80 rfl rfl (by decide) rfl rfl ?_
              refine gw_bipush C 15 dX11_makeThird_101 (by decide) ?_
              refine gw_sld C (v := nI (B 26 (15))) 23 2 dX11_makeThird_103 rfl rfl (by decide) (by omega) (by rw [mo_a_ne (by decide)]) ?_
              refine gw_iconst C 0 dX11_makeThird_104 (by decide) ?_
              refine gw_bst C 19 1 dX11_makeThird_105 rfl rfl (by decide) (by omega) (by decide) mo_st22 ?_
              refine gw_iconst C 1 dX11_makeThird_106 (by decide) ?_
              refine gw_istore_n C (lv2 := [(2, iN (1)), (1, iN (29400)), (0, .ref (o))]) dX11_makeThird_107 rfl (by omega) rfl ?_
              refine gw_iconst C 0 dX11_makeThird_108 (by decide) ?_
              refine gw_istore_n C (lv2 := [(3, iN (0)), (2, iN (1)), (1, iN (29400)), (0, .ref (o))]) dX11_makeThird_109 rfl (by omega) rfl ?_
              rw [mo_up_a]
              have hok : ∀ d, d ≤ 100 → bf_ok (F d) := by rw [eF]; exact bf_l1_ok _ _ (fun j => by simp only [up1, fl1]; split; omega; split; omega; exact b22 j)
              have lpd : ∀ nd d : Nat, d + nd = E → gw_G K (mo_ws o ad cI cB cS (mo_a B 22 (F d).1)) 0 0 110 [(3, iN d), (2, iN (F d).2), (1, iN 29400), (0, .ref o)] [] := by
                intro nd
                induction nd with
                | zero =>
                  intro d hd
                  have hd2 : d = E := by omega
                  subst hd2
                  rw [hE0']
                  refine gw_iload_n C 1 dX11_makeThird_110 rfl rfl ?_
                  refine gw_if_eq C 243 dX11_makeThird_111 (by decide) (by omega) (fun h63 => ?_) (fun h63 => ?_)
                  ·
                    exact ret _ dX11_makeThird_243 rfl (by rw [reB]) (Nat.le_refl 0) (Nat.le_refl 0)
                  ·
                    exact absurd h63 (by omega)
                | succ nd ihd =>
                  intro d hd
                  have hm := hE1' d (by omega)
                  have hk := hok d (by omega)
                  have hk2 := hk.2
                  obtain ⟨S0, eS0⟩ : ∃ S0, S0 = ((F d).1, 0) := ⟨_, rfl⟩
                  have ok0 : bf_ok S0 := by rw [eS0]; exact ⟨hk.1, Nat.zero_le 1⟩
                  refine gw_iload_n C 1 dX11_makeThird_110 rfl rfl ?_
                  refine gw_if_eq C 243 dX11_makeThird_111 (by decide) (by omega) (fun h64 => ?_) (fun h64 => ?_)
                  ·
                    exact absurd h64 hm
                  ·
                    refine gw_iconst C 0 dX11_makeThird_114 (by decide) ?_
                    refine gw_istore_n C (lv2 := [(2, iN (0)), (3, iN (d)), (1, iN (29400)), (0, .ref (o))]) dX11_makeThird_115 rfl (by omega) rfl ?_
                    refine gw_iconst C 0 dX11_makeThird_116 (by decide) ?_
                    refine gw_istore C (lv2 := [(4, iN (0)), (2, iN (0)), (3, iN (d)), (1, iN (29400)), (0, .ref (o))]) dX11_makeThird_117 (by omega) rfl ?_
                    refine gw_ws (ws2 := mo_ws o ad cI cB cS (mo_a B 22 (bf_r1 (mo_nxC B) (mo_may 2) d 0 S0).1)) (by rw [eS0]; rfl) ?_
                    refine gw_lv (lv2 := [(4, iN 0), (2, iN (bf_r1 (mo_nxC B) (mo_may 2) d 0 S0).2), (3, iN d), (1, iN 29400), (0, .ref o)]) [0, 1, 2, 3, 4] (by rw [eS0]; rfl) ?_
                    have lpk : ∀ nk k : Nat, k + nk = 29400 → gw_G K (mo_ws o ad cI cB cS (mo_a B 22 ((bf_r1 (mo_nxC B) (mo_may 2) d k S0).1))) 0 0 119 [(4, iN (k)), (2, iN ((bf_r1 (mo_nxC B) (mo_may 2) d k S0).2)), (3, iN (d)), (1, iN (29400)), (0, .ref (o))] [] := by
                      intro nk
                      induction nk with
                      | zero =>
                        intro k hik
                        refine gw_iload C 0 dX11_makeThird_119 rfl ?_
                        refine gw_iload_n C 3 dX11_makeThird_121 rfl rfl ?_
                        refine gw_icmp_ge C 237 dX11_makeThird_122 (by decide) (by omega) (by omega) (fun h65 => ?_) (fun h65 => ?_)
                        ·
                          rw [show k = 29400 by omega]
                          refine gw_iinc C (v := nI (d + 1)) (lv2 := [(3, iN (d + 1)), (4, iN (29400)), (2, iN ((bf_r1 (mo_nxC B) (mo_may 2) d 29400 S0).2)), (1, iN (29400)), (0, .ref (o))]) 2 dX11_makeThird_237 rfl (nI_add _ _) (by omega) rfl ?_
                          refine gw_goto C 110 dX11_makeThird_240 (by decide) ?_
                          refine gw_lv (lv2 := [(3, iN (d + 1)), (2, iN ((bf_r1 (mo_nxC B) (mo_may 2) d 29400 S0).2)), (1, iN (29400)), (0, .ref (o))]) [0, 2, 3, 4] rfl ?_
                          have q := ihd (d + 1) (by omega)
                          rw [show F (d + 1) = bf_r1 (mo_nxC B) (mo_may 2) d 29400 S0 by rw [eS0, eF]; rfl] at q
                          exact q
                        ·
                          exact absurd h65 (by omega)
                      | succ nk ihk =>
                        intro k hik
                        refine gw_iload C 0 dX11_makeThird_119 rfl ?_
                        refine gw_iload_n C 3 dX11_makeThird_121 rfl rfl ?_
                        refine gw_icmp_ge C 237 dX11_makeThird_122 (by decide) (by omega) (by omega) (fun h66 => ?_) (fun h66 => ?_)
                        ·
                          exact absurd h66 (by omega)
                        ·
                          have ok := bf_r1_ok (mo_nxC B) (mo_may 2) (d := d) (by omega) ok0 k
                          obtain ⟨S1, eS1⟩ : ∃ S, S = bf_r1 (mo_nxC B) (mo_may 2) d k S0 := ⟨_, rfl⟩
                          rw [← eS1] at ok
                          rw [← eS1]
                          refine gw_iconst C 0 dX11_makeThird_125 (by decide) ?_
                          refine gw_istore C (lv2 := [(5, iN (0)), (4, iN (k)), (2, iN (S1.2)), (3, iN (d)), (1, iN (29400)), (0, .ref (o))]) dX11_makeThird_126 (by omega) rfl ?_
                          have hxx : ∀ t l5, bf_t1 (mo_nxC B) (mo_may 2) d k 18 S1 = bf_t1 (mo_nxC B) (mo_may 2) d k t S1 → gw_G K (mo_ws o ad cI cB cS (mo_a B 22 (bf_t1 (mo_nxC B) (mo_may 2) d k t S1).1)) 0 0 231 [(5, iN l5), (4, iN k), (2, iN (bf_t1 (mo_nxC B) (mo_may 2) d k t S1).2), (3, iN d), (1, iN 29400), (0, .ref o)] [] := by
                            intro t l5 e
                            refine gw_iinc C (v := nI (k + 1)) (lv2 := [(4, iN (k + 1)), (5, iN (l5)), (2, iN ((bf_t1 (mo_nxC B) (mo_may 2) d k t S1).2)), (3, iN (d)), (1, iN (29400)), (0, .ref (o))]) 1 dX11_makeThird_231 rfl (nI_add _ _) (by omega) rfl ?_
                            refine gw_goto C 119 dX11_makeThird_234 (by decide) ?_
                            refine gw_lv (lv2 := [(4, iN (k + 1)), (2, iN ((bf_t1 (mo_nxC B) (mo_may 2) d k t S1).2)), (3, iN (d)), (1, iN (29400)), (0, .ref (o))]) [0, 2, 3, 4, 5] rfl ?_
                            have k' := ihk (k + 1) (by omega)
                            rw [bf_r1, ← eS1, e] at k'
                            exact k'
                          have lpt : ∀ nt t : Nat, t + nt = 18 → gw_G K (mo_ws o ad cI cB cS (mo_a B 22 ((bf_t1 (mo_nxC B) (mo_may 2) d k t S1).1))) 0 0 128 [(5, iN (t)), (4, iN (k)), (2, iN ((bf_t1 (mo_nxC B) (mo_may 2) d k t S1).2)), (3, iN (d)), (1, iN (29400)), (0, .ref (o))] [] := by
                            intro nt
                            induction nt with
                            | zero =>
                              intro t hit
                              refine gw_iload C 0 dX11_makeThird_128 rfl ?_
                              refine gw_bipush C 18 dX11_makeThird_130 (by decide) ?_
                              refine gw_icmp_ge C 231 dX11_makeThird_132 (by decide) (by omega) (by omega) (fun h67 => ?_) (fun h67 => ?_)
                              ·
                                rw [show t = 18 by omega]
                                exact hxx 18 18 rfl
                              ·
                                exact absurd h67 (by omega)
                            | succ nt iht =>
                              intro t hit
                              refine gw_iload C 0 dX11_makeThird_128 rfl ?_
                              refine gw_bipush C 18 dX11_makeThird_130 (by decide) ?_
                              refine gw_icmp_ge C 231 dX11_makeThird_132 (by decide) (by omega) (by omega) (fun h68 => ?_) (fun h68 => ?_)
                              ·
                                exact absurd h68 (by omega)
                              ·
                                have okt := bf_t1_ok (mo_nxC B) (mo_may 2) (d := d) (s := k) (by omega) ok t
                                have okt1 := okt.1 k
                                have m2 := mo_may_2 2 t
                                obtain ⟨S2, eS2⟩ : ∃ S, S = bf_t1 (mo_nxC B) (mo_may 2) d k t S1 := ⟨_, rfl⟩
                                rw [← eS2] at okt okt1
                                rw [← eS2]
                                refine gw_aload_n C 5 dX11_makeThird_135 rfl rfl ?_
                                refine gw_get C 0 22 in_X11_makeThird dX11_makeThird_136 lk_X11_makeThird_66 rfl rfl (by decide) rfl rfl ?_
                                refine gw_iload C 1 dX11_makeThird_139 rfl ?_
                                refine gw_bld C (v := nI ((S2.1) (k))) 19 1 dX11_makeThird_141 rfl rfl (by decide) (by omega) (by rw [mo_a_eq]) ?_
                                refine gw_iload_n C 3 dX11_makeThird_142 rfl rfl ?_
                                refine gw_icmp_ne C 231 dX11_makeThird_143 (by decide) (by omega) (by omega) (fun h69 => ?_) (fun h69 => ?_)
                                ·
                                  refine gw_lv (lv2 := [(5, iN (t)), (4, iN (k)), (2, iN (S2.2)), (3, iN (d)), (1, iN (29400)), (0, .ref (o))]) [0, 1, 2, 3, 4, 5] rfl ?_
                                  rw [eS2]
                                  exact hxx t t (by have := bf_t1_stop (mo_nxC B) (mo_may 2) d k S1 t (by rw [← eS2]; exact h69) (18 - t); rw [show t + (18 - t) = 18 by omega] at this; exact this)
                                ·
                                  refine gw_iconst C 2 dX11_makeThird_146 (by decide) ?_
                                  refine gw_iload C 0 dX11_makeThird_147 rfl ?_
                                  refine gw_allSI (n := 2) C (c_may (kl K) (kD K) _ zz hz _ 2 t (by omega) (by omega)) gX11_makeThird_X11_may rfl (by decide +kernel) dX11_makeThird_149 (by rw [hkR]; decide) (by rw [hkR]; decide) rfl (Nat.le_of_ble_eq_true rfl) rfl (fun rv4 v4 hv4 => ?_)
                                  subst hv4
                                  refine gw_if_eq C 225 dX11_makeThird_152 (by decide) (by omega) (fun h70 => ?_) (fun h70 => ?_)
                                  ·
                                    refine gw_iinc C (v := nI (t + 1)) (lv2 := [(5, iN (t + 1)), (4, iN (k)), (2, iN (S2.2)), (3, iN (d)), (1, iN (29400)), (0, .ref (o))]) 0 dX11_makeThird_225 rfl (nI_add _ _) (by omega) rfl ?_
                                    refine gw_goto C 128 dX11_makeThird_228 (by decide) ?_
                                    refine gw_lv (lv2 := [(5, iN (t + 1)), (4, iN (k)), (2, iN (S2.2)), (3, iN (d)), (1, iN (29400)), (0, .ref (o))]) [0, 1, 2, 3, 4, 5] rfl ?_
                                    have q := iht (t + 1) (by omega)
                                    rw [bf_t1, if_neg (fun z => z.2 h70), ← eS2] at q
                                    exact q
                                  ·
                                    have lx := hx k t (by omega) (by omega) h70
                                    rw [mo_nxC] at lx
                                    have c27 := b27 (k % 70) (by omega)
                                    have cl := mo_mk_lt B (B 27 (k % 70)) t 8
                                    refine gw_bipush C 70 dX11_makeThird_155 (by decide) ?_
                                    refine gw_aload_n C 5 dX11_makeThird_157 rfl rfl ?_
                                    refine gw_get C 0 34 in_X11_makeThird dX11_makeThird_158 lk_X11_makeThird_106 rfl rfl (by decide) rfl rfl ?_
                                    refine gw_bipush C 18 dX11_makeThird_161 (by decide) ?_
                                    refine gw_iload C 1 dX11_makeThird_163 rfl ?_
                                    refine gw_bipush C 70 dX11_makeThird_165 (by decide) ?_
                                    refine gw_idiv C dX11_makeThird_167 (by omega) (by omega) (by omega) ?_
                                    refine gw_imul C dX11_makeThird_168 ?_
                                    refine gw_iload C 0 dX11_makeThird_169 rfl ?_
                                    refine gw_iadd C dX11_makeThird_171 ?_
                                    refine gw_ild C (v := nI (B 34 (((18) * ((k) / (70))) + (t)))) 31 0 dX11_makeThird_172 rfl rfl (by decide) (by omega) (by rw [mo_a_ne (by decide)]) ?_
                                    refine gw_imul C dX11_makeThird_173 ?_
                                    refine gw_aload_n C 5 dX11_makeThird_174 rfl rfl ?_
                                    refine gw_get C 0 26 in_X11_makeThird dX11_makeThird_175 lk_X11_makeThird_80 rfl rfl (by decide) rfl rfl ?_
                                    refine gw_aload_n C 5 dX11_makeThird_178 rfl rfl ?_
                                    refine gw_aload_n C 5 dX11_makeThird_179 rfl rfl ?_
                                    refine gw_get C 0 27 in_X11_makeThird dX11_makeThird_180 lk_X11_makeThird_83 rfl rfl (by decide) rfl rfl ?_
                                    refine gw_iload C 1 dX11_makeThird_183 rfl ?_
                                    refine gw_bipush C 70 dX11_makeThird_185 (by decide) ?_
                                    refine gw_irem C dX11_makeThird_187 (by omega) (by omega) (by omega) ?_
                                    refine gw_sld C (v := nI (B 27 ((k) % (70)))) 24 2 dX11_makeThird_188 rfl rfl (by decide) (by omega) (by rw [mo_a_ne (by decide)]) ?_
                                    refine gw_iload C 0 dX11_makeThird_189 rfl ?_
                                    refine gw_bipush C 8 dX11_makeThird_191 (by decide) ?_
                                    refine gw_allVI (n := 3) C (c_maskBy (kl K) (kD K) cI cB cS cJ cF cG zz hz o ad (mo_a B 22 S2.1) (B 27 (k % 70)) t 8 (by omega) (by omega) (by omega) (fun j hj => by rw [mo_a_ne (by decide)]; exact b12 j hj)) 0 rfl rfl rfl gX11_makeThird_X11_maskBy rfl (by decide +kernel) dX11_makeThird_193 (by rw [hkR]; decide) (by rw [hkR]; decide) rfl (Nat.le_of_ble_eq_true rfl) rfl (fun rv5 v5 hv5 => ?_)
                                    obtain ⟨rfl, rfl⟩ := hv5
                                    rw [mo_mk_a (by decide)]
                                    refine gw_sld C (v := nI (B 26 (mo_mk B (B 27 (k % 70)) t 8))) 23 2 dX11_makeThird_196 rfl rfl (by decide) (by omega) (by rw [mo_a_ne (by decide)]) ?_
                                    refine gw_iadd C dX11_makeThird_197 ?_
                                    refine gw_istore C (lv2 := [(6, iN (((70) * (B 34 ((18) * ((k) / (70)) + (t)))) + (B 26 (mo_mk B (B 27 (k % 70)) t 8)))), (5, iN (t)), (4, iN (k)), (2, iN (S2.2)), (3, iN (d)), (1, iN (29400)), (0, .ref (o))]) dX11_makeThird_198 (by omega) rfl ?_
                                    obtain ⟨y, ey⟩ : ∃ y, y = mo_nxC B k t := ⟨_, rfl⟩
                                    rw [mo_nxC] at ey
                                    rw [← ey] at lx
                                    rw [← ey]
                                    have oky := okt.1 y
                                    refine gw_aload_n C 6 dX11_makeThird_200 rfl rfl ?_
                                    refine gw_get C 0 22 in_X11_makeThird dX11_makeThird_201 lk_X11_makeThird_66 rfl rfl (by decide) rfl rfl ?_
                                    refine gw_iload C 0 dX11_makeThird_204 rfl ?_
                                    refine gw_bld C (v := nI ((S2.1) (y))) 19 1 dX11_makeThird_206 rfl rfl (by decide) (by omega) (by rw [mo_a_eq]) ?_
                                    refine gw_bipush C 100 dX11_makeThird_207 (by decide) ?_
                                    refine gw_icmp_ne C 225 dX11_makeThird_209 (by decide) (by omega) (by omega) (fun h71 => ?_) (fun h71 => ?_)
                                    ·
                                      refine gw_iinc C (v := nI (t + 1)) (lv2 := [(5, iN (t + 1)), (6, iN (y)), (4, iN (k)), (2, iN (S2.2)), (3, iN (d)), (1, iN (29400)), (0, .ref (o))]) 1 dX11_makeThird_225 rfl (nI_add _ _) (by omega) rfl ?_
                                      refine gw_goto C 128 dX11_makeThird_228 (by decide) ?_
                                      refine gw_lv (lv2 := [(5, iN (t + 1)), (4, iN (k)), (2, iN (S2.2)), (3, iN (d)), (1, iN (29400)), (0, .ref (o))]) [0, 2, 3, 4, 5, 6] rfl ?_
                                      have q := iht (t + 1) (by omega)
                                      rw [bf_t1, if_pos ⟨by rw [← eS2]; exact h69, h70⟩, ← eS2, bf_s, if_neg (by rw [mo_nxC, ← ey]; exact h71)] at q
                                      exact q
                                    ·
                                      refine gw_aload_n C 6 dX11_makeThird_212 rfl rfl ?_
                                      refine gw_get C 0 22 in_X11_makeThird dX11_makeThird_213 lk_X11_makeThird_66 rfl rfl (by decide) rfl rfl ?_
                                      refine gw_iload C 0 dX11_makeThird_216 rfl ?_
                                      refine gw_iload_n C 4 dX11_makeThird_218 rfl rfl ?_
                                      refine gw_iconst C 1 dX11_makeThird_219 (by decide) ?_
                                      refine gw_iadd C dX11_makeThird_220 ?_
                                      refine gw_i2b C dX11_makeThird_221 (by omega) ?_
                                      refine gw_bst C 19 1 dX11_makeThird_222 rfl rfl (by decide) (by omega) (gw_nb (by omega)).1 mo_st22 ?_
                                      refine gw_iconst C 1 dX11_makeThird_223 (by decide) ?_
                                      refine gw_istore_n C (lv2 := [(2, iN (1)), (6, iN (y)), (5, iN (t)), (4, iN (k)), (3, iN (d)), (1, iN (29400)), (0, .ref (o))]) dX11_makeThird_224 rfl (by omega) rfl ?_
                                      refine gw_iinc C (v := nI (t + 1)) (lv2 := [(5, iN (t + 1)), (2, iN (1)), (6, iN (y)), (4, iN (k)), (3, iN (d)), (1, iN (29400)), (0, .ref (o))]) 2 dX11_makeThird_225 rfl (nI_add _ _) (by omega) rfl ?_
                                      refine gw_goto C 128 dX11_makeThird_228 (by decide) ?_
                                      refine gw_lv (lv2 := [(5, iN (t + 1)), (4, iN (k)), (2, iN (1)), (3, iN (d)), (1, iN (29400)), (0, .ref (o))]) [0, 3, 1, 4, 5, 6] rfl ?_
                                      have q := iht (t + 1) (by omega)
                                      rw [bf_t1, if_pos ⟨by rw [← eS2]; exact h69, h70⟩, ← eS2, bf_s, if_pos (by rw [mo_nxC, ← ey]; exact h71), mo_nxC, ← ey] at q
                                      rw [mo_up_a]
                                      exact q
                          refine gw_lv (lv2 := [(5, iN (0)), (4, iN (k)), (2, iN (S1.2)), (3, iN (d)), (1, iN (29400)), (0, .ref (o))]) [0, 1, 2, 3, 4, 5] rfl ?_
                          exact lpt (18 - 0) 0 (by omega)
                    refine gw_lv (lv2 := [(4, iN (0)), (2, iN ((bf_r1 (mo_nxC B) (mo_may 2) d 0 S0).2)), (3, iN (d)), (1, iN (29400)), (0, .ref (o))]) [0, 1, 2, 3, 4] rfl ?_
                    exact lpk (29400 - 0) 0 (by omega)
              refine gw_lv (lv2 := [(3, iN (0)), (2, iN (1)), (1, iN (29400)), (0, .ref (o))]) [0, 1, 2, 3] rfl ?_
              have q := lpd E 0 (by omega)
              rw [eF] at q
              exact q
            ·
              exact absurd h62 (by omega)
          | succ ni ihi =>
            intro i hii
            refine gw_iload_n C 0 dX11_makeThird_74 rfl rfl ?_
            refine gw_iload_n C 1 dX11_makeThird_75 rfl rfl ?_
            refine gw_icmp_ge C 93 dX11_makeThird_76 (by decide) (by omega) (by omega) (fun h72 => ?_) (fun h72 => ?_)
            ·
              exact absurd h72 (by omega)
            ·
              refine gw_aload_n C 2 dX11_makeThird_79 rfl rfl ?_
              refine gw_get C 0 22 in_X11_makeThird dX11_makeThird_80 lk_X11_makeThird_66 rfl rfl (by decide) rfl rfl ?_
              refine gw_iload_n C 0 dX11_makeThird_83 rfl rfl ?_
              refine gw_bipush C 100 dX11_makeThird_84 (by decide) ?_
              refine gw_bst C 19 1 dX11_makeThird_86 rfl rfl (by decide) (by omega) (by decide) mo_st22 ?_
              refine gw_iinc C (v := nI (i + 1)) (lv2 := [(2, iN (i + 1)), (1, iN (29400)), (0, .ref (o))]) 0 dX11_makeThird_87 rfl (nI_add _ _) (by omega) rfl ?_
              refine gw_goto C 74 dX11_makeThird_90 (by decide) ?_
              refine gw_lv (lv2 := [(2, iN (i + 1)), (1, iN (29400)), (0, .ref (o))]) [0, 1, 2] rfl ?_
              exact gw_ws (congrArg (mo_ws o ad cI cB cS) (by rw [mo_up_a, fl1_s])) (ihi (i + 1) (by omega))
        refine gw_lv (lv2 := [(2, iN (0)), (1, iN (29400)), (0, .ref (o))]) [0, 1, 2] rfl ?_
        exact lpf (29400 - 0) 0 (by omega)
      ·
        exact absurd h61 (by omega)
    | succ nk ihk =>
      intro k hik
      refine gw_iload_n C 0 dX11_makeThird_2 rfl rfl ?_
      refine gw_sipush C 420 dX11_makeThird_3 (by decide) ?_
      refine gw_icmp_ge C 68 dX11_makeThird_6 (by decide) (by omega) (by omega) (fun h73 => ?_) (fun h73 => ?_)
      ·
        exact absurd h73 (by omega)
      ·
        have f10 : mo_m3 k N 10 = N 10 := mo_m3_k (by decide) (by decide) (by decide) N k
        have f29 : mo_m3 k N 29 = N 29 := mo_m3_k (by decide) (by decide) (by decide) N k
        obtain ⟨M, eM⟩ : ∃ M, M = mo_m3 k N := ⟨_, rfl⟩
        rw [← eM] at f10 f29
        rw [← eM]
        refine gw_iconst C 0 dX11_makeThird_9 (by decide) ?_
        refine gw_istore_n C (lv2 := [(2, iN (0)), (1, iN (k)), (0, .ref (o))]) dX11_makeThird_10 rfl (by omega) rfl ?_
        have lp1 : ∀ nt t : Nat, t + nt = 18 → gw_G K (mo_ws o ad cI cB cS (mo_m3t k t M)) 0 0 11 [(2, iN (t)), (1, iN (k)), (0, .ref (o))] [] := by
          intro nt
          induction nt with
          | zero =>
            intro t hit
            refine gw_iload_n C 0 dX11_makeThird_11 rfl rfl ?_
            refine gw_bipush C 18 dX11_makeThird_12 (by decide) ?_
            refine gw_icmp_ge C 62 dX11_makeThird_14 (by decide) (by omega) (by omega) (fun h74 => ?_) (fun h74 => ?_)
            ·
              rw [show t = 18 by omega]
              refine gw_iinc C (v := nI (k + 1)) (lv2 := [(1, iN (k + 1)), (2, iN (18)), (0, .ref (o))]) 1 dX11_makeThird_62 rfl (nI_add _ _) (by omega) rfl ?_
              refine gw_goto C 2 dX11_makeThird_65 (by decide) ?_
              refine gw_lv (lv2 := [(1, iN (k + 1)), (0, .ref (o))]) [0, 2] rfl ?_
              have q := ihk (k + 1) (by omega)
              rw [mo_m3, ← eM] at q
              exact q
            ·
              exact absurd h74 (by omega)
          | succ nt iht =>
            intro t hit
            refine gw_iload_n C 0 dX11_makeThird_11 rfl rfl ?_
            refine gw_bipush C 18 dX11_makeThird_12 (by decide) ?_
            refine gw_icmp_ge C 62 dX11_makeThird_14 (by decide) (by omega) (by omega) (fun h75 => ?_) (fun h75 => ?_)
            ·
              exact absurd h75 (by omega)
            ·
              have q10 : mo_m3t k t M 10 = N 10 := by rw [mo_m3t_k (by decide) (by decide) (by decide)]; exact f10
              have q29 : mo_m3t k t M 29 = N 29 := by rw [mo_m3t_k (by decide) (by decide) (by decide)]; exact f29
              obtain ⟨P, eP⟩ : ∃ P, P = mo_m3t k t M := ⟨_, rfl⟩
              rw [← eP] at q10 q29
              rw [← eP]
              have k10 : ∀ j, j < 144 → P 10 j < 8 := fun j hj => by rw [q10]; exact hf j hj
              have k29 : P 29 k < 2 ^ 31 := by rw [q29]; exact h29 k (by omega)
              refine gw_aload_n C 2 dX11_makeThird_17 rfl rfl ?_
              refine gw_bipush C 8 dX11_makeThird_18 (by decide) ?_
              refine gw_aload_n C 2 dX11_makeThird_20 rfl rfl ?_
              refine gw_get C 0 29 in_X11_makeThird dX11_makeThird_21 lk_X11_makeThird_90 rfl rfl (by decide) rfl rfl ?_
              refine gw_iload_n C 1 dX11_makeThird_24 rfl rfl ?_
              refine gw_ild C (v := nI (P 29 (k))) 26 0 dX11_makeThird_25 rfl rfl (by decide) (by omega) (by first | rfl | simp [mo_up]) ?_
              refine gw_allVV (n := 2) C (c_unrank (kl K) (kD K) cI cB cS cJ cF cG zz hz o ad (P) 8 (P 29 k) (by omega) (by omega) (k29)) 0 rfl rfl rfl gX11_makeThird_X11_unrank rfl (by decide +kernel) dX11_makeThird_26 (by rw [hkR]; decide) (by rw [hkR]; decide) rfl (Nat.le_of_ble_eq_true rfl) rfl (fun v1 hv1 => ?_)
              subst hv1
              refine gw_aload_n C 2 dX11_makeThird_29 rfl rfl ?_
              refine gw_iload_n C 0 dX11_makeThird_30 rfl rfl ?_
              refine gw_allVV (n := 1) C (c_turnRow (kl K) (kD K) cI cB cS cJ cF cG zz hz o ad (mo_unr 8 (P 29 k) P) (t) (by omega) (fun j hj => by rw [mo_unr_k (by decide)]; exact k10 j hj)) 0 rfl rfl rfl gX11_makeThird_X11_turnRow rfl (by decide +kernel) dX11_makeThird_31 (by rw [hkR]; decide) (by rw [hkR]; decide) rfl (Nat.le_of_ble_eq_true rfl) rfl (fun v2 hv2 => ?_)
              subst hv2
              rw [show mo_trow t (mo_unr 8 (P 29 k) P) = mo_sqR P 29 k t from rfl]
              have kb : ∀ j, j < 8 → mo_sqR P 29 k t 36 j < 100 := fun j hj => by have := mo_sqR_b P 29 k t j hj (k10 _ (by omega)); omega
              have kr := mo_rk_lt8 (mo_sqR P 29 k t 36)
              have ke : mo_sqR P 29 k t 28 = P 28 := mo_sqR_k (by decide) (by decide) P 29 k t
              obtain ⟨Q, eQ⟩ : ∃ Q, Q = mo_sqR P 29 k t := ⟨_, rfl⟩
              rw [← eQ] at kb kr ke
              rw [← eQ]
              refine gw_aload_n C 2 dX11_makeThird_34 rfl rfl ?_
              refine gw_get C 0 34 in_X11_makeThird dX11_makeThird_35 lk_X11_makeThird_106 rfl rfl (by decide) rfl rfl ?_
              refine gw_bipush C 18 dX11_makeThird_38 (by decide) ?_
              refine gw_iload_n C 1 dX11_makeThird_40 rfl rfl ?_
              refine gw_imul C dX11_makeThird_41 ?_
              refine gw_iload_n C 0 dX11_makeThird_42 rfl rfl ?_
              refine gw_iadd C dX11_makeThird_43 ?_
              refine gw_aload_n C 2 dX11_makeThird_44 rfl rfl ?_
              refine gw_get C 0 28 in_X11_makeThird dX11_makeThird_45 lk_X11_makeThird_87 rfl rfl (by decide) rfl rfl ?_
              refine gw_aload_n C 2 dX11_makeThird_48 rfl rfl ?_
              refine gw_bipush C 8 dX11_makeThird_49 (by decide) ?_
              refine gw_allVI (n := 1) C (c_rank (kl K) (kD K) cI cB cS cJ cF cG zz hz o ad (Q) 8 (by omega) (kb)) 0 rfl rfl rfl gX11_makeThird_X11_rank rfl (by decide +kernel) dX11_makeThird_51 (by rw [hkR]; decide) (by rw [hkR]; decide) rfl (Nat.le_of_ble_eq_true rfl) rfl (fun rv3 v3 hv3 => ?_)
              obtain ⟨rfl, rfl⟩ := hv3
              refine gw_sld C (v := nI (v3 28 (mo_rk (v3 36) 8 8))) 25 2 dX11_makeThird_54 rfl rfl (by decide) (by omega) (by first | rfl | simp [mo_up]) ?_
              refine gw_ist C 31 0 dX11_makeThird_55 rfl rfl (by decide) (by omega) mo_st34 ?_
              refine gw_iinc C (v := nI (t + 1)) (lv2 := [(2, iN (t + 1)), (1, iN (k)), (0, .ref (o))]) 0 dX11_makeThird_56 rfl (nI_add _ _) (by omega) rfl ?_
              refine gw_goto C 11 dX11_makeThird_59 (by decide) ?_
              refine gw_lv (lv2 := [(2, iN (t + 1)), (1, iN (k)), (0, .ref (o))]) [0, 1, 2] rfl ?_
              have q := iht (t + 1) (by omega)
              rw [mo_m3t, ← eP, ← eQ, ← ke] at q
              exact q
        refine gw_lv (lv2 := [(2, iN (0)), (1, iN (k)), (0, .ref (o))]) [0, 1, 2] rfl ?_
        exact lp1 (18 - 0) 0 (by omega)
  refine gw_lv (lv2 := [(1, iN (0)), (0, .ref (o))]) [0, 1] rfl ?_
  exact lp (420 - 0) 0 (by omega)
