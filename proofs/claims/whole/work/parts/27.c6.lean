theorem in_X0_read_X7 : ∀ w ∈ wsX70, w ∈ wsX0_read := fun _ h => List.mem_cons_of_mem _ (List.mem_append_right _ (h))
theorem in_X0_show_X0 : ∀ w ∈ wsX00, w ∈ wsX0_show := fun _ h => List.mem_cons_of_mem _ (List.mem_append_left _ (List.mem_append_right _ (h)))
theorem in_X0_show_X7 : ∀ w ∈ wsX70, w ∈ wsX0_show := fun _ h => List.mem_cons_of_mem _ (List.mem_append_right _ (h))
theorem in_X6_partner_X6 : ∀ w ∈ wsX60, w ∈ wsX6_partner := fun _ h => List.mem_cons_of_mem _ (List.mem_append_right _ (h))
theorem in_X6_read_X6 : ∀ w ∈ wsX60, w ∈ wsX6_read := fun _ h => List.mem_cons_of_mem _ (List.mem_append_right _ (h))
theorem in_X6_read_X7 : ∀ w ∈ wsX70, w ∈ wsX6_read := fun _ h => List.mem_cons_of_mem _ (List.mem_append_left _ (List.mem_append_right _ (h)))
theorem in_X6_show_X6 : ∀ w ∈ wsX60, w ∈ wsX6_show := fun _ h => List.mem_cons_of_mem _ (List.mem_append_left _ (List.mem_append_right _ (h)))
theorem in_X6_show_X7 : ∀ w ∈ wsX70, w ∈ wsX6_show := fun _ h => List.mem_cons_of_mem _ (List.mem_append_right _ (h))
theorem lk_X0_read_15 : Cond.fieldLink RX0 15 "StageCube$Pieces" "piece" "[I" ∈ wsX0_read := by decide +kernel
theorem lk_X0_show_9 : Cond.fieldLink RX0 9 "StageCube$CornerOrders" "order" "[I" ∈ wsX0_show := by decide +kernel
theorem lk_X0_show_15 : Cond.fieldLink RX0 15 "StageCube$Pieces" "piece" "[I" ∈ wsX0_show := by decide +kernel
theorem lk_X0_show_28 : Cond.fieldLink RX0 28 "StageCube$Pairings" "EVEN" "[I" ∈ wsX0_show := by decide +kernel
theorem lk_X6_partner_11 : Cond.fieldLink RX6 11 "StageCube$Pairings" "evens" "[I" ∈ wsX6_partner := by decide +kernel
theorem lk_X6_partner_17 : Cond.fieldLink RX6 17 "StageCube$Pairings" "odds" "[I" ∈ wsX6_partner := by decide +kernel
theorem lk_X6_read_11 : Cond.fieldLink RX6 11 "StageCube$Pairings" "evens" "[I" ∈ wsX6_read := by decide +kernel
theorem lk_X6_read_17 : Cond.fieldLink RX6 17 "StageCube$Pairings" "odds" "[I" ∈ wsX6_read := by decide +kernel
theorem lk_X6_read_23 : Cond.fieldLink RX6 23 "StageCube$Pieces" "piece" "[I" ∈ wsX6_read := by decide +kernel
theorem lk_X6_read_28 : Cond.fieldLink RX6 28 "StageCube$Pairings" "POSITIONS" "[I" ∈ wsX6_read := by decide +kernel
theorem lk_X6_show_20 : Cond.fieldLink RX6 20 "StageCube$Pairings" "order" "[I" ∈ wsX6_show := by decide +kernel
theorem lk_X6_show_23 : Cond.fieldLink RX6 23 "StageCube$Pieces" "piece" "[I" ∈ wsX6_show := by decide +kernel
theorem lk_X6_show_28 : Cond.fieldLink RX6 28 "StageCube$Pairings" "POSITIONS" "[I" ∈ wsX6_show := by decide +kernel
theorem lk_X6_show_55 : Cond.fieldLink RX6 55 "StageCube$Pairings" "EVEN" "[I" ∈ wsX6_show := by decide +kernel
theorem cu_to_lt : ∀ x, x < 24 → to_a x < 4 ∧ to_b x < 4 ∧ to_l x < 4 ∧ to_h x < 4 := by decide
theorem cu_to_4 (x : Nat) (hx : x < 24) (f : Nat → Nat) : ∀ j, j < 4 → cu_to x f j < 4 := by
  obtain ⟨h1, h2, h3, h4⟩ := cu_to_lt x hx
  intro j hj
  unfold cu_to
  simp only [up1]
  rcases (show j = 0 ∨ j = 1 ∨ j = 2 ∨ j = 3 by omega) with e | e | e | e <;> subst e <;> simp <;> first | assumption | (split <;> assumption)
theorem cu_ev_8 : ∀ j, j < 4 → cu_ev j < 8 ∧ cu_ev j ^^^ 1 < 8 := by decide
theorem cu_ps_8 : ∀ j, j < 8 → cu_ps j < 8 := by decide
set_option maxHeartbeats 4000000 in
set_option maxRecDepth 100000 in
theorem c_coRead (l : Launch) (D : va_G) (cI cB cS cJ cF cG : ClassId) (tt : Nat → Nat) (ft ofc size : Nat) (nx : Value) (p pa ma rt gt nn kk : Nat) (P M : Nat → Nat) (oa : Nat) (f : Nat → Nat) (hn : nn = 8) (hP : ∀ j, j < 8 → P j < 8) : gw_CI (S := Unit) l yX0_read wsX0_read 1 23 0 0 D (mo_ty cI cB cS cJ cF cG) (zs tt) ([(ft, .inr (0, [iN (ofc), iN (size), nx, .ref (oa)])), (oa, .inl (cI, 4, .inl (fun j => nI (f j))))] ++ pc_ws cI p pa ma rt gt nn kk (P) (M)) [.ref ft, .ref p] (fun r _ => r = nI (cu_oo (P 0 / 2 ^ 1) (P 3 / 2 ^ 1) (P 5 / 2 ^ 1) (P 6 / 2 ^ 1) * 4 + P 1 / 2 ^ 1)) (fun _ => [(ft, .inr (0, [iN (ofc), iN (size), nx, .ref (oa)])), (oa, .inl (cI, 4, .inl (fun j => nI (f j))))] ++ pc_ws cI p pa ma rt gt nn kk (P) (M)) := by
  refine gw_CI.of (cc := cX0_read) (maxL := 4) (rt := .int) (zs_ok tt) (by decide) rfl (Nat.le_of_ble_eq_true rfl) ?_
  intro K C hkl hkn hkR hkD hmn ret
  have C : gw_x K cX0_read RX0 wsX0_read (mo_ty cI cB cS cJ cF cG) (zs tt) := C
  subst hkl hkD
  have p0 := hP 0 (by decide)
  have p3 := hP 3 (by decide)
  have p5 := hP 5 (by decide)
  have p6 := hP 6 (by decide)
  have p1 := hP 1 (by decide)
  refine gw_aload_n C 1 dX0_read_0 rfl rfl ?_
  refine gw_get C 2 2 in_X0_read_X7 dX0_read_1 lk_X0_read_15 rfl rfl (by decide) rfl rfl ?_
  refine gw_astore_n C (lv2 := [(2, .ref (pa)), (0, .ref (ft)), (1, .ref (p))]) dX0_read_4 rfl (by omega) rfl ?_
  refine gw_aload_n C 0 dX0_read_5 rfl rfl ?_
  refine gw_iconst C 0 dX0_read_6 (by decide) ?_
  refine gw_ild C (v := nI (P (0))) 3 0 dX0_read_7 rfl rfl (by first | decide | omega) (by omega) rfl ?_
  refine gw_iconst C 1 dX0_read_8 (by decide) ?_
  refine gw_ishr C dX0_read_9 (by omega) (by omega) ?_
  refine gw_aload_n C 0 dX0_read_10 rfl rfl ?_
  refine gw_iconst C 3 dX0_read_11 (by decide) ?_
  refine gw_ild C (v := nI (P (3))) 3 0 dX0_read_12 rfl rfl (by first | decide | omega) (by omega) rfl ?_
  refine gw_iconst C 1 dX0_read_13 (by decide) ?_
  refine gw_ishr C dX0_read_14 (by omega) (by omega) ?_
  refine gw_aload_n C 0 dX0_read_15 rfl rfl ?_
  refine gw_iconst C 5 dX0_read_16 (by decide) ?_
  refine gw_ild C (v := nI (P (5))) 3 0 dX0_read_17 rfl rfl (by first | decide | omega) (by omega) rfl ?_
  refine gw_iconst C 1 dX0_read_18 (by decide) ?_
  refine gw_ishr C dX0_read_19 (by omega) (by omega) ?_
  refine gw_aload_n C 0 dX0_read_20 rfl rfl ?_
  refine gw_bipush C 6 dX0_read_21 (by decide) ?_
  refine gw_ild C (v := nI (P (6))) 3 0 dX0_read_23 rfl rfl (by first | decide | omega) (by omega) rfl ?_
  refine gw_iconst C 1 dX0_read_24 (by decide) ?_
  refine gw_ishr C dX0_read_25 (by omega) (by omega) ?_
  refine gw_allSI (n := 4) C (c_ofOrder (kl K) (kD K) _ tt _ _ _ _ _ (by omega) (by omega) (by omega) (by omega)) gX0_read_X4_ofOrder rfl (by decide +kernel) dX0_read_26 (by rw [hkR]; decide) (by rw [hkR]; decide) rfl (Nat.le_of_ble_eq_true rfl) rfl (fun rv v hv => ?_)
  subst hv
  refine gw_istore_n C (lv2 := [(3, iN (cu_oo (P 0 / 2 ^ 1) (P 3 / 2 ^ 1) (P 5 / 2 ^ 1) (P 6 / 2 ^ 1))), (2, .ref (pa)), (0, .ref (ft)), (1, .ref (p))]) dX0_read_29 rfl (by omega) rfl ?_
  refine gw_iload_n C 0 dX0_read_30 rfl rfl ?_
  refine gw_iconst C 4 dX0_read_31 (by decide) ?_
  refine gw_imul C dX0_read_32 ?_
  refine gw_aload_n C 1 dX0_read_33 rfl rfl ?_
  refine gw_iconst C 1 dX0_read_34 (by decide) ?_
  refine gw_ild C (v := nI (P (1))) 3 0 dX0_read_35 rfl rfl (by first | decide | omega) (by omega) rfl ?_
  refine gw_iconst C 1 dX0_read_36 (by decide) ?_
  refine gw_ishr C dX0_read_37 (by omega) (by omega) ?_
  refine gw_iadd C dX0_read_38 ?_
  exact ret () dX0_read_39 rfl rfl rfl (Nat.le_refl 0) (Nat.le_refl 0)
def co_P (ap : Nat) (g P : Nat → Nat) : Nat → Nat → Nat
  | 0 => P
  | i + 1 => up1 (up1 (co_P ap g P i) (cu_ev i) (cu_ev (g i))) (cu_ev i ^^^ 1) (cu_ev (g i) ^^^ ap)
set_option maxHeartbeats 4000000 in
set_option maxRecDepth 100000 in
theorem c_coShow (l : Launch) (D : va_G) (cI cB cS cJ cF cG : ClassId) (tt : Nat → Nat) (ft ofc size : Nat) (nx : Value) (p pa ma rt gt nn kk : Nat) (P M : Nat → Nat) (oa : Nat) (f : Nat → Nat) (num : Nat) (hnum : num < 96) (hn : nn = 8) : gw_CV (S := Unit) l yX0_show wsX0_show 1 26 0 0 D (mo_ty cI cB cS cJ cF cG) (zs tt) ([(ft, .inr (0, [iN (ofc), iN (size), nx, .ref (oa)])), (oa, .inl (cI, 4, .inl (fun j => nI (f j))))] ++ pc_ws cI p pa ma rt gt nn kk (P) (M)) [.ref ft, iN num, .ref p] (fun _ => True) (fun _ => [(ft, .inr (0, [iN (ofc), iN (size), nx, .ref (oa)])), (oa, .inl (cI, 4, .inl (fun j => nI ((cu_to (num / 4) f) j))))] ++ pc_ws cI p pa ma rt gt nn kk (co_P ((cu_ev (cu_to (num / 4) f 0) ^^^ cu_ev (num % 4)) ^^^ 1) (cu_to (num / 4) f) P 4) (M)) := by
  refine gw_CV.of (cc := cX0_show) (maxL := 7) (zs_ok tt) (by decide) rfl (Nat.le_of_ble_eq_true rfl) ?_
  intro K C hkl hkn hkR hkD hmn ret
  have C : gw_x K cX0_show RX0 wsX0_show (mo_ty cI cB cS cJ cF cG) (zs tt) := C
  subst hkl hkD
  have zE := C.2.2.2.1.2.2.2.2.2.1
  have zP := C.2.2.2.1.2.2.2.2.2.2.1
  have g4 := cu_to_4 (num / 4) (by omega) f
  have g0 := g4 0 (by decide)
  refine gw_iload_n C 1 dX0_show_0 rfl rfl ?_
  refine gw_iconst C 4 dX0_show_1 (by decide) ?_
  refine gw_idiv C dX0_show_2 (by omega) (by omega) (by omega) ?_
  refine gw_aload_n C 0 dX0_show_3 rfl rfl ?_
  refine gw_get C 0 3 in_X0_show_X0 dX0_show_4 lk_X0_show_9 rfl rfl (by decide) rfl rfl ?_
  refine gw_callSV (b := 0) (n := 2) (wr := [(ft, .inr (0, [iN (ofc), iN (size), nx, .ref (oa)])), (p, .inr (5, [iN (nn), iN (kk), .ref (pa), .ref (ma), .ref (rt), .ref (gt)])), (pa, .inl (cI, nn, .inl (fun j => nI (P j)))), (ma, .inl (cI, nn, .inl (fun j => nI (M j))))]) C (c_toOrder (kl K) (kD K) cI cB cS cJ cF cG tt oa f (num / 4) (by omega)) gX0_show_X4_toOrder rfl (by decide +kernel) dX0_show_7 (by rw [hkR]; decide) (by rw [hkR]; decide) [1] [0, 2, 3, 4] rfl rfl rfl rfl (by decide) rfl (Nat.le_of_ble_eq_true rfl) rfl (fun v hv => ?_)
  refine gw_gets C zE.1 dX0_show_10 lk_X0_show_28 ?_
  refine gw_aload_n C 0 dX0_show_13 rfl rfl ?_
  refine gw_get C 0 3 in_X0_show_X0 dX0_show_14 lk_X0_show_9 rfl rfl (by decide) rfl rfl ?_
  refine gw_iconst C 0 dX0_show_17 (by decide) ?_
  refine gw_ild C (v := nI ((cu_to (num / 4) f) (0))) 4 0 dX0_show_18 rfl rfl (by first | decide | omega) (by omega) rfl ?_
  refine gw_tld C zE.2 dX0_show_19 (by decide) (by omega) rfl ?_
  refine gw_gets C zE.1 dX0_show_20 lk_X0_show_28 ?_
  refine gw_iload_n C 1 dX0_show_23 rfl rfl ?_
  refine gw_iconst C 4 dX0_show_24 (by decide) ?_
  refine gw_irem C dX0_show_25 (by omega) (by omega) (by omega) ?_
  refine gw_tld C zE.2 dX0_show_26 (by decide) (by omega) rfl ?_
  refine gw_ixor C dX0_show_27 ?_
  refine gw_iconst C 1 dX0_show_28 (by decide) ?_
  refine gw_ixor C dX0_show_29 ?_
  refine gw_istore_n C (lv2 := [(3, iN (((cu_ev ((cu_to (num / 4) f) (0))) ^^^ (cu_ev ((num) % (4)))) ^^^ (1))), (0, .ref (ft)), (1, iN (num)), (2, .ref (p))]) dX0_show_30 rfl (by omega) rfl ?_
  refine gw_iconst C 0 dX0_show_31 (by decide) ?_
  refine gw_istore C (lv2 := [(4, iN (0)), (3, iN (((cu_ev ((cu_to (num / 4) f) (0))) ^^^ (cu_ev ((num) % (4)))) ^^^ (1))), (0, .ref (ft)), (1, iN (num)), (2, .ref (p))]) dX0_show_32 (by omega) rfl ?_
  obtain ⟨ap, eap⟩ : ∃ ap, ap = (cu_ev (cu_to (num / 4) f 0) ^^^ cu_ev (num % 4)) ^^^ 1 := ⟨_, rfl⟩
  rw [← eap]
  have lp : ∀ ni i : Nat, i + ni = 4 → gw_G K ([(ft, .inr (0, [iN (ofc), iN (size), nx, .ref (oa)])), (p, .inr (5, [iN (nn), iN (kk), .ref (pa), .ref (ma), .ref (rt), .ref (gt)])), (pa, .inl (cI, nn, .inl (fun j => nI ((co_P ap (cu_to (num / 4) f) P i) j)))), (ma, .inl (cI, nn, .inl (fun j => nI (M j)))), (oa, .inl (cI, 4, .inl (fun j => nI ((cu_to (num / 4) f) j))))]) 0 0 34 [(4, iN (i)), (3, iN (ap)), (0, .ref (ft)), (2, .ref (p))] [] := by
    intro ni
    induction ni with
    | zero =>
      intro i hii
      refine gw_iload C 0 dX0_show_34 rfl ?_
      refine gw_iconst C 4 dX0_show_36 (by decide) ?_
      refine gw_icmp_ge C 89 dX0_show_37 (by decide) (by omega) (by omega) (fun h73 => ?_) (fun h73 => ?_)
      ·
        rw [show i = 4 by omega]
        refine gw_perm (ws2 := [(ft, .inr (0, [iN (ofc), iN (size), nx, .ref (oa)])), (oa, .inl (cI, 4, .inl (fun j => nI ((cu_to (num / 4) f) j))))] ++ pc_ws cI p pa ma rt gt nn kk (co_P ap (cu_to (num / 4) f) P 4) (M)) [0, 4, 1, 2, 3] rfl (by decide) trivial ?_
        exact ret () dX0_show_89 trivial (by rw [eap]) (Nat.le_refl 0) (Nat.le_refl 0)
      ·
        exact absurd h73 (by omega)
    | succ ni ihi =>
      intro i hii
      refine gw_iload C 0 dX0_show_34 rfl ?_
      refine gw_iconst C 4 dX0_show_36 (by decide) ?_
      refine gw_icmp_ge C 89 dX0_show_37 (by decide) (by omega) (by omega) (fun h74 => ?_) (fun h74 => ?_)
      ·
        exact absurd h74 (by omega)
      ·
        have q1 := cu_ev_8 i (by omega)
        have q2 := g4 i (by omega)
        refine gw_gets C zE.1 dX0_show_40 lk_X0_show_28 ?_
        refine gw_iload C 0 dX0_show_43 rfl ?_
        refine gw_tld C zE.2 dX0_show_45 (by decide) (by omega) rfl ?_
        refine gw_istore C (lv2 := [(5, iN (cu_ev (i))), (4, iN (i)), (3, iN (ap)), (0, .ref (ft)), (2, .ref (p))]) dX0_show_46 (by omega) rfl ?_
        refine gw_gets C zE.1 dX0_show_48 lk_X0_show_28 ?_
        refine gw_aload_n C 3 dX0_show_51 rfl rfl ?_
        refine gw_get C 0 3 in_X0_show_X0 dX0_show_52 lk_X0_show_9 rfl rfl (by decide) rfl rfl ?_
        refine gw_iload C 1 dX0_show_55 rfl ?_
        refine gw_ild C (v := nI ((cu_to (num / 4) f) (i))) 4 0 dX0_show_57 rfl rfl (by first | decide | omega) (by omega) rfl ?_
        refine gw_tld C zE.2 dX0_show_58 (by decide) (by omega) rfl ?_
        refine gw_istore C (lv2 := [(6, iN (cu_ev ((cu_to (num / 4) f) (i)))), (5, iN (cu_ev (i))), (4, iN (i)), (3, iN (ap)), (0, .ref (ft)), (2, .ref (p))]) dX0_show_59 (by omega) rfl ?_
        refine gw_aload_n C 5 dX0_show_61 rfl rfl ?_
        refine gw_get C 1 2 in_X0_show_X7 dX0_show_62 lk_X0_show_15 rfl rfl (by decide) rfl rfl ?_
        refine gw_iload C 1 dX0_show_65 rfl ?_
        refine gw_iload C 0 dX0_show_67 rfl ?_
        refine gw_istN C (ws2 := [(ft, .inr (0, [iN (ofc), iN (size), nx, .ref (oa)])), (p, .inr (5, [iN (nn), iN (kk), .ref (pa), .ref (ma), .ref (rt), .ref (gt)])), (pa, .inl (cI, nn, .inl (fun j => nI ((up1 (co_P ap (cu_to (num / 4) f) P i) (cu_ev (i)) (cu_ev ((cu_to (num / 4) f) (i)))) j)))), (ma, .inl (cI, nn, .inl (fun j => nI (M j)))), (oa, .inl (cI, 4, .inl (fun j => nI ((cu_to (num / 4) f) j))))]) 2 0 dX0_show_69 rfl rfl (by first | decide | omega) (by omega) rfl ?_
        refine gw_aload_n C 5 dX0_show_70 rfl rfl ?_
        refine gw_get C 1 2 in_X0_show_X7 dX0_show_71 lk_X0_show_15 rfl rfl (by decide) rfl rfl ?_
        refine gw_iload C 1 dX0_show_74 rfl ?_
        refine gw_iconst C 1 dX0_show_76 (by decide) ?_
        refine gw_ixor C dX0_show_77 ?_
        refine gw_iload C 0 dX0_show_78 rfl ?_
        refine gw_iload_n C 3 dX0_show_80 rfl rfl ?_
        refine gw_ixor C dX0_show_81 ?_
        refine gw_istN C (ws2 := [(ft, .inr (0, [iN (ofc), iN (size), nx, .ref (oa)])), (p, .inr (5, [iN (nn), iN (kk), .ref (pa), .ref (ma), .ref (rt), .ref (gt)])), (pa, .inl (cI, nn, .inl (fun j => nI ((up1 (up1 (co_P ap (cu_to (num / 4) f) P i) (cu_ev (i)) (cu_ev ((cu_to (num / 4) f) (i)))) ((cu_ev (i)) ^^^ (1)) ((cu_ev ((cu_to (num / 4) f) (i))) ^^^ (ap))) j)))), (ma, .inl (cI, nn, .inl (fun j => nI (M j)))), (oa, .inl (cI, 4, .inl (fun j => nI ((cu_to (num / 4) f) j))))]) 2 0 dX0_show_82 rfl rfl (by first | decide | omega) (by omega) rfl ?_
        refine gw_iinc C (v := nI (i + 1)) (lv2 := [(4, iN (i + 1)), (6, iN (cu_ev ((cu_to (num / 4) f) (i)))), (5, iN (cu_ev (i))), (3, iN (ap)), (0, .ref (ft)), (2, .ref (p))]) 2 dX0_show_83 rfl (nI_add _ _) (by omega) rfl ?_
        refine gw_goto C 34 dX0_show_86 (by decide) ?_
        refine gw_lv (lv2 := [(4, iN (i + 1)), (3, iN (ap)), (0, .ref (ft)), (2, .ref (p))]) [0, 3, 4, 5] rfl ?_
        exact ihi (i + 1) (by omega)
  refine gw_lv (lv2 := [(4, iN (0)), (3, iN (ap)), (0, .ref (ft)), (2, .ref (p))]) [0, 1, 2, 4] rfl ?_
  exact lp (4 - 0) 0 (by omega)
def pt_ (E O : Nat → Nat) (o : Nat) : Nat := if E 0 ^^^ E 1 = O 0 ^^^ O o then 1 else if E 0 ^^^ E 2 = O 0 ^^^ O o then 2 else 3
set_option maxHeartbeats 4000000 in
set_option maxRecDepth 100000 in
theorem c_partner (l : Launch) (D : va_G) (cI cB cS cJ cF cG : ClassId) (tt : Nat → Nat) (ft ofc size : Nat) (nx : Value) (p pa ma rt gt nn kk : Nat) (P M : Nat → Nat) (ea da oa : Nat) (E O f : Nat → Nat) (o : Nat) (ho : o < 4) (hE : ∀ j, j < 8 → E j < 8) (hO : ∀ j, j < 8 → O j < 8) : gw_CI (S := Unit) l yX6_partner wsX6_partner 0 0 0 0 D (mo_ty cI cB cS cJ cF cG) (zs tt) ([(ft, .inr (4, [iN (ofc), iN (size), nx, .ref (ea), .ref (da), .ref (oa)])), (ea, .inl (cI, 8, .inl (fun j => nI (E j)))), (da, .inl (cI, 8, .inl (fun j => nI (O j)))), (oa, .inl (cI, 4, .inl (fun j => nI (f j))))] ++ pc_ws cI p pa ma rt gt nn kk (P) (M)) [.ref ft, iN o] (fun r _ => r = nI (pt_ E O o)) (fun _ => [(ft, .inr (4, [iN (ofc), iN (size), nx, .ref (ea), .ref (da), .ref (oa)])), (ea, .inl (cI, 8, .inl (fun j => nI (E j)))), (da, .inl (cI, 8, .inl (fun j => nI (O j)))), (oa, .inl (cI, 4, .inl (fun j => nI (f j))))] ++ pc_ws cI p pa ma rt gt nn kk (P) (M)) := by
  refine gw_CI.of (cc := cX6_partner) (maxL := 3) (rt := .int) (zs_ok tt) (by decide) rfl (Nat.le_of_ble_eq_true rfl) ?_
  intro K C hkl hkn hkR hkD hmn ret
  have C : gw_x K cX6_partner RX6 wsX6_partner (mo_ty cI cB cS cJ cF cG) (zs tt) := C
  subst hkl hkD
  have x1 : E 0 ^^^ E 1 < 2 ^ 31 := Nat.xor_lt_two_pow (by have := hE 0 (by decide); omega) (by have := hE 1 (by decide); omega)
  have x2 : E 0 ^^^ E 2 < 2 ^ 31 := Nat.xor_lt_two_pow (by have := hE 0 (by decide); omega) (by have := hE 2 (by decide); omega)
  have x3 : O 0 ^^^ O o < 2 ^ 31 := Nat.xor_lt_two_pow (by have := hO 0 (by decide); omega) (by have := hO o (by omega); omega)
  refine gw_aload_n C 0 dX6_partner_0 rfl rfl ?_
  refine gw_get C 0 4 in_X6_partner_X6 dX6_partner_1 lk_X6_partner_17 rfl rfl (by decide) rfl rfl ?_
  refine gw_iconst C 0 dX6_partner_4 (by decide) ?_
  refine gw_ild C (v := nI (O (0))) 2 0 dX6_partner_5 rfl rfl (by first | decide | omega) (by omega) rfl ?_
  refine gw_aload_n C 0 dX6_partner_6 rfl rfl ?_
  refine gw_get C 0 4 in_X6_partner_X6 dX6_partner_7 lk_X6_partner_17 rfl rfl (by decide) rfl rfl ?_
  refine gw_iload_n C 1 dX6_partner_10 rfl rfl ?_
  refine gw_ild C (v := nI (O (o))) 2 0 dX6_partner_11 rfl rfl (by first | decide | omega) (by omega) rfl ?_
  refine gw_ixor C dX6_partner_12 ?_
  refine gw_istore_n C (lv2 := [(2, iN ((O (0)) ^^^ (O (o)))), (0, .ref (ft)), (1, iN (o))]) dX6_partner_13 rfl (by omega) rfl ?_
  refine gw_aload_n C 1 dX6_partner_14 rfl rfl ?_
  refine gw_get C 0 3 in_X6_partner_X6 dX6_partner_15 lk_X6_partner_11 rfl rfl (by decide) rfl rfl ?_
  refine gw_iconst C 0 dX6_partner_18 (by decide) ?_
  refine gw_ild C (v := nI (E (0))) 1 0 dX6_partner_19 rfl rfl (by first | decide | omega) (by omega) rfl ?_
  refine gw_aload_n C 1 dX6_partner_20 rfl rfl ?_
  refine gw_get C 0 3 in_X6_partner_X6 dX6_partner_21 lk_X6_partner_11 rfl rfl (by decide) rfl rfl ?_
  refine gw_iconst C 1 dX6_partner_24 (by decide) ?_
  refine gw_ild C (v := nI (E (1))) 1 0 dX6_partner_25 rfl rfl (by first | decide | omega) (by omega) rfl ?_
  refine gw_ixor C dX6_partner_26 ?_
  refine gw_iload_n C 0 dX6_partner_27 rfl rfl ?_
  refine gw_icmp_ne C 35 dX6_partner_28 (by decide) (by omega) (by omega) (fun h75 => ?_) (fun h75 => ?_)
  ·
    refine gw_aload_n C 1 dX6_partner_35 rfl rfl ?_
    refine gw_get C 0 3 in_X6_partner_X6 dX6_partner_36 lk_X6_partner_11 rfl rfl (by decide) rfl rfl ?_
    refine gw_iconst C 0 dX6_partner_39 (by decide) ?_
    refine gw_ild C (v := nI (E (0))) 1 0 dX6_partner_40 rfl rfl (by first | decide | omega) (by omega) rfl ?_
    refine gw_aload_n C 1 dX6_partner_41 rfl rfl ?_
    refine gw_get C 0 3 in_X6_partner_X6 dX6_partner_42 lk_X6_partner_11 rfl rfl (by decide) rfl rfl ?_
    refine gw_iconst C 2 dX6_partner_45 (by decide) ?_
    refine gw_ild C (v := nI (E (2))) 1 0 dX6_partner_46 rfl rfl (by first | decide | omega) (by omega) rfl ?_
    refine gw_ixor C dX6_partner_47 ?_
    refine gw_iload_n C 0 dX6_partner_48 rfl rfl ?_
    refine gw_icmp_ne C 56 dX6_partner_49 (by decide) (by omega) (by omega) (fun h76 => ?_) (fun h76 => ?_)
    ·
      refine gw_iconst C 3 dX6_partner_56 (by decide) ?_
      exact ret () dX6_partner_57 rfl (by rw [pt_, if_neg (by assumption), if_neg (by assumption)]) rfl (Nat.le_refl 0) (Nat.le_refl 0)
    ·
      refine gw_iconst C 2 dX6_partner_52 (by decide) ?_
      refine gw_goto C 57 dX6_partner_53 (by decide) ?_
      exact ret () dX6_partner_57 rfl (by rw [pt_, if_neg (by assumption), if_pos (by assumption)]) rfl (Nat.le_refl 0) (Nat.le_refl 0)
  ·
    refine gw_iconst C 1 dX6_partner_31 (by decide) ?_
    refine gw_goto C 57 dX6_partner_32 (by decide) ?_
    exact ret () dX6_partner_57 rfl (by rw [pt_, if_pos (by assumption)]) rfl (Nat.le_refl 0) (Nat.le_refl 0)
def pr_ (P E O : Nat → Nat) : Nat → Nat × Nat × (Nat → Nat) × (Nat → Nat)
  | 0 => (0, 0, E, O)
  | i + 1 => if cu_bc (P (cu_ps i)) % 2 = 0 then ((pr_ P E O i).1 ||| 1 * 2 ^ i, (pr_ P E O i).2.1 + 1, up1 (pr_ P E O i).2.2.1 (pr_ P E O i).2.1 (P (cu_ps i)), (pr_ P E O i).2.2.2) else ((pr_ P E O i).1, (pr_ P E O i).2.1, (pr_ P E O i).2.2.1, up1 (pr_ P E O i).2.2.2 (i - (pr_ P E O i).2.1) (P (cu_ps i)))
theorem pr_b (P E O : Nat → Nat) (hP : ∀ j, j < 8 → P j < 8) (hE : ∀ j, j < 8 → E j < 8) (hO : ∀ j, j < 8 → O j < 8) : ∀ i, i ≤ 8 → (pr_ P E O i).2.1 ≤ i ∧ (pr_ P E O i).1 < 2 ^ 8 ∧ (∀ j, j < 8 → (pr_ P E O i).2.2.1 j < 8) ∧ ∀ j, j < 8 → (pr_ P E O i).2.2.2 j < 8 := by
  intro i
  induction i with
  | zero => intro _; exact ⟨Nat.le_refl _, Nat.two_pow_pos 8, hE, hO⟩
  | succ i ih =>
    intro hi
    obtain ⟨a1, a2, a3, a4⟩ := ih (by omega)
    have hv := hP (cu_ps i) (cu_ps_8 i (by omega))
    rw [pr_]
    split
    · refine ⟨by dsimp only; omega, ?_, fun j hj => ?_, a4⟩
      · refine Nat.or_lt_two_pow a2 ?_
        rw [Nat.one_mul]
        exact Nat.pow_lt_pow_right (by decide) (by omega)
      · simp only [up1]; split; exact hv; exact a3 j hj
    · refine ⟨by dsimp only; omega, a2, a3, fun j hj => ?_⟩
      simp only [up1]; split; exact hv; exact a4 j hj
theorem cu_bc_4 : ∀ x, x < 8 → cu_bc x < 4 := by decide
def pr_N (P E O : Nat → Nat) : Nat := (cu_os (pr_ P E O 8).1 8).1 * 6 + cu_oo 0 (pt_ (pr_ P E O 8).2.2.1 (pr_ P E O 8).2.2.2 1) (pt_ (pr_ P E O 8).2.2.1 (pr_ P E O 8).2.2.2 2) (pt_ (pr_ P E O 8).2.2.1 (pr_ P E O 8).2.2.2 3)
theorem pt_3 (E O : Nat → Nat) (o : Nat) : pt_ E O o ≤ 3 := by rw [pt_]; split; omega; split <;> omega
set_option maxHeartbeats 4000000 in
set_option maxRecDepth 100000 in
theorem c_paRead (l : Launch) (D : va_G) (cI cB cS cJ cF cG : ClassId) (tt : Nat → Nat) (ft ofc size : Nat) (nx : Value) (p pa ma rt gt nn kk : Nat) (P M : Nat → Nat) (ea da oa : Nat) (E O f : Nat → Nat) (hn : nn = 8) (hP : ∀ j, j < 8 → P j < 8) (hE : ∀ j, j < 8 → E j < 8) (hO : ∀ j, j < 8 → O j < 8) : gw_CI (S := Unit) l yX6_read wsX6_read 1 25 0 0 D (mo_ty cI cB cS cJ cF cG) (zs tt) ([(ft, .inr (4, [iN (ofc), iN (size), nx, .ref (ea), .ref (da), .ref (oa)])), (ea, .inl (cI, 8, .inl (fun j => nI (E j)))), (da, .inl (cI, 8, .inl (fun j => nI (O j)))), (oa, .inl (cI, 4, .inl (fun j => nI (f j))))] ++ pc_ws cI p pa ma rt gt nn kk (P) (M)) [.ref ft, .ref p] (fun r _ => r = nI (pr_N P E O)) (fun _ => [(ft, .inr (4, [iN (ofc), iN (size), nx, .ref (ea), .ref (da), .ref (oa)])), (ea, .inl (cI, 8, .inl (fun j => nI (((pr_ P E O 8).2.2.1) j)))), (da, .inl (cI, 8, .inl (fun j => nI (((pr_ P E O 8).2.2.2) j)))), (oa, .inl (cI, 4, .inl (fun j => nI (f j))))] ++ pc_ws cI p pa ma rt gt nn kk (P) (M)) := by
  refine gw_CI.of (cc := cX6_read) (maxL := 6) (rt := .int) (zs_ok tt) (by decide) rfl (Nat.le_of_ble_eq_true rfl) ?_
  intro K C hkl hkn hkR hkD hmn ret
  have C : gw_x K cX6_read RX6 wsX6_read (mo_ty cI cB cS cJ cF cG) (zs tt) := C
  subst hkl hkD
  have zE := C.2.2.2.1.2.2.2.2.2.1
  have zP := C.2.2.2.1.2.2.2.2.2.2.1
  refine gw_iconst C 0 dX6_read_0 (by decide) ?_
  refine gw_istore_n C (lv2 := [(2, iN (0)), (0, .ref (ft)), (1, .ref (p))]) dX6_read_1 rfl (by omega) rfl ?_
  refine gw_iconst C 0 dX6_read_2 (by decide) ?_
  refine gw_istore_n C (lv2 := [(3, iN (0)), (2, iN (0)), (0, .ref (ft)), (1, .ref (p))]) dX6_read_3 rfl (by omega) rfl ?_
  refine gw_iconst C 0 dX6_read_4 (by decide) ?_
  refine gw_istore C (lv2 := [(4, iN (0)), (3, iN (0)), (2, iN (0)), (0, .ref (ft)), (1, .ref (p))]) dX6_read_5 (by omega) rfl ?_
  refine gw_ws (ws2 := [(ft, .inr (4, [iN (ofc), iN (size), nx, .ref (ea), .ref (da), .ref (oa)])), (ea, .inl (cI, 8, .inl (fun j => nI (((pr_ P E O 0).2.2.1) j)))), (da, .inl (cI, 8, .inl (fun j => nI (((pr_ P E O 0).2.2.2) j)))), (oa, .inl (cI, 4, .inl (fun j => nI (f j)))), (p, .inr (5, [iN (nn), iN (kk), .ref (pa), .ref (ma), .ref (rt), .ref (gt)])), (pa, .inl (cI, nn, .inl (fun j => nI (P j)))), (ma, .inl (cI, nn, .inl (fun j => nI (M j))))]) rfl ?_
  refine gw_lv (lv2 := [(4, iN 0), (3, iN (pr_ P E O 0).2.1), (2, iN (pr_ P E O 0).1), (0, .ref ft), (1, .ref p)]) [0, 1, 2, 3, 4] rfl ?_
  have lp : ∀ ni i : Nat, i + ni = 8 → gw_G K ([(ft, .inr (4, [iN (ofc), iN (size), nx, .ref (ea), .ref (da), .ref (oa)])), (ea, .inl (cI, 8, .inl (fun j => nI (((pr_ P E O i).2.2.1) j)))), (da, .inl (cI, 8, .inl (fun j => nI (((pr_ P E O i).2.2.2) j)))), (oa, .inl (cI, 4, .inl (fun j => nI (f j)))), (p, .inr (5, [iN (nn), iN (kk), .ref (pa), .ref (ma), .ref (rt), .ref (gt)])), (pa, .inl (cI, nn, .inl (fun j => nI (P j)))), (ma, .inl (cI, nn, .inl (fun j => nI (M j))))]) 0 0 7 [(4, iN (i)), (3, iN ((pr_ P E O i).2.1)), (2, iN ((pr_ P E O i).1)), (0, .ref (ft)), (1, .ref (p))] [] := by
    intro ni
    induction ni with
    | zero =>
      intro i hii
      refine gw_iload C 0 dX6_read_7 rfl ?_
      refine gw_bipush C 8 dX6_read_9 (by decide) ?_
      refine gw_icmp_ge C 75 dX6_read_11 (by decide) (by omega) (by omega) (fun h77 => ?_) (fun h77 => ?_)
      ·
        rw [show i = 8 by omega]
        obtain ⟨b1, b2, b3, b4⟩ := pr_b P E O hP hE hO 8 (Nat.le_refl _)
        have eN : pr_N P E O = (cu_os (pr_ P E O 8).1 8).1 * 6 + cu_oo 0 (pt_ (pr_ P E O 8).2.2.1 (pr_ P E O 8).2.2.2 1) (pt_ (pr_ P E O 8).2.2.1 (pr_ P E O 8).2.2.2 2) (pt_ (pr_ P E O 8).2.2.1 (pr_ P E O 8).2.2.2 3) := rfl
        obtain ⟨S, eS⟩ : ∃ S, S = pr_ P E O 8 := ⟨_, rfl⟩
        rw [← eS] at b1 b2 b3 b4 eN
        rw [← eS]
        refine gw_iconst C 0 dX6_read_75 (by decide) ?_
        refine gw_aload_n C 3 dX6_read_76 rfl rfl ?_
        refine gw_iconst C 1 dX6_read_77 (by decide) ?_
        refine gw_allVI (n := 1) C (c_partner (kl K) (kD K) cI cB cS cJ cF cG tt ft ofc size nx p pa ma rt gt nn kk P M ea da oa S.2.2.1 S.2.2.2 f 1 (by decide) b3 b4) 0 rfl rfl rfl gX6_read_X6_partner rfl (by decide +kernel) dX6_read_78 (by rw [hkR]; decide) (by rw [hkR]; decide) rfl (Nat.le_of_ble_eq_true rfl) rfl (fun rv1 v1 hv1 => ?_)
        subst hv1
        have t1 := pt_3 S.2.2.1 S.2.2.2 1
        refine gw_aload_n C 3 dX6_read_81 rfl rfl ?_
        refine gw_iconst C 2 dX6_read_82 (by decide) ?_
        refine gw_allVI (n := 1) C (c_partner (kl K) (kD K) cI cB cS cJ cF cG tt ft ofc size nx p pa ma rt gt nn kk P M ea da oa S.2.2.1 S.2.2.2 f 2 (by decide) b3 b4) 0 rfl rfl rfl gX6_read_X6_partner rfl (by decide +kernel) dX6_read_83 (by rw [hkR]; decide) (by rw [hkR]; decide) rfl (Nat.le_of_ble_eq_true rfl) rfl (fun rv2 v2 hv2 => ?_)
        subst hv2
        have t2 := pt_3 S.2.2.1 S.2.2.2 2
        refine gw_aload_n C 3 dX6_read_86 rfl rfl ?_
        refine gw_iconst C 3 dX6_read_87 (by decide) ?_
        refine gw_allVI (n := 1) C (c_partner (kl K) (kD K) cI cB cS cJ cF cG tt ft ofc size nx p pa ma rt gt nn kk P M ea da oa S.2.2.1 S.2.2.2 f 3 (by decide) b3 b4) 0 rfl rfl rfl gX6_read_X6_partner rfl (by decide +kernel) dX6_read_88 (by rw [hkR]; decide) (by rw [hkR]; decide) rfl (Nat.le_of_ble_eq_true rfl) rfl (fun rv3 v3 hv3 => ?_)
        subst hv3
        have t3 := pt_3 S.2.2.1 S.2.2.2 3
        refine gw_allSI (n := 4) C (c_ofOrder (kl K) (kD K) _ tt _ 0 _ _ _ (by omega) (by omega) (by omega) (by omega)) gX6_read_X4_ofOrder rfl (by decide +kernel) dX6_read_91 (by rw [hkR]; decide) (by rw [hkR]; decide) rfl (Nat.le_of_ble_eq_true rfl) rfl (fun rv4 v4 hv4 => ?_)
        subst hv4
        refine gw_istore C (lv2 := [(4, iN (cu_oo 0 (pt_ S.2.2.1 S.2.2.2 1) (pt_ S.2.2.1 S.2.2.2 2) (pt_ S.2.2.1 S.2.2.2 3))), (3, iN (S.2.1)), (2, iN (S.1)), (0, .ref (ft)), (1, .ref (p))]) dX6_read_94 (by omega) rfl ?_
        refine gw_iload_n C 2 dX6_read_96 rfl rfl ?_
        refine gw_bipush C 8 dX6_read_97 (by decide) ?_
        refine gw_allSI (n := 2) C (c_ofSet (kl K) (kD K) _ tt _ S.1 8 (by omega) (by decide)) gX6_read_X4_ofSet rfl (by decide +kernel) dX6_read_99 (by rw [hkR]; decide) (by rw [hkR]; decide) rfl (Nat.le_of_ble_eq_true rfl) rfl (fun rv5 v5 hv5 => ?_)
        subst hv5
        refine gw_bipush C 6 dX6_read_102 (by decide) ?_
        refine gw_imul C dX6_read_104 ?_
        refine gw_iload C 0 dX6_read_105 rfl ?_
        refine gw_iadd C dX6_read_107 ?_
        exact ret () dX6_read_108 rfl (by rw [eN]) (by rw [eS]) (Nat.le_refl 0) (Nat.le_refl 0)
      ·
        exact absurd h77 (by omega)
    | succ ni ihi =>
      intro i hii
      refine gw_iload C 0 dX6_read_7 rfl ?_
      refine gw_bipush C 8 dX6_read_9 (by decide) ?_
      refine gw_icmp_ge C 75 dX6_read_11 (by decide) (by omega) (by omega) (fun h78 => ?_) (fun h78 => ?_)
      ·
        exact absurd h78 (by omega)
      ·
        obtain ⟨b1, b2, b3, b4⟩ := pr_b P E O hP hE hO i (by omega)
        have q1 := cu_ps_8 i (by omega)
        have q2 := hP _ q1
        have q3 := cu_bc_4 _ q2
        obtain ⟨S, eS⟩ : ∃ S, S = pr_ P E O i := ⟨_, rfl⟩
        rw [← eS] at b1 b2 b3 b4
        rw [← eS]
        refine gw_aload_n C 4 dX6_read_14 rfl rfl ?_
        refine gw_get C 4 2 in_X6_read_X7 dX6_read_15 lk_X6_read_23 rfl rfl (by decide) rfl rfl ?_
        refine gw_gets C zP.1 dX6_read_18 lk_X6_read_28 ?_
        refine gw_iload C 0 dX6_read_21 rfl ?_
        refine gw_tld C zP.2 dX6_read_23 (by decide) (by omega) rfl ?_
        refine gw_ild C (v := nI (P (cu_ps (i)))) 5 0 dX6_read_24 rfl rfl (by first | decide | omega) (by omega) rfl ?_
        refine gw_istore C (lv2 := [(5, iN (P (cu_ps (i)))), (4, iN (i)), (3, iN (S.2.1)), (2, iN (S.1)), (0, .ref (ft)), (1, .ref (p))]) dX6_read_25 (by omega) rfl ?_
        refine gw_iload C 0 dX6_read_27 rfl ?_
        refine gw_allSI (n := 1) C (c_bitCount (kl K) (kD K) _ tt _ (P (cu_ps i)) q2) gX6_read_J6_bitCount_0f7a4 rfl (by decide +kernel) dX6_read_29 (by rw [hkR]; decide) (by rw [hkR]; decide) rfl (Nat.le_of_ble_eq_true rfl) rfl (fun rv v hv => ?_)
        subst hv
        refine gw_iconst C 2 dX6_read_32 (by decide) ?_
        refine gw_irem C dX6_read_33 (by omega) (by omega) (by omega) ?_
        refine gw_if_ne C 58 dX6_read_34 (by decide) (by omega) (fun h79 => ?_) (fun h79 => ?_)
        ·
          refine gw_aload_n C 4 dX6_read_58 rfl rfl ?_
          refine gw_get C 0 4 in_X6_read_X6 dX6_read_59 lk_X6_read_17 rfl rfl (by decide) rfl rfl ?_
          refine gw_iload C 1 dX6_read_62 rfl ?_
          refine gw_iload_n C 2 dX6_read_64 rfl rfl ?_
          refine gw_isub C dX6_read_65 (by omega) ?_
          refine gw_iload C 0 dX6_read_66 rfl ?_
          refine gw_istN C (ws2 := [(ft, .inr (4, [iN (ofc), iN (size), nx, .ref (ea), .ref (da), .ref (oa)])), (ea, .inl (cI, 8, .inl (fun j => nI ((S.2.2.1) j)))), (da, .inl (cI, 8, .inl (fun j => nI ((up1 (S.2.2.2) ((i) - (S.2.1)) (P (cu_ps (i)))) j)))), (oa, .inl (cI, 4, .inl (fun j => nI (f j)))), (p, .inr (5, [iN (nn), iN (kk), .ref (pa), .ref (ma), .ref (rt), .ref (gt)])), (pa, .inl (cI, nn, .inl (fun j => nI (P j)))), (ma, .inl (cI, nn, .inl (fun j => nI (M j))))]) 2 0 dX6_read_68 rfl rfl (by first | decide | omega) (by omega) rfl ?_
          refine gw_iinc C (v := nI (i + 1)) (lv2 := [(4, iN (i + 1)), (5, iN (P (cu_ps (i)))), (3, iN (S.2.1)), (2, iN (S.1)), (0, .ref (ft)), (1, .ref (p))]) 1 dX6_read_69 rfl (nI_add _ _) (by omega) rfl ?_
          refine gw_goto C 7 dX6_read_72 (by decide) ?_
          refine gw_lv (lv2 := [(4, iN (i + 1)), (3, iN (S.2.1)), (2, iN (S.1)), (0, .ref (ft)), (1, .ref (p))]) [0, 2, 3, 4, 5] rfl ?_
          have q := ihi (i + 1) (by omega)
          rw [pr_, if_neg h79, ← eS] at q
          exact q
        ·
          refine gw_iload_n C 3 dX6_read_37 rfl rfl ?_
          refine gw_iconst C 1 dX6_read_38 (by decide) ?_
          refine gw_iload C 1 dX6_read_39 rfl ?_
          refine gw_ishl C dX6_read_41 (by omega) (by exact gw_p2 (by omega)) ?_
          refine gw_ior C dX6_read_42 ?_
          refine gw_istore_n C (lv2 := [(2, iN ((S.1) ||| ((1) * 2 ^ (i)))), (5, iN (P (cu_ps (i)))), (4, iN (i)), (3, iN (S.2.1)), (0, .ref (ft)), (1, .ref (p))]) dX6_read_43 rfl (by omega) rfl ?_
          refine gw_aload_n C 4 dX6_read_44 rfl rfl ?_
          refine gw_get C 0 3 in_X6_read_X6 dX6_read_45 lk_X6_read_11 rfl rfl (by decide) rfl rfl ?_
          refine gw_iload_n C 3 dX6_read_48 rfl rfl ?_
          refine gw_iload C 1 dX6_read_49 rfl ?_
          refine gw_istN C (ws2 := [(ft, .inr (4, [iN (ofc), iN (size), nx, .ref (ea), .ref (da), .ref (oa)])), (ea, .inl (cI, 8, .inl (fun j => nI ((up1 (S.2.2.1) (S.2.1) (P (cu_ps (i)))) j)))), (da, .inl (cI, 8, .inl (fun j => nI ((S.2.2.2) j)))), (oa, .inl (cI, 4, .inl (fun j => nI (f j)))), (p, .inr (5, [iN (nn), iN (kk), .ref (pa), .ref (ma), .ref (rt), .ref (gt)])), (pa, .inl (cI, nn, .inl (fun j => nI (P j)))), (ma, .inl (cI, nn, .inl (fun j => nI (M j))))]) 1 0 dX6_read_51 rfl rfl (by first | decide | omega) (by omega) rfl ?_
          refine gw_iinc C (v := nI (S.2.1 + 1)) (lv2 := [(3, iN (S.2.1 + 1)), (2, iN ((S.1) ||| ((1) * 2 ^ (i)))), (5, iN (P (cu_ps (i)))), (4, iN (i)), (0, .ref (ft)), (1, .ref (p))]) 3 dX6_read_52 rfl (nI_add _ _) (by omega) rfl ?_
          refine gw_goto C 69 dX6_read_55 (by decide) ?_
          refine gw_iinc C (v := nI (i + 1)) (lv2 := [(4, iN (i + 1)), (3, iN (S.2.1 + 1)), (2, iN ((S.1) ||| ((1) * 2 ^ (i)))), (5, iN (P (cu_ps (i)))), (0, .ref (ft)), (1, .ref (p))]) 3 dX6_read_69 rfl (nI_add _ _) (by omega) rfl ?_
          refine gw_goto C 7 dX6_read_72 (by decide) ?_
          refine gw_lv (lv2 := [(4, iN (i + 1)), (3, iN (S.2.1 + 1)), (2, iN ((S.1) ||| ((1) * 2 ^ (i)))), (0, .ref (ft)), (1, .ref (p))]) [0, 1, 2, 4, 5] rfl ?_
          have q := ihi (i + 1) (by omega)
          rw [pr_, if_pos h79, ← eS] at q
          exact q
  refine gw_lv (lv2 := [(4, iN (0)), (3, iN ((pr_ P E O 0).2.1)), (2, iN ((pr_ P E O 0).1)), (0, .ref (ft)), (1, .ref (p))]) [0, 1, 2, 3, 4] rfl ?_
  exact lp (8 - 0) 0 (by omega)
def sh_ (set : Nat) (g P : Nat → Nat) : Nat → Nat × (Nat → Nat)
  | 0 => (0, P)
  | i + 1 => if (set / 2 ^ i &&& 1) = 0 then ((sh_ set g P i).1, up1 (sh_ set g P i).2 (cu_ps i) (cu_ev (g (i - (sh_ set g P i).1 &&& 3)) ^^^ 1)) else ((sh_ set g P i).1 + 1, up1 (sh_ set g P i).2 (cu_ps i) (cu_ev ((sh_ set g P i).1 &&& 3)))
theorem sh_le (set : Nat) (g P : Nat → Nat) : ∀ i, (sh_ set g P i).1 ≤ i
  | 0 => Nat.le_refl _
  | i + 1 => by have := sh_le set g P i; rw [sh_]; split <;> dsimp only <;> omega
theorem and3 (x : Nat) : x &&& 3 < 4 := Nat.lt_of_le_of_lt Nat.and_le_right (by decide)
set_option maxHeartbeats 4000000 in
set_option maxRecDepth 100000 in
theorem c_paShow (l : Launch) (D : va_G) (cI cB cS cJ cF cG : ClassId) (tt : Nat → Nat) (ft ofc size : Nat) (nx : Value) (p pa ma rt gt nn kk : Nat) (P M : Nat → Nat) (ea da oa : Nat) (E O f : Nat → Nat) (num : Nat) (hnum : num < 420) (hn : nn = 8) : gw_CV (S := Unit) l yX6_show wsX6_show 1 26 0 0 D (mo_ty cI cB cS cJ cF cG) (zs tt) ([(ft, .inr (4, [iN (ofc), iN (size), nx, .ref (ea), .ref (da), .ref (oa)])), (ea, .inl (cI, 8, .inl (fun j => nI (E j)))), (da, .inl (cI, 8, .inl (fun j => nI (O j)))), (oa, .inl (cI, 4, .inl (fun j => nI (f j))))] ++ pc_ws cI p pa ma rt gt nn kk (P) (M)) [.ref ft, iN num, .ref p] (fun _ => True) (fun _ => [(ft, .inr (4, [iN (ofc), iN (size), nx, .ref (ea), .ref (da), .ref (oa)])), (ea, .inl (cI, 8, .inl (fun j => nI (E j)))), (da, .inl (cI, 8, .inl (fun j => nI (O j)))), (oa, .inl (cI, 4, .inl (fun j => nI ((cu_to (num % 6) f) j))))] ++ pc_ws cI p pa ma rt gt nn kk ((sh_ (cu_ts (num / 6) 8 8).1 (cu_to (num % 6) f) P 8).2) (M)) := by
  refine gw_CV.of (cc := cX6_show) (maxL := 6) (zs_ok tt) (by decide) rfl (Nat.le_of_ble_eq_true rfl) ?_
  intro K C hkl hkn hkR hkD hmn ret
  have C : gw_x K cX6_show RX6 wsX6_show (mo_ty cI cB cS cJ cF cG) (zs tt) := C
  subst hkl hkD
  have zE := C.2.2.2.1.2.2.2.2.2.1
  have zP := C.2.2.2.1.2.2.2.2.2.2.1
  have g4 := cu_to_4 (num % 6) (by omega) f
  have z1 := cu_ts_lt (num / 6) 8 (by decide) 8
  refine gw_iload_n C 1 dX6_show_0 rfl rfl ?_
  refine gw_bipush C 6 dX6_show_1 (by decide) ?_
  refine gw_idiv C dX6_show_3 (by omega) (by omega) (by omega) ?_
  refine gw_bipush C 8 dX6_show_4 (by decide) ?_
  refine gw_allSI (n := 2) C (c_toSet (kl K) (kD K) _ tt _ (num / 6) 8 (by omega) (by decide) (by decide)) gX6_show_X4_toSet rfl (by decide +kernel) dX6_show_6 (by rw [hkR]; decide) (by rw [hkR]; decide) rfl (Nat.le_of_ble_eq_true rfl) rfl (fun rv v hv => ?_)
  subst hv
  obtain ⟨st, est⟩ : ∃ st, st = (cu_ts (num / 6) 8 8).1 := ⟨_, rfl⟩
  rw [← est] at z1
  rw [← est]
  refine gw_istore_n C (lv2 := [(3, iN (st)), (0, .ref (ft)), (1, iN (num)), (2, .ref (p))]) dX6_show_9 rfl (by omega) rfl ?_
  refine gw_iload_n C 2 dX6_show_10 rfl rfl ?_
  refine gw_bipush C 6 dX6_show_11 (by decide) ?_
  refine gw_irem C dX6_show_13 (by omega) (by omega) (by omega) ?_
  refine gw_aload_n C 1 dX6_show_14 rfl rfl ?_
  refine gw_get C 0 5 in_X6_show_X6 dX6_show_15 lk_X6_show_20 rfl rfl (by decide) rfl rfl ?_
  refine gw_callSV (b := 0) (n := 2) (wr := [(ft, .inr (4, [iN (ofc), iN (size), nx, .ref (ea), .ref (da), .ref (oa)])), (ea, .inl (cI, 8, .inl (fun j => nI (E j)))), (da, .inl (cI, 8, .inl (fun j => nI (O j)))), (p, .inr (5, [iN (nn), iN (kk), .ref (pa), .ref (ma), .ref (rt), .ref (gt)])), (pa, .inl (cI, nn, .inl (fun j => nI (P j)))), (ma, .inl (cI, nn, .inl (fun j => nI (M j))))]) C (c_toOrder (kl K) (kD K) cI cB cS cJ cF cG tt oa f (num % 6) (by omega)) gX6_show_X4_toOrder rfl (by decide +kernel) dX6_show_18 (by rw [hkR]; decide) (by rw [hkR]; decide) [3] [0, 1, 2, 4, 5, 6] rfl rfl rfl rfl (by decide) rfl (Nat.le_of_ble_eq_true rfl) rfl (fun v2 hv2 => ?_)
  refine gw_iconst C 0 dX6_show_21 (by decide) ?_
  refine gw_istore C (lv2 := [(4, iN (0)), (3, iN (st)), (0, .ref (ft)), (1, iN (num)), (2, .ref (p))]) dX6_show_22 (by omega) rfl ?_
  refine gw_iconst C 0 dX6_show_24 (by decide) ?_
  refine gw_istore C (lv2 := [(5, iN (0)), (4, iN (0)), (3, iN (st)), (0, .ref (ft)), (1, iN (num)), (2, .ref (p))]) dX6_show_25 (by omega) rfl ?_
  obtain ⟨g, eg⟩ : ∃ g, g = cu_to (num % 6) f := ⟨_, rfl⟩
  rw [← eg] at g4
  rw [← eg]
  refine gw_ws (ws2 := [(ft, .inr (4, [iN (ofc), iN (size), nx, .ref (ea), .ref (da), .ref (oa)])), (ea, .inl (cI, 8, .inl (fun j => nI (E j)))), (da, .inl (cI, 8, .inl (fun j => nI (O j)))), (p, .inr (5, [iN (nn), iN (kk), .ref (pa), .ref (ma), .ref (rt), .ref (gt)])), (pa, .inl (cI, nn, .inl (fun j => nI (((sh_ st g P 0).2) j)))), (ma, .inl (cI, nn, .inl (fun j => nI (M j)))), (oa, .inl (cI, 4, .inl (fun j => nI (g j))))]) rfl ?_
  refine gw_lv (lv2 := [(5, iN 0), (4, iN (sh_ st g P 0).1), (3, iN st), (0, .ref ft), (2, .ref p)]) [0, 1, 2, 3, 5] rfl ?_
  have lp : ∀ ni i : Nat, i + ni = 8 → gw_G K ([(ft, .inr (4, [iN (ofc), iN (size), nx, .ref (ea), .ref (da), .ref (oa)])), (ea, .inl (cI, 8, .inl (fun j => nI (E j)))), (da, .inl (cI, 8, .inl (fun j => nI (O j)))), (p, .inr (5, [iN (nn), iN (kk), .ref (pa), .ref (ma), .ref (rt), .ref (gt)])), (pa, .inl (cI, nn, .inl (fun j => nI (((sh_ st g P i).2) j)))), (ma, .inl (cI, nn, .inl (fun j => nI (M j)))), (oa, .inl (cI, 4, .inl (fun j => nI (g j))))]) 0 0 27 [(5, iN (i)), (4, iN ((sh_ st g P i).1)), (3, iN (st)), (0, .ref (ft)), (2, .ref (p))] [] := by
    intro ni
    induction ni with
    | zero =>
      intro i hii
      refine gw_iload C 0 dX6_show_27 rfl ?_
      refine gw_bipush C 8 dX6_show_29 (by decide) ?_
      refine gw_icmp_ge C 103 dX6_show_31 (by decide) (by omega) (by omega) (fun h80 => ?_) (fun h80 => ?_)
      ·
        rw [show i = 8 by omega]
        refine gw_perm (ws2 := [(ft, .inr (4, [iN (ofc), iN (size), nx, .ref (ea), .ref (da), .ref (oa)])), (ea, .inl (cI, 8, .inl (fun j => nI (E j)))), (da, .inl (cI, 8, .inl (fun j => nI (O j)))), (oa, .inl (cI, 4, .inl (fun j => nI (g j))))] ++ pc_ws cI p pa ma rt gt nn kk ((sh_ st g P 8).2) (M)) [0, 1, 2, 6, 3, 4, 5] rfl (by decide) trivial ?_
        exact ret () dX6_show_103 trivial (by rw [est, eg]) (Nat.le_refl 0) (Nat.le_refl 0)
      ·
        exact absurd h80 (by omega)
    | succ ni ihi =>
      intro i hii
      refine gw_iload C 0 dX6_show_27 rfl ?_
      refine gw_bipush C 8 dX6_show_29 (by decide) ?_
      refine gw_icmp_ge C 103 dX6_show_31 (by decide) (by omega) (by omega) (fun h81 => ?_) (fun h81 => ?_)
      ·
        exact absurd h81 (by omega)
      ·
        have b1 := sh_le st g P i
        have q1 := cu_ps_8 i (by omega)
        have q2 : st / 2 ^ i &&& 1 ≤ 1 := Nat.and_le_right
        have q3 := and3 (i - (sh_ st g P i).1)
        have q4 := g4 _ q3
        have q5 := and3 (sh_ st g P i).1
        obtain ⟨S, eS⟩ : ∃ S, S = sh_ st g P i := ⟨_, rfl⟩
        rw [← eS] at b1 q3 q4 q5
        rw [← eS]
        refine gw_iload_n C 2 dX6_show_34 rfl rfl ?_
        refine gw_iload C 0 dX6_show_35 rfl ?_
        refine gw_ishr C dX6_show_37 (by omega) (by omega) ?_
        refine gw_iconst C 1 dX6_show_38 (by decide) ?_
        refine gw_iand C dX6_show_39 ?_
        refine gw_if_eq C 68 dX6_show_40 (by decide) (by omega) (fun h82 => ?_) (fun h82 => ?_)
        ·
          refine gw_aload_n C 4 dX6_show_68 rfl rfl ?_
          refine gw_get C 3 2 in_X6_show_X7 dX6_show_69 lk_X6_show_23 rfl rfl (by decide) rfl rfl ?_
          refine gw_gets C zP.1 dX6_show_72 lk_X6_show_28 ?_
          refine gw_iload C 0 dX6_show_75 rfl ?_
          refine gw_tld C zP.2 dX6_show_77 (by decide) (by omega) rfl ?_
          refine gw_gets C zE.1 dX6_show_78 lk_X6_show_55 ?_
          refine gw_aload_n C 3 dX6_show_81 rfl rfl ?_
          refine gw_get C 0 5 in_X6_show_X6 dX6_show_82 lk_X6_show_20 rfl rfl (by decide) rfl rfl ?_
          refine gw_iload C 0 dX6_show_85 rfl ?_
          refine gw_iload C 1 dX6_show_87 rfl ?_
          refine gw_isub C dX6_show_89 (by omega) ?_
          refine gw_iconst C 3 dX6_show_90 (by decide) ?_
          refine gw_iand C dX6_show_91 ?_
          refine gw_ild C (v := nI (g (((i) - (S.1)) &&& (3)))) 6 0 dX6_show_92 rfl rfl (by first | decide | omega) (by omega) rfl ?_
          refine gw_tld C zE.2 dX6_show_93 (by decide) (by omega) rfl ?_
          refine gw_iconst C 1 dX6_show_94 (by decide) ?_
          refine gw_ixor C dX6_show_95 ?_
          refine gw_istN C (ws2 := [(ft, .inr (4, [iN (ofc), iN (size), nx, .ref (ea), .ref (da), .ref (oa)])), (ea, .inl (cI, 8, .inl (fun j => nI (E j)))), (da, .inl (cI, 8, .inl (fun j => nI (O j)))), (p, .inr (5, [iN (nn), iN (kk), .ref (pa), .ref (ma), .ref (rt), .ref (gt)])), (pa, .inl (cI, nn, .inl (fun j => nI ((up1 (S.2) (cu_ps (i)) ((cu_ev (g (((i) - (S.1)) &&& (3)))) ^^^ (1))) j)))), (ma, .inl (cI, nn, .inl (fun j => nI (M j)))), (oa, .inl (cI, 4, .inl (fun j => nI (g j))))]) 4 0 dX6_show_96 rfl rfl (by first | decide | omega) (by omega) rfl ?_
          refine gw_iinc C (v := nI (i + 1)) (lv2 := [(5, iN (i + 1)), (4, iN (S.1)), (3, iN (st)), (0, .ref (ft)), (2, .ref (p))]) 0 dX6_show_97 rfl (nI_add _ _) (by omega) rfl ?_
          refine gw_goto C 27 dX6_show_100 (by decide) ?_
          refine gw_lv (lv2 := [(5, iN (i + 1)), (4, iN (S.1)), (3, iN (st)), (0, .ref (ft)), (2, .ref (p))]) [0, 1, 2, 3, 4] rfl ?_
          have q := ihi (i + 1) (by omega)
          rw [sh_, if_pos (by assumption), ← eS] at q
          exact q
        ·
          refine gw_aload_n C 4 dX6_show_43 rfl rfl ?_
          refine gw_get C 3 2 in_X6_show_X7 dX6_show_44 lk_X6_show_23 rfl rfl (by decide) rfl rfl ?_
          refine gw_gets C zP.1 dX6_show_47 lk_X6_show_28 ?_
          refine gw_iload C 0 dX6_show_50 rfl ?_
          refine gw_tld C zP.2 dX6_show_52 (by decide) (by omega) rfl ?_
          refine gw_gets C zE.1 dX6_show_53 lk_X6_show_55 ?_
          refine gw_iload C 1 dX6_show_56 rfl ?_
          refine gw_iconst C 3 dX6_show_58 (by decide) ?_
          refine gw_iand C dX6_show_59 ?_
          refine gw_tld C zE.2 dX6_show_60 (by decide) (by omega) rfl ?_
          refine gw_istN C (ws2 := [(ft, .inr (4, [iN (ofc), iN (size), nx, .ref (ea), .ref (da), .ref (oa)])), (ea, .inl (cI, 8, .inl (fun j => nI (E j)))), (da, .inl (cI, 8, .inl (fun j => nI (O j)))), (p, .inr (5, [iN (nn), iN (kk), .ref (pa), .ref (ma), .ref (rt), .ref (gt)])), (pa, .inl (cI, nn, .inl (fun j => nI ((up1 (S.2) (cu_ps (i)) (cu_ev ((S.1) &&& (3)))) j)))), (ma, .inl (cI, nn, .inl (fun j => nI (M j)))), (oa, .inl (cI, 4, .inl (fun j => nI (g j))))]) 4 0 dX6_show_61 rfl rfl (by first | decide | omega) (by omega) rfl ?_
          refine gw_iinc C (v := nI (S.1 + 1)) (lv2 := [(4, iN (S.1 + 1)), (5, iN (i)), (3, iN (st)), (0, .ref (ft)), (2, .ref (p))]) 1 dX6_show_62 rfl (nI_add _ _) (by omega) rfl ?_
          refine gw_goto C 97 dX6_show_65 (by decide) ?_
          refine gw_iinc C (v := nI (i + 1)) (lv2 := [(5, iN (i + 1)), (4, iN (S.1 + 1)), (3, iN (st)), (0, .ref (ft)), (2, .ref (p))]) 1 dX6_show_97 rfl (nI_add _ _) (by omega) rfl ?_
          refine gw_goto C 27 dX6_show_100 (by decide) ?_
          refine gw_lv (lv2 := [(5, iN (i + 1)), (4, iN (S.1 + 1)), (3, iN (st)), (0, .ref (ft)), (2, .ref (p))]) [0, 1, 2, 3, 4] rfl ?_
          have q := ihi (i + 1) (by omega)
          rw [sh_, if_neg (by assumption), ← eS] at q
          exact q
  refine gw_lv (lv2 := [(5, iN (0)), (4, iN ((sh_ st g P 0).1)), (3, iN (st)), (0, .ref (ft)), (2, .ref (p))]) [0, 1, 2, 3, 4] rfl ?_
  exact lp (8 - 0) 0 (by omega)
