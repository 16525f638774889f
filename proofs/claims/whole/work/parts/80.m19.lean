def wk_P2 (st : Nat) (fv : (Nat → Nat → Nat) → Nat) (fw : (Nat → Nat → Nat) → Nat → Nat → Nat) (P : (Nat → Nat → Nat) → Prop) : Prop :=
  (∀ M, P M → P (fw M)) ∧ (∀ M t, P M → t < 18 → mo_may st t ≠ 0 → P (mo_turn t M)) ∧ (∀ M i v, P M → P (mo_up M 16 i v) ∧ P (mo_up M 17 i v) ∧ P (mo_up M 18 i v)) ∧ (∀ M, P M → (∀ j, j < 8 → M 5 j < 3) ∧ (∀ j, j < 144 → M 10 j < 8) ∧ (∀ j, j < 144 → M 11 j < 3) ∧ (∀ j, j < 216 → M 12 j < 12)) ∧ (∀ M, P M → fv M ≤ 100) ∧ ∀ M, fw M 16 = M 16
theorem may_inv {st t : Nat} (h : mo_may st t ≠ 0) : mo_may st (t - t % 3 + 2 - t % 3) ≠ 0 := by
  have e1 : (t - t % 3 + 2 - t % 3) / 3 = t / 3 := by omega
  have e2 : (t - t % 3 + 2 - t % 3) % 3 = 1 ↔ t % 3 = 1 := by omega
  unfold mo_may at h ⊢
  rw [e1]
  by_cases c : st = 0 ∨ t % 3 = 1 ∨ (st = 1 ∧ t / 3 < 4) ∨ (st = 2 ∧ t / 3 < 2)
  · rw [if_pos (by rw [e2]; exact c)]; decide
  · rw [if_neg c] at h; exact absurd rfl h
theorem wk_W_P2 {st : Nat} {fv : (Nat → Nat → Nat) → Nat} {fw : (Nat → Nat → Nat) → Nat → Nat → Nat} {P : (Nat → Nat → Nat) → Prop} (h : wk_P2 st fv fw P) {N : Nat → Nat → Nat} (hN : P N) : ∀ t, t ≤ 18 → P (wk_W st fw N t) := by
  intro t
  induction t with
  | zero => intro _; exact hN
  | succ t ih =>
    intro ht
    rw [wk_W]
    split
    · exact ih (by omega)
    · next hm => exact h.2.1 _ _ (h.1 _ (h.2.1 _ _ (ih (by omega)) (by omega) hm)) (by omega) (may_inv hm)
theorem wk_W_162 {st : Nat} {fv : (Nat → Nat → Nat) → Nat} {fw : (Nat → Nat → Nat) → Nat → Nat → Nat} {P : (Nat → Nat → Nat) → Prop} (h : wk_P2 st fv fw P) (N : Nat → Nat → Nat) : ∀ t, wk_W st fw N t 16 = N 16 := by
  intro t
  induction t with
  | zero => rfl
  | succ t ih =>
    rw [wk_W]
    split
    · exact ih
    · rw [mo_turn_k (by decide) (by decide) (by decide) (by decide) (by decide) (by decide), h.2.2.2.2.2, mo_turn_k (by decide) (by decide) (by decide) (by decide) (by decide) (by decide), ih]
theorem wk_M_162 {st : Nat} {fv : (Nat → Nat → Nat) → Nat} {fw : (Nat → Nat → Nat) → Nat → Nat → Nat} {P : (Nat → Nat → Nat) → Prop} (h : wk_P2 st fv fw P) (d : Nat) (N : Nat → Nat → Nat) : wk_M st fv fw d N 16 = N 16 := by
  rw [wk_M, h.2.2.2.2.2, mo_turn_k (by decide) (by decide) (by decide) (by decide) (by decide) (by decide), wk_W_162 h]
set_option maxHeartbeats 4000000 in
set_option maxRecDepth 100000 in
theorem c_walk2 (l : Launch) (D : va_G) (cI cB cS cJ cF cG : ClassId) (zz : (Nat → Prop) → State → Heap → Prop) (hz : gw_zT zz) (o : Nat) (ad : Nat → Nat) (N : Nat → Nat → Nat) (st : Nat) (hst : st < 4) (fv : (Nat → Nat → Nat) → Nat) (fw : (Nat → Nat → Nat) → Nat → Nat → Nat) (P : (Nat → Nat → Nat) → Prop) (hP : wk_P2 st fv fw P) (hfar : ∀ M, P M → gw_CI l yX11_far wsX11_far 1 25 0 0 D (mo_ty cI cB cS cJ cF cG) zz (mo_ws o ad cI cB cS M) [.ref o, iN st] (fun r N' => r = nI (fv M) ∧ N' = fw M) (fun N' => mo_ws o ad cI cB cS N')) (hN : P N) (hs : N 16 0 + fv N ≤ 100) (hH : wk_H st fv fw (fv N) (mo_up (fw N) 18 st (fv N))) : gw_CV l yX11_walk wsX11_walk 2 50 0 0 D (mo_ty cI cB cS cJ cF cG) zz (mo_ws o ad cI cB cS N) [.ref o, iN st] (fun N' => N' = wk_R st fv fw N) (fun N' => mo_ws o ad cI cB cS N') := by
  refine gw_CV.of (cc := cX11_walk) (maxL := 5) hz (by decide) rfl (Nat.le_of_ble_eq_true rfl) ?_
  intro K C hkl hkn hkR hkD hmn ret
  have C : gw_x K cX11_walk RX11 wsX11_walk (mo_ty cI cB cS cJ cF cG) zz := C
  subst hkl hkD
  refine gw_aload_n C 0 dX11_walk_0 rfl rfl ?_
  refine gw_iload_n C 1 dX11_walk_1 rfl rfl ?_
  refine gw_allVI (n := 1) C (hfar N hN) 0 rfl rfl rfl gX11_walk_X11_far rfl (by decide +kernel) dX11_walk_2 (by rw [hkR]; decide) (by rw [hkR]; decide) rfl (Nat.le_of_ble_eq_true rfl) rfl (fun rv1 v1 hv1 => ?_)
  obtain ⟨rfl, rfl⟩ := hv1
  have fb := hP.2.2.2.2.1 N hN
  refine gw_istore_n C (lv2 := [(2, iN (fv N)), (0, .ref (o)), (1, iN (st))]) dX11_walk_5 rfl (by omega) rfl ?_
  refine gw_aload_n C 1 dX11_walk_6 rfl rfl ?_
  refine gw_get C 0 18 in_X11_walk dX11_walk_7 lk_X11_walk_55 rfl rfl (by decide) rfl rfl ?_
  refine gw_iload_n C 2 dX11_walk_10 rfl rfl ?_
  refine gw_iload_n C 0 dX11_walk_11 rfl rfl ?_
  refine gw_ist C 16 0 dX11_walk_12 rfl rfl (by decide) (by omega) mo_st18 ?_
  have lpd : ∀ (d : Nat) (M : Nat → Nat → Nat), d ≤ 100 → P M → M 16 0 + d ≤ 100 → wk_H st fv fw d M → wk_D st fv fw d M = wk_R st fv fw N → gw_G K (mo_ws o ad cI cB cS M) 0 0 13 [(2, iN d), (0, .ref o), (1, iN st)] [] := by
    intro d
    induction d with
    | zero =>
      intro M hd hM hsM hHM hR
      refine gw_iload_n C 0 dX11_walk_13 rfl rfl ?_
      refine gw_if_le C 112 dX11_walk_14 (by decide) (by omega) (fun h55 => ?_) (fun h55 => ?_)
      ·
        exact ret _ dX11_walk_112 rfl (by rw [← hR]; rfl) (Nat.le_refl 0) (Nat.le_refl 0)
      ·
        exact absurd h55 (by omega)
    | succ d ihd =>
      intro M hd hM hsM hHM hR
      obtain ⟨hT, hH2⟩ := hHM
      rw [wk_D] at hR
      have sp := wk_F_spec (wk_q st fv fw (d + 1) M) 18 0
      rw [show wk_F (wk_q st fv fw (d + 1) M) 18 0 = wk_T st fv fw (d + 1) M from rfl] at sp
      have spq := sp.2.2 (by omega)
      have m16 := wk_M_162 hP (d + 1) M
      have eS : wk_S st fv fw (d + 1) M = mo_up (mo_up (wk_M st fv fw (d + 1) M) 17 (wk_M st fv fw (d + 1) M 16 0) (wk_T st fv fw (d + 1) M)) 16 0 (wk_M st fv fw (d + 1) M 16 0 + 1) := rfl
      have eM : wk_M st fv fw (d + 1) M = fw (mo_turn (wk_T st fv fw (d + 1) M) (wk_W st fw M (wk_T st fv fw (d + 1) M))) := rfl
      have PM : P (wk_M st fv fw (d + 1) M) := by rw [eM]; exact hP.1 _ (hP.2.1 _ _ (wk_W_P2 hP hM _ (by omega)) hT (by simp only [wk_q, Bool.and_eq_true, decide_eq_true_eq] at spq; exact spq.1))
      obtain ⟨T, eT⟩ : ∃ T, T = wk_T st fv fw (d + 1) M := ⟨_, rfl⟩
      rw [← eT] at hT sp spq eS eM
      obtain ⟨Z, eZ⟩ : ∃ Z, Z = wk_M st fv fw (d + 1) M := ⟨_, rfl⟩
      rw [← eZ] at m16 eS eM PM
      refine gw_iload_n C 0 dX11_walk_13 rfl rfl ?_
      refine gw_if_le C 112 dX11_walk_14 (by decide) (by omega) (fun h56 => ?_) (fun h56 => ?_)
      ·
        exact absurd h56 (by omega)
      ·
        refine gw_iconst C 0 dX11_walk_17 (by decide) ?_
        refine gw_istore_n C (lv2 := [(3, iN (0)), (2, iN (d + 1)), (0, .ref (o)), (1, iN (st))]) dX11_walk_18 rfl (by omega) rfl ?_
        refine gw_iconst C 0 dX11_walk_19 (by decide) ?_
        refine gw_istore C (lv2 := [(4, iN (0)), (3, iN (0)), (2, iN (d + 1)), (0, .ref (o)), (1, iN (st))]) dX11_walk_20 (by omega) rfl ?_
        have lpt : ∀ nt t : Nat, t + nt = T → gw_G K (mo_ws o ad cI cB cS (wk_W st fw M t)) 0 0 22 [(4, iN 0), (3, iN t), (2, iN (d + 1)), (0, .ref o), (1, iN st)] [] := by
          intro nt
          induction nt with
          | zero =>
            intro t ht
            refine gw_iload C 0 dX11_walk_22 rfl ?_
            refine gw_if_ne C 84 dX11_walk_24 (by decide) (by omega) (fun h57 => ?_) (fun h57 => ?_)
            ·
              exact absurd rfl h57
            ·
              refine gw_iload_n C 4 dX11_walk_27 rfl rfl ?_
              refine gw_iload_n C 1 dX11_walk_28 rfl rfl ?_
              refine gw_allSI (n := 2) C (c_may (kl K) (kD K) _ zz hz _ st t hst (by omega)) gX11_walk_X11_may rfl (by decide +kernel) dX11_walk_29 (by rw [hkR]; decide) (by rw [hkR]; decide) rfl (Nat.le_of_ble_eq_true rfl) rfl (fun rv2 v2 hv2 => ?_)
              subst hv2
              have m2 := mo_may_2 st t
              have PW := wk_W_P2 hP hM t (by omega)
              refine gw_if_eq C 78 dX11_walk_32 (by decide) (by omega) (fun h58 => ?_) (fun h58 => ?_)
              ·
                exact absurd h58 (by simp only [wk_q, Bool.and_eq_true, decide_eq_true_eq] at spq; rw [show t = T by omega]; exact spq.1)
              ·
                obtain ⟨p5, p10, p11, p12⟩ := hP.2.2.2.1 _ PW
                obtain ⟨Y, eY⟩ : ∃ Y, Y = wk_W st fw M t := ⟨_, rfl⟩
                rw [← eY] at PW p5 p10 p11 p12
                rw [← eY]
                refine gw_aload_n C 3 dX11_walk_35 rfl rfl ?_
                refine gw_iload_n C 1 dX11_walk_36 rfl rfl ?_
                refine gw_allVV (n := 1) C (c_turnIt (kl K) (kD K) cI cB cS cJ cF cG zz hz o ad Y t (by omega) p5 p10 p11 p12) 0 rfl rfl rfl gX11_walk_X11_turnIt rfl (by decide +kernel) dX11_walk_37 (by rw [hkR]; decide) (by rw [hkR]; decide) rfl (Nat.le_of_ble_eq_true rfl) rfl (fun v3 hv3 => ?_)
                subst hv3
                have PT := hP.2.1 Y t PW (by omega) h58
                refine gw_aload_n C 3 dX11_walk_40 rfl rfl ?_
                refine gw_iload_n C 4 dX11_walk_41 rfl rfl ?_
                refine gw_allVI (n := 1) C (hfar _ PT) 0 rfl rfl rfl gX11_walk_X11_far rfl (by decide +kernel) dX11_walk_42 (by rw [hkR]; decide) (by rw [hkR]; decide) rfl (Nat.le_of_ble_eq_true rfl) rfl (fun rv4 v4 hv4 => ?_)
                obtain ⟨rfl, rfl⟩ := hv4
                have fb2 := hP.2.2.2.2.1 _ PT
                refine gw_iload_n C 2 dX11_walk_45 rfl rfl ?_
                refine gw_iconst C 1 dX11_walk_46 (by decide) ?_
                refine gw_isub C dX11_walk_47 (by omega) ?_
                refine gw_icmp_ne C 55 dX11_walk_48 (by decide) (by omega) (by omega) (fun h59 => ?_) (fun h59 => ?_)
                ·
                  exact absurd (by simp only [wk_q, Bool.and_eq_true, decide_eq_true_eq] at spq; rw [eY, show t = T by omega]; exact spq.2) h59
                ·
                  refine gw_iconst C 1 dX11_walk_51 (by decide) ?_
                  refine gw_goto C 56 dX11_walk_52 (by decide) ?_
                  refine gw_istore C (lv2 := [(4, iN (1)), (3, iN (t)), (2, iN (d + 1)), (0, .ref (o)), (1, iN (st))]) dX11_walk_56 (by omega) rfl ?_
                  refine gw_iload C 0 dX11_walk_58 rfl ?_
                  refine gw_if_ne C 78 dX11_walk_60 (by decide) (by omega) (fun h60 => ?_) (fun h60 => ?_)
                  ·
                    rw [show fw (mo_turn t Y) = Z by rw [eM, eY, show t = T by omega]]
                    refine gw_iinc C (v := nI (t + 1)) (lv2 := [(3, iN (t + 1)), (4, iN (1)), (2, iN (d + 1)), (0, .ref (o)), (1, iN (st))]) 1 dX11_walk_78 rfl (nI_add _ _) (by omega) rfl ?_
                    refine gw_goto C 22 dX11_walk_81 (by decide) ?_
                    refine gw_iload C 1 dX11_walk_22 rfl ?_
                    refine gw_if_ne C 84 dX11_walk_24 (by decide) (by omega) (fun h61 => ?_) (fun h61 => ?_)
                    ·
                      have z16 : Z 16 0 < 100 := by rw [m16]; omega
                      refine gw_aload_n C 3 dX11_walk_84 rfl rfl ?_
                      refine gw_get C 0 17 in_X11_walk dX11_walk_85 lk_X11_walk_52 rfl rfl (by decide) rfl rfl ?_
                      refine gw_aload_n C 3 dX11_walk_88 rfl rfl ?_
                      refine gw_get (v := iN (Z 16 (0))) C 0 16 in_X11_walk dX11_walk_89 lk_X11_walk_196 rfl rfl (by decide) rfl (by first | rfl | simp [mo_up]) ?_
                      refine gw_iload_n C 0 dX11_walk_92 rfl rfl ?_
                      refine gw_iconst C 1 dX11_walk_93 (by decide) ?_
                      refine gw_isub C dX11_walk_94 (by omega) ?_
                      refine gw_ist C 15 0 dX11_walk_95 rfl rfl (by decide) (by omega) mo_st17 ?_
                      refine gw_aload_n C 3 dX11_walk_96 rfl rfl ?_
                      refine gw_dup C dX11_walk_97 rfl ?_
                      refine gw_get (v := iN (Z 16 (0))) C 0 16 in_X11_walk dX11_walk_98 lk_X11_walk_196 rfl rfl (by decide) rfl (by first | rfl | simp [mo_up]) ?_
                      refine gw_iconst C 1 dX11_walk_101 (by decide) ?_
                      refine gw_iadd C dX11_walk_102 ?_
                      refine gw_put C (ty := .int) 0 16 tyX11 tyX11_ok nmX11 in_X11_walk dX11_walk_103 lk_X11_walk_196 rfl rfl (by decide) rfl rfl (by decide +kernel) rfl rfl (Nat.le_of_ble_eq_true rfl) mo_st16 ?_
                      refine gw_iinc C (v := nI (d + 1 - 1)) (lv2 := [(2, iN (d + 1 - 1)), (3, iN (t + 1)), (4, iN (1)), (0, .ref (o)), (1, iN (st))]) 2 dX11_walk_106 rfl (gw_dec1 (by omega)) (by omega) rfl ?_
                      refine gw_goto C 13 dX11_walk_109 (by decide) ?_
                      refine gw_lv (lv2 := [(2, iN (d + 1 - 1)), (0, .ref (o)), (1, iN (st))]) [0, 3, 4] rfl ?_
                      have q := ihd (wk_S st fv fw (d + 1) M) (by omega) (by rw [eS]; exact (hP.2.2.1 _ _ _ ((hP.2.2.1 _ _ _ PM).2.1)).1) (by rw [eS]; simp only [mo_up, if_true]; rw [m16]; omega) hH2 hR
                      rw [eS] at q
                      rw [show t + 1 - 1 = T by omega, show d + 1 - 1 = d by omega]
                      exact q
                    ·
                      exact absurd h61 (by decide)
                  ·
                    exact absurd h60 (by decide)
          | succ nt iht =>
            intro t ht
            refine gw_iload C 0 dX11_walk_22 rfl ?_
            refine gw_if_ne C 84 dX11_walk_24 (by decide) (by omega) (fun h62 => ?_) (fun h62 => ?_)
            ·
              exact absurd rfl h62
            ·
              refine gw_iload_n C 4 dX11_walk_27 rfl rfl ?_
              refine gw_iload_n C 1 dX11_walk_28 rfl rfl ?_
              refine gw_allSI (n := 2) C (c_may (kl K) (kD K) _ zz hz _ st t hst (by omega)) gX11_walk_X11_may rfl (by decide +kernel) dX11_walk_29 (by rw [hkR]; decide) (by rw [hkR]; decide) rfl (Nat.le_of_ble_eq_true rfl) rfl (fun rv2 v2 hv2 => ?_)
              subst hv2
              have m2 := mo_may_2 st t
              have PW := wk_W_P2 hP hM t (by omega)
              refine gw_if_eq C 78 dX11_walk_32 (by decide) (by omega) (fun h63 => ?_) (fun h63 => ?_)
              ·
                refine gw_iinc C (v := nI (t + 1)) (lv2 := [(3, iN (t + 1)), (4, iN (0)), (2, iN (d + 1)), (0, .ref (o)), (1, iN (st))]) 1 dX11_walk_78 rfl (nI_add _ _) (by omega) rfl ?_
                refine gw_goto C 22 dX11_walk_81 (by decide) ?_
                refine gw_lv (lv2 := [(4, iN (0)), (3, iN (t + 1)), (2, iN (d + 1)), (0, .ref (o)), (1, iN (st))]) [1, 0, 2, 3, 4] rfl ?_
                have q := iht (t + 1) (by omega)
                rw [wk_W, if_pos h63] at q
                exact q
              ·
                obtain ⟨p5, p10, p11, p12⟩ := hP.2.2.2.1 _ PW
                obtain ⟨Y, eY⟩ : ∃ Y, Y = wk_W st fw M t := ⟨_, rfl⟩
                rw [← eY] at PW p5 p10 p11 p12
                rw [← eY]
                refine gw_aload_n C 3 dX11_walk_35 rfl rfl ?_
                refine gw_iload_n C 1 dX11_walk_36 rfl rfl ?_
                refine gw_allVV (n := 1) C (c_turnIt (kl K) (kD K) cI cB cS cJ cF cG zz hz o ad Y t (by omega) p5 p10 p11 p12) 0 rfl rfl rfl gX11_walk_X11_turnIt rfl (by decide +kernel) dX11_walk_37 (by rw [hkR]; decide) (by rw [hkR]; decide) rfl (Nat.le_of_ble_eq_true rfl) rfl (fun v3 hv3 => ?_)
                subst hv3
                have PT := hP.2.1 Y t PW (by omega) h63
                refine gw_aload_n C 3 dX11_walk_40 rfl rfl ?_
                refine gw_iload_n C 4 dX11_walk_41 rfl rfl ?_
                refine gw_allVI (n := 1) C (hfar _ PT) 0 rfl rfl rfl gX11_walk_X11_far rfl (by decide +kernel) dX11_walk_42 (by rw [hkR]; decide) (by rw [hkR]; decide) rfl (Nat.le_of_ble_eq_true rfl) rfl (fun rv4 v4 hv4 => ?_)
                obtain ⟨rfl, rfl⟩ := hv4
                have fb2 := hP.2.2.2.2.1 _ PT
                refine gw_iload_n C 2 dX11_walk_45 rfl rfl ?_
                refine gw_iconst C 1 dX11_walk_46 (by decide) ?_
                refine gw_isub C dX11_walk_47 (by omega) ?_
                refine gw_icmp_ne C 55 dX11_walk_48 (by decide) (by omega) (by omega) (fun h64 => ?_) (fun h64 => ?_)
                ·
                  refine gw_iconst C 0 dX11_walk_55 (by decide) ?_
                  refine gw_istore C (lv2 := [(4, iN (0)), (3, iN (t)), (2, iN (d + 1)), (0, .ref (o)), (1, iN (st))]) dX11_walk_56 (by omega) rfl ?_
                  refine gw_iload C 0 dX11_walk_58 rfl ?_
                  refine gw_if_ne C 78 dX11_walk_60 (by decide) (by omega) (fun h65 => ?_) (fun h65 => ?_)
                  ·
                    exact absurd rfl h65
                  ·
                    have PF := hP.1 _ PT
                    obtain ⟨r5, r10, r11, r12⟩ := hP.2.2.2.1 _ PF
                    refine gw_aload_n C 3 dX11_walk_63 rfl rfl ?_
                    refine gw_iload_n C 1 dX11_walk_64 rfl rfl ?_
                    refine gw_iload_n C 1 dX11_walk_65 rfl rfl ?_
                    refine gw_iconst C 3 dX11_walk_66 (by decide) ?_
                    refine gw_irem C dX11_walk_67 (by omega) (by omega) (by omega) ?_
                    refine gw_isub C dX11_walk_68 (by omega) ?_
                    refine gw_iconst C 2 dX11_walk_69 (by decide) ?_
                    refine gw_iadd C dX11_walk_70 ?_
                    refine gw_iload_n C 1 dX11_walk_71 rfl rfl ?_
                    refine gw_iconst C 3 dX11_walk_72 (by decide) ?_
                    refine gw_irem C dX11_walk_73 (by omega) (by omega) (by omega) ?_
                    refine gw_isub C dX11_walk_74 (by omega) ?_
                    refine gw_allVV (n := 1) C (c_turnIt (kl K) (kD K) cI cB cS cJ cF cG zz hz o ad (fw (mo_turn t Y)) (t - t % 3 + 2 - t % 3) (by omega) r5 r10 r11 r12) 0 rfl rfl rfl gX11_walk_X11_turnIt rfl (by decide +kernel) dX11_walk_75 (by rw [hkR]; decide) (by rw [hkR]; decide) rfl (Nat.le_of_ble_eq_true rfl) rfl (fun v5 hv5 => ?_)
                    subst hv5
                    refine gw_iinc C (v := nI (t + 1)) (lv2 := [(3, iN (t + 1)), (4, iN (0)), (2, iN (d + 1)), (0, .ref (o)), (1, iN (st))]) 1 dX11_walk_78 rfl (nI_add _ _) (by omega) rfl ?_
                    refine gw_goto C 22 dX11_walk_81 (by decide) ?_
                    refine gw_lv (lv2 := [(4, iN (0)), (3, iN (t + 1)), (2, iN (d + 1)), (0, .ref (o)), (1, iN (st))]) [1, 0, 2, 3, 4] rfl ?_
                    have q := iht (t + 1) (by omega)
                    rw [wk_W, if_neg h63, ← eY] at q
                    exact q
                ·
                  exact absurd h64 (by have z := sp.2.1 t (by omega) (by omega); simp only [wk_q, Bool.and_eq_false_iff, decide_eq_false_iff_not] at z; rw [eY]; rcases z with z | z; exact absurd h63 z; exact z)
        refine gw_lv (lv2 := [(4, iN (0)), (3, iN (0)), (2, iN (d + 1)), (0, .ref (o)), (1, iN (st))]) [0, 1, 2, 3, 4] rfl ?_
        exact lpt T 0 (by omega)
  have z16 : (mo_up (fw N) 18 st (fv N)) 16 0 = N 16 0 := by
    show fw N 16 0 = N 16 0
    rw [hP.2.2.2.2.2]
  refine gw_lv (lv2 := [(2, iN (fv N)), (0, .ref (o)), (1, iN (st))]) [0, 1, 2] rfl ?_
  exact lpd (fv N) (mo_up (fw N) 18 st (fv N)) fb (hP.2.2.1 _ _ _ (hP.1 _ hN)).2.2 (by omega) hH rfl
