theorem in_X9_dive_X9 : ∀ w ∈ wsX90, w ∈ wsX9_dive := fun _ h => List.mem_cons_of_mem _ (List.mem_append_left _ (List.mem_append_left _ (List.mem_append_left _ (List.mem_append_left _ (List.mem_append_left _ (List.mem_append_right _ (h)))))))
theorem in_X9_spreadFromGoal_X9 : ∀ w ∈ wsX90, w ∈ wsX9_spreadFromGoal := fun _ h => List.mem_cons_of_mem _ (List.mem_append_left _ (List.mem_append_left _ (List.mem_append_left _ (List.mem_append_left _ (List.mem_append_left _ (List.mem_append_right _ (h)))))))
theorem lk_X9_dive_29 : Cond.fieldLink RX9 29 "StageCube$Stage" "way" "[I" ∈ wsX9_dive := by decide +kernel
theorem lk_X9_spreadFromGoal_18 : Cond.fieldLink RX9 18 "StageCube$Stage" "queueLength" "I" ∈ wsX9_spreadFromGoal := by decide +kernel
def sf_ (nx : Nat → Nat → Nat) (sz : Nat → Nat) (nf fwq rch ql : Nat) : Nat → sp_T
  | 0 => (up1 (fun _ => 0) 0 1, fun _ => 0, 1)
  | i + 1 => spO nx sz nf ((sf_ nx sz nf fwq rch ql i).1 ((sf_ nx sz nf fwq rch ql i).2.1 i)) fwq rch ql (dg_ sz nf ((sf_ nx sz nf fwq rch ql i).2.1 i)) (sf_ nx sz nf fwq rch ql i) 6
set_option maxHeartbeats 4000000 in
set_option maxRecDepth 100000 in
theorem c_sfg (l : Launch) (D : va_G) (cI cB cS cJ cF cG : ClassId) (tt : Nat → Nat) (sa : Nat → Nat) (nf fwq rch ql NL : Nat) (sz : Nat → Nat) (nx : Nat → Nat → Nat) (F : va_W) (Wy : Nat → Nat) (hSt : ∀ (qa : Nat) (Nm g Q : Nat → Nat) (d : Nat), d ≤ 15 → gw_CI (S := Unit) l yX9_stateAt wsX9_stateAt 0 0 0 0 D (mo_ty cI cB cS cJ cF cG) (zs tt) (sg_ws cI cF sa nf fwq rch ql (.ref (sa 4)) (Wy) (Nm) ((sa 4, .inl (cJ, NL, .inr (.inl (fun j => lN (wd (g) j))))) :: (qa, .inl (cI, ql, .inl (fun j => nI ((Q) j)))) :: F)) [.ref (sa 0), iN d] (fun r _ => r = nI (sa_ sz Nm (d * nf) nf)) (fun _ => sg_ws cI cF sa nf fwq rch ql (.ref (sa 4)) (Wy) (Nm) ((sa 4, .inl (cJ, NL, .inr (.inl (fun j => lN (wd (g) j))))) :: (qa, .inl (cI, ql, .inl (fun j => nI ((Q) j)))) :: F))) (hAd : ∀ (qa : Nat) (Nm g Q : Nat → Nat) (d fc : Nat), d ≤ 15 → fc < 6 → (∀ i, i < nf → Nm (d * nf + i) < sz i) → gw_CV (S := Unit) l yX9_advance wsX9_advance 0 0 0 0 D (mo_ty cI cB cS cJ cF cG) (zs tt) (sg_ws cI cF sa nf fwq rch ql (.ref (sa 4)) (Wy) (Nm) ((sa 4, .inl (cJ, NL, .inr (.inl (fun j => lN (wd (g) j))))) :: (qa, .inl (cI, ql, .inl (fun j => nI ((Q) j)))) :: F)) [.ref (sa 0), iN d, iN fc] (fun _ => True) (fun _ => sg_ws cI cF sa nf fwq rch ql (.ref (sa 4)) (Wy) (ad_ nx (d * nf) fc Nm nf) ((sa 4, .inl (cJ, NL, .inr (.inl (fun j => lN (wd (g) j))))) :: (qa, .inl (cI, ql, .inl (fun j => nI ((Q) j)))) :: F))) (hSh : ∀ (qa : Nat) (Nm g Q : Nat → Nat) (s : Nat), s < 2 ^ 31 → gw_CV (S := Unit) l yX9_showState wsX9_showState 0 0 0 0 D (mo_ty cI cB cS cJ cF cG) (zs tt) (sg_ws cI cF sa nf fwq rch ql (.ref (sa 4)) (Wy) (Nm) ((sa 4, .inl (cJ, NL, .inr (.inl (fun j => lN (wd (g) j))))) :: (qa, .inl (cI, ql, .inl (fun j => nI ((Q) j)))) :: F)) [.ref (sa 0), iN s] (fun _ => True) (fun _ => sg_ws cI cF sa nf fwq rch ql (.ref (sa 4)) (Wy) (ss_N sz nf s Nm nf) ((sa 4, .inl (cJ, NL, .inr (.inl (fun j => lN (wd (g) j))))) :: (qa, .inl (cI, ql, .inl (fun j => nI ((Q) j)))) :: F))) (hnf : nf ≤ 4) (hq6 : fwq ≤ 6) (hrch : rch < 14) (hql : ql ≤ 100000) (hNL : NL ≤ 100000) (hz : ∀ i, i < nf → 0 < sz i) (hx : ∀ fc, fc < 6 → ∀ i, i < nf → ∀ v, v < sz i → nx i (6 * v + fc) < sz i) (hsv : ∀ y : Nat → Nat, (∀ i, i < nf → y i < sz i) → sv_ sz y nf < 2 ^ 4 * NL) (Nm : Nat → Nat) (E : Nat) (hNL1 : 1 ≤ NL) (hql1 : 1 ≤ ql) (hE0 : ∀ i, i < E → i < (sf_ nx sz nf fwq rch ql i).2.2 ∧ i < ql) (hE1 : (sf_ nx sz nf fwq rch ql E).2.2 ≤ E ∨ ql ≤ E) (hEq : E ≤ ql) (hV : ∀ i, i ≤ E → sp_ok ql (sf_ nx sz nf fwq rch ql i)) (hV2 : ∀ i, i < E → (sf_ nx sz nf fwq rch ql i).2.1 i < 2 ^ 4 * NL ∧ (sf_ nx sz nf fwq rch ql i).1 ((sf_ nx sz nf fwq rch ql i).2.1 i) < 15) : gw_CV (S := Nat → Nat) l yX9_spreadFromGoal wsX9_spreadFromGoal 3 77 1 ql D (mo_ty cI cB cS cJ cF cG) (zs tt) (sg_ws cI cF sa nf fwq rch ql (.ref (sa 4)) (Wy) (Nm) ((sa 4, .inl (cJ, NL, .inr (.inl (fun j => lN (wd (fun _ => 0) j))))) :: F)) [.ref (sa 0)] (fun _ => True) (fun u => sg_ws cI cF sa nf fwq rch ql (.ref (sa 4)) (Wy) (u) ((sa 4, .inl (cJ, NL, .inr (.inl (fun j => lN (wd ((sf_ nx sz nf fwq rch ql E).1) j))))) :: F)) := by
  refine gw_CV.of (cc := cX9_spreadFromGoal) (maxL := 4) (zs_ok tt) (by decide) rfl (Nat.le_of_ble_eq_true rfl) ?_
  intro K C hkl hkn hkR hkD hmn ret
  have C : gw_x K cX9_spreadFromGoal RX9 wsX9_spreadFromGoal (mo_ty cI cB cS cJ cF cG) (zs tt) := C
  subst hkl hkD
  have hrc : (kR K).cells = 1 := by rw [hkR]
  have hrs : (kR K).slots = ql := by rw [hkR]
  refine gw_aload_n C 0 dX9_spreadFromGoal_0 rfl rfl ?_
  refine gw_get C 0 3 in_X9_spreadFromGoal_X9 dX9_spreadFromGoal_1 lk_X9_spreadFromGoal_18 rfl rfl (by decide) rfl rfl ?_
  refine gw_newa C 0 dX9_spreadFromGoal_4 rfl (by decide +kernel) rfl (fun _ _ h => h) (a0 := (ql, .inl (fun _ => 0))) (fun _ => rfl) (by omega) (by show ql * 4 ≤ _; omega) (by omega) (by omega) (fun qa => ?_)
  refine gw_permL (ws2 := [(sa 0, .inr (7, [.ref (sa 1), iN (fwq), iN (rch), iN (ql), .ref (sa 2), .ref (sa 3), .ref (sa 4)])), (sa 1, .inl (cI, 15, .inl (fun j => nI (Wy j)))), (sa 2, .inl (cF, nf, .inr (.inr (.inr (.inr (fq_ sa nf)))))), (sa 3, .inl (cI, 16 * nf, .inl (fun j => nI (Nm j)))), (sa 4, .inl (cJ, NL, .inr (.inl (fun j => lN ((wd (fun _ => 0)) j))))), (qa, .inl (cI, ql, .inl (fun j => nI ((fun _ => 0) j))))] ++ F) (l := []) (by rw [List.append_nil]; exact List.Perm.append_left [(sa 0, .inr (7, [.ref (sa 1), iN (fwq), iN (rch), iN (ql), .ref (sa 2), .ref (sa 3), .ref (sa 4)])), (sa 1, .inl (cI, 15, .inl (fun j => nI (Wy j)))), (sa 2, .inl (cF, nf, .inr (.inr (.inr (.inr (fq_ sa nf)))))), (sa 3, .inl (cI, 16 * nf, .inl (fun j => nI (Nm j)))), (sa 4, .inl (cJ, NL, .inr (.inl (fun j => lN ((wd (fun _ => 0)) j)))))] (List.perm_append_singleton _ F)) ?_
  refine gw_astore_n C (lv2 := [(1, .ref (qa)), (0, .ref (sa 0))]) dX9_spreadFromGoal_6 rfl (by omega) rfl ?_
  refine gw_iconst C 1 dX9_spreadFromGoal_7 (by decide) ?_
  refine gw_istore_n C (lv2 := [(2, iN (1)), (1, .ref (qa)), (0, .ref (sa 0))]) dX9_spreadFromGoal_8 rfl (by omega) rfl ?_
  refine gw_aload_n C 2 dX9_spreadFromGoal_9 rfl rfl ?_
  refine gw_iconst C 0 dX9_spreadFromGoal_10 (by decide) ?_
  refine gw_iconst C 0 dX9_spreadFromGoal_11 (by decide) ?_
  refine gw_allVV (n := 2) C (c_store (kl K) (kD K) cI cB cS cJ cF cG tt sa nf fwq rch ql Wy Nm NL (fun _ => 0) ((qa, .inl (cI, ql, .inl (fun j => nI ((fun _ => 0) j)))) :: F) (fun _ => by decide) 0 hNL (by show 0 / 16 < NL; omega) 0 (by decide) rfl) 0 rfl rfl rfl gX9_spreadFromGoal_X9_store rfl (by decide +kernel) dX9_spreadFromGoal_12 (by rw [hkR]; dsimp only; omega) (by rw [hkR]; dsimp only; omega) rfl (Nat.le_of_ble_eq_true rfl) rfl (fun v hv => ?_)
  refine gw_ws (ws2 := [(sa 0, .inr (7, [.ref (sa 1), iN (fwq), iN (rch), iN (ql), .ref (sa 2), .ref (sa 3), .ref (sa 4)])), (sa 1, .inl (cI, 15, .inl (fun j => nI (Wy j)))), (sa 2, .inl (cF, nf, .inr (.inr (.inr (.inr (fq_ sa nf)))))), (sa 3, .inl (cI, 16 * nf, .inl (fun j => nI (Nm j)))), (sa 4, .inl (cJ, NL, .inr (.inl (fun j => lN ((wd ((sf_ nx sz nf fwq rch ql 0).1)) j))))), (qa, .inl (cI, ql, .inl (fun j => nI (((sf_ nx sz nf fwq rch ql 0).2.1) j))))] ++ F) rfl ?_
  refine gw_iconst C 0 dX9_spreadFromGoal_15 (by decide) ?_
  refine gw_istore_n C (lv2 := [(3, iN (0)), (2, iN (1)), (1, .ref (qa)), (0, .ref (sa 0))]) dX9_spreadFromGoal_16 rfl (by omega) rfl ?_
  have lp : ∀ (k i : Nat) (N : Nat → Nat), i + k = E → gw_G K ([(sa 0, .inr (7, [.ref (sa 1), iN (fwq), iN (rch), iN (ql), .ref (sa 2), .ref (sa 3), .ref (sa 4)])), (sa 1, .inl (cI, 15, .inl (fun j => nI (Wy j)))), (sa 2, .inl (cF, nf, .inr (.inr (.inr (.inr (fq_ sa nf)))))), (sa 3, .inl (cI, 16 * nf, .inl (fun j => nI (N j)))), (sa 4, .inl (cJ, NL, .inr (.inl (fun j => lN ((wd ((sf_ nx sz nf fwq rch ql i).1)) j))))), (qa, .inl (cI, ql, .inl (fun j => nI (((sf_ nx sz nf fwq rch ql i).2.1) j))))] ++ F) 1 ql 17 [(3, iN (i)), (2, iN ((sf_ nx sz nf fwq rch ql i).2.2)), (1, .ref (qa)), (0, .ref (sa 0))] [] := by
    intro k
    induction k with
    | zero =>
      intro i N hk
      have hv := hV i (by omega)
      have hv2 := hv.2
      have hE2 := hE1
      rw [← show i = E by omega] at hE2
      refine gw_iload_n C 0 dX9_spreadFromGoal_17 rfl rfl ?_
      refine gw_iload_n C 1 dX9_spreadFromGoal_18 rfl rfl ?_
      refine gw_icmp_ge C 44 dX9_spreadFromGoal_19 (by decide) (by omega) (by omega) (fun h67 => ?_) (fun h67 => ?_)
      ·
        refine gw_permL (ws2 := sg_ws cI cF sa nf fwq rch ql (.ref (sa 4)) (Wy) (N) ((sa 4, .inl (cJ, NL, .inr (.inl (fun j => lN (wd ((sf_ nx sz nf fwq rch ql E).1) j))))) :: F)) (l := [(qa, .inl (cI, ql, .inl (fun j => nI (((sf_ nx sz nf fwq rch ql i).2.1) j))))]) (by rw [show E = i by omega]; exact List.Perm.append_left [(sa 0, .inr (7, [.ref (sa 1), iN (fwq), iN (rch), iN (ql), .ref (sa 2), .ref (sa 3), .ref (sa 4)])), (sa 1, .inl (cI, 15, .inl (fun j => nI (Wy j)))), (sa 2, .inl (cF, nf, .inr (.inr (.inr (.inr (fq_ sa nf)))))), (sa 3, .inl (cI, 16 * nf, .inl (fun j => nI (N j)))), (sa 4, .inl (cJ, NL, .inr (.inl (fun j => lN ((wd ((sf_ nx sz nf fwq rch ql i).1)) j)))))] (List.perm_append_singleton _ F).symm) ?_
        exact ret N dX9_spreadFromGoal_44 trivial rfl (by omega) (by omega)
      ·
        refine gw_iload_n C 0 dX9_spreadFromGoal_22 rfl rfl ?_
        refine gw_aload_n C 2 dX9_spreadFromGoal_23 rfl rfl ?_
        refine gw_alen C 5 0 (ql) dX9_spreadFromGoal_24 rfl rfl rfl ?_
        refine gw_icmp_ge C 44 dX9_spreadFromGoal_25 (by decide) (by omega) (by omega) (fun h68 => ?_) (fun h68 => ?_)
        ·
          refine gw_permL (ws2 := sg_ws cI cF sa nf fwq rch ql (.ref (sa 4)) (Wy) (N) ((sa 4, .inl (cJ, NL, .inr (.inl (fun j => lN (wd ((sf_ nx sz nf fwq rch ql E).1) j))))) :: F)) (l := [(qa, .inl (cI, ql, .inl (fun j => nI (((sf_ nx sz nf fwq rch ql i).2.1) j))))]) (by rw [show E = i by omega]; exact List.Perm.append_left [(sa 0, .inr (7, [.ref (sa 1), iN (fwq), iN (rch), iN (ql), .ref (sa 2), .ref (sa 3), .ref (sa 4)])), (sa 1, .inl (cI, 15, .inl (fun j => nI (Wy j)))), (sa 2, .inl (cF, nf, .inr (.inr (.inr (.inr (fq_ sa nf)))))), (sa 3, .inl (cI, 16 * nf, .inl (fun j => nI (N j)))), (sa 4, .inl (cJ, NL, .inr (.inl (fun j => lN ((wd ((sf_ nx sz nf fwq rch ql i).1)) j)))))] (List.perm_append_singleton _ F).symm) ?_
          exact ret N dX9_spreadFromGoal_44 trivial rfl (by omega) (by omega)
        ·
          exact absurd hE2 (by omega)
    | succ k ih =>
      intro i N hk
      have hv := hV i (by omega)
      have hv2 := hv.2
      have hE2 := hE0 i (by omega)
      refine gw_iload_n C 0 dX9_spreadFromGoal_17 rfl rfl ?_
      refine gw_iload_n C 1 dX9_spreadFromGoal_18 rfl rfl ?_
      refine gw_icmp_ge C 44 dX9_spreadFromGoal_19 (by decide) (by omega) (by omega) (fun h69 => ?_) (fun h69 => ?_)
      ·
        exact absurd h69 (by omega)
      ·
        refine gw_iload_n C 0 dX9_spreadFromGoal_22 rfl rfl ?_
        refine gw_aload_n C 2 dX9_spreadFromGoal_23 rfl rfl ?_
        refine gw_alen C 5 0 (ql) dX9_spreadFromGoal_24 rfl rfl rfl ?_
        refine gw_icmp_ge C 44 dX9_spreadFromGoal_25 (by decide) (by omega) (by omega) (fun h70 => ?_) (fun h70 => ?_)
        ·
          exact absurd h70 (by omega)
        ·
          obtain ⟨g1, g2⟩ := hV2 i (by omega)
          refine gw_aload_n C 3 dX9_spreadFromGoal_28 rfl rfl ?_
          refine gw_aload_n C 2 dX9_spreadFromGoal_29 rfl rfl ?_
          refine gw_iload_n C 0 dX9_spreadFromGoal_30 rfl rfl ?_
          refine gw_ild C (v := nI (((sf_ nx sz nf fwq rch ql i).2.1) (i))) 5 0 dX9_spreadFromGoal_31 rfl rfl (by first | decide | omega) (by omega) rfl ?_
          refine gw_aload_n C 2 dX9_spreadFromGoal_32 rfl rfl ?_
          refine gw_iload_n C 1 dX9_spreadFromGoal_33 rfl rfl ?_
          refine gw_allVI (n := 3) C (c_spread (kl K) (kD K) cI cB cS cJ cF cG tt sa nf fwq rch ql NL qa sz nx F Wy (hSt qa) (hAd qa) (hSh qa) hnf hq6 hrch hql hNL hz hx hsv N (sf_ nx sz nf fwq rch ql i).1 (sf_ nx sz nf fwq rch ql i).2.1 ((sf_ nx sz nf fwq rch ql i).2.1 i) (sf_ nx sz nf fwq rch ql i).2.2 g1 g2 hv.1 hv.2) 0 rfl rfl rfl gX9_spreadFromGoal_X9_spread rfl (by decide +kernel) dX9_spreadFromGoal_34 (by rw [hkR]; dsimp only; omega) (by rw [hkR]; dsimp only; omega) rfl (Nat.le_of_ble_eq_true rfl) rfl (fun ru u hu => ?_)
          subst hu
          refine gw_ws (ws2 := [(sa 0, .inr (7, [.ref (sa 1), iN (fwq), iN (rch), iN (ql), .ref (sa 2), .ref (sa 3), .ref (sa 4)])), (sa 1, .inl (cI, 15, .inl (fun j => nI (Wy j)))), (sa 2, .inl (cF, nf, .inr (.inr (.inr (.inr (fq_ sa nf)))))), (sa 3, .inl (cI, 16 * nf, .inl (fun j => nI (u j)))), (sa 4, .inl (cJ, NL, .inr (.inl (fun j => lN ((wd ((sf_ nx sz nf fwq rch ql (i + 1)).1)) j))))), (qa, .inl (cI, ql, .inl (fun j => nI (((sf_ nx sz nf fwq rch ql (i + 1)).2.1) j))))] ++ F) rfl ?_
          refine gw_istore_n C (lv2 := [(2, iN ((sf_ nx sz nf fwq rch ql (i + 1)).2.2)), (3, iN (i)), (1, .ref (qa)), (0, .ref (sa 0))]) dX9_spreadFromGoal_37 rfl (by omega) rfl ?_
          refine gw_iinc C (v := nI (i + 1)) (lv2 := [(3, iN (i + 1)), (2, iN ((sf_ nx sz nf fwq rch ql (i + 1)).2.2)), (1, .ref (qa)), (0, .ref (sa 0))]) 1 dX9_spreadFromGoal_38 rfl (nI_add _ _) (by omega) rfl ?_
          refine gw_goto C 17 dX9_spreadFromGoal_41 (by decide) ?_
          refine gw_lv (lv2 := [(3, iN (i + 1)), (2, iN ((sf_ nx sz nf fwq rch ql (i + 1)).2.2)), (1, .ref (qa)), (0, .ref (sa 0))]) [0, 1, 2, 3] rfl ?_
          exact ih (i + 1) u (by omega)
  refine gw_lv (lv2 := [(3, iN (0)), (2, iN ((sf_ nx sz nf fwq rch ql 0).2.2)), (1, .ref (qa)), (0, .ref (sa 0))]) [0, 1, 2, 3] rfl ?_
  exact gw_widen (k1 := 1) (n1 := ql) (by omega) (by omega) (lp E 0 Nm (by omega))
def ob_ : Option (List Nat) → Nat
  | none => 0
  | some _ => 1
theorem ob_0 {o : Option (List Nat)} (h : ob_ o = 0) : o = none := by cases o with | none => rfl | some _ => exact absurd h Nat.one_ne_zero
theorem ob_1 {o : Option (List Nat)} (h : ¬ ob_ o = 0) : ∃ w, o = some w := by cases o with | none => exact absurd rfl h | some w => exact ⟨w, rfl⟩
theorem ob_2 (o : Option (List Nat)) : ob_ o < 2 := by cases o with | none => exact Nat.zero_lt_two | some _ => exact Nat.one_lt_two
def dvI (nx : Nat → Nat → Nat) (sz : Nat → Nat) (nf rch fwq : Nat) (g : Nat → Nat) (rec : Nat → (Nat → Nat) → Option (List Nat)) (left fc : Nat) (x : Nat → Nat) : Nat → Nat → Option (List Nat)
  | 0, _ => none
  | n + 1, i => if tg_ rch g (sv_ sz (yI nx fc x (i + 1)) nf) < left then (match rec fc (yI nx fc x (i + 1)) with | some w => some ((ft_ fwq fc + i) :: w) | none => dvI nx sz nf rch fwq g rec left fc x n (i + 1)) else dvI nx sz nf rch fwq g rec left fc x n (i + 1)
def dvO (nx : Nat → Nat → Nat) (sz : Nat → Nat) (nf rch fwq : Nat) (g : Nat → Nat) (rec : Nat → (Nat → Nat) → Option (List Nat)) (left last : Nat) (x : Nat → Nat) : Nat → Nat → Option (List Nat)
  | 0, _ => none
  | n + 1, f => if nl_ last f = 0 then (match dvI nx sz nf rch fwq g rec left f x (to_ fwq f) 0 with | some w => some w | none => dvO nx sz nf rch fwq g rec left last x n (f + 1)) else dvO nx sz nf rch fwq g rec left last x n (f + 1)
def dv_ (nx : Nat → Nat → Nat) (sz : Nat → Nat) (nf rch fwq : Nat) (g : Nat → Nat) : Nat → Nat → (Nat → Nat) → Option (List Nat)
  | 0, _, _ => some []
  | l + 1, last, x => dvO nx sz nf rch fwq g (dv_ nx sz nf rch fwq g l) (l + 1) last x 6 0
theorem nl_2 (a b : Nat) : nl_ a b < 2 := by rw [nl_]; split <;> decide
set_option maxHeartbeats 4000000 in
set_option maxRecDepth 100000 in
theorem c_dive (l : Launch) (D : va_G) (cI cB cS cJ cF cG : ClassId) (tt : Nat → Nat) (sa : Nat → Nat) (nf fwq rch ql NL : Nat) (sz : Nat → Nat) (nx : Nat → Nat → Nat) (F : va_W) (g : Nat → Nat) (hSt : ∀ (Wy Nm : Nat → Nat) (d : Nat), d ≤ 15 → gw_CI (S := Unit) l yX9_stateAt wsX9_stateAt 0 0 0 0 D (mo_ty cI cB cS cJ cF cG) (zs tt) (sg_ws cI cF sa nf fwq rch ql (.ref (sa 4)) (Wy) (Nm) ((sa 4, .inl (cJ, NL, .inr (.inl (fun j => lN (wd (g) j))))) :: F)) [.ref (sa 0), iN d] (fun r _ => r = nI (sa_ sz Nm (d * nf) nf)) (fun _ => sg_ws cI cF sa nf fwq rch ql (.ref (sa 4)) (Wy) (Nm) ((sa 4, .inl (cJ, NL, .inr (.inl (fun j => lN (wd (g) j))))) :: F))) (hAd : ∀ (Wy Nm : Nat → Nat) (d fc : Nat), d ≤ 15 → fc < 6 → (∀ i, i < nf → Nm (d * nf + i) < sz i) → gw_CV (S := Unit) l yX9_advance wsX9_advance 0 0 0 0 D (mo_ty cI cB cS cJ cF cG) (zs tt) (sg_ws cI cF sa nf fwq rch ql (.ref (sa 4)) (Wy) (Nm) ((sa 4, .inl (cJ, NL, .inr (.inl (fun j => lN (wd (g) j))))) :: F)) [.ref (sa 0), iN d, iN fc] (fun _ => True) (fun _ => sg_ws cI cF sa nf fwq rch ql (.ref (sa 4)) (Wy) (ad_ nx (d * nf) fc Nm nf) ((sa 4, .inl (cJ, NL, .inr (.inl (fun j => lN (wd (g) j))))) :: F))) (hnf : nf ≤ 4) (hq6 : fwq ≤ 6) (hrch : rch < 14) (hNL : NL ≤ 100000) (hz : ∀ i, i < nf → 0 < sz i) (hx : ∀ fc, fc < 6 → ∀ i, i < nf → ∀ v, v < sz i → nx i (6 * v + fc) < sz i) (hsv : ∀ y : Nat → Nat, (∀ i, i < nf → y i < sz i) → sv_ sz y nf < 2 ^ 4 * NL) (hg : ∀ s, g s < 16) : ∀ (left d last : Nat) (Wy Nm x : Nat → Nat), d + left ≤ 15 → (last < 6 ∨ last = 4294967295) → (∀ i, i < nf → Nm (d * nf + i) = x i) → (∀ i, i < nf → x i < sz i) → gw_CI (S := (Nat → Nat) × (Nat → Nat)) l yX9_dive wsX9_dive (2 + left) (49 + 25 * left) 0 0 D (mo_ty cI cB cS cJ cF cG) (zs tt) (sg_ws cI cF sa nf fwq rch ql (.ref (sa 4)) (Wy) (Nm) ((sa 4, .inl (cJ, NL, .inr (.inl (fun j => lN (wd (g) j))))) :: F)) [.ref (sa 0), iN d, iN left, iN last] (fun r u => r = nI (ob_ (dv_ nx sz nf rch fwq g left last x)) ∧ (∀ j, j < d * nf + nf → u.2 j = Nm j) ∧ (∀ j, j < d → u.1 j = Wy j) ∧ ∀ w, dv_ nx sz nf rch fwq g left last x = some w → ∀ j, j < left → u.1 (d + j) = w.getD j 0) (fun u => sg_ws cI cF sa nf fwq rch ql (.ref (sa 4)) (u.1) (u.2) ((sa 4, .inl (cJ, NL, .inr (.inl (fun j => lN (wd (g) j))))) :: F)) := by
  intro left
  induction left with
  | zero =>
    intro d last Wy Nm x hdl hla hrow hxl
    refine gw_CI.of (cc := cX9_dive) (maxL := 6) (rt := .boolean) (zs_ok tt) (by decide) rfl (Nat.le_of_ble_eq_true rfl) ?_
    intro K C hkl hkn hkR hkD hmn ret
    have C : gw_x K cX9_dive RX9 wsX9_dive (mo_ty cI cB cS cJ cF cG) (zs tt) := C
    subst hkl hkD
    refine gw_iload_n C 2 dX9_dive_0 rfl rfl ?_
    refine gw_if_eq C 10 dX9_dive_1 (by decide) (by omega) (fun h71 => ?_) (fun h71 => ?_)
    ·
      refine gw_iload_n C 2 dX9_dive_10 rfl rfl ?_
      refine gw_if_ne C 18 dX9_dive_11 (by decide) (by omega) (fun h72 => ?_) (fun h72 => ?_)
      ·
        exact absurd rfl h72
      ·
        refine gw_iconst C 1 dX9_dive_14 (by decide) ?_
        refine gw_goto C 19 dX9_dive_15 (by decide) ?_
        exact ret (Wy, Nm) dX9_dive_19 rfl ⟨rfl, fun _ _ => rfl, fun _ _ => rfl, fun _ _ j hj => absurd hj (by omega)⟩ rfl (Nat.le_refl 0) (Nat.le_refl 0)
    ·
      exact absurd rfl h71
  | succ left ihd =>
    intro d last Wy Nm x hdl hla hrow hxl
    refine gw_CI.of (cc := cX9_dive) (maxL := 6) (rt := .boolean) (zs_ok tt) (by decide) rfl (Nat.le_of_ble_eq_true rfl) ?_
    intro K C hkl hkn hkR hkD hmn ret
    have C : gw_x K cX9_dive RX9 wsX9_dive (mo_ty cI cB cS cJ cF cG) (zs tt) := C
    subst hkl hkD
    have eb : (d + 1) * nf = d * nf + nf := Nat.succ_mul d nf
    refine gw_iload_n C 2 dX9_dive_0 rfl rfl ?_
    refine gw_if_eq C 10 dX9_dive_1 (by decide) (by omega) (fun h73 => ?_) (fun h73 => ?_)
    ·
      exact absurd h73 (by omega)
    ·
      refine gw_iload_n C 1 dX9_dive_4 rfl rfl ?_
      refine gw_bipush C 15 dX9_dive_5 (by decide) ?_
      refine gw_icmp_lt C 20 dX9_dive_7 (by decide) (by omega) (by omega) (fun h74 => ?_) (fun h74 => ?_)
      ·
        refine gw_iconst C 0 dX9_dive_20 (by decide) ?_
        refine gw_istore C (lv2 := [(4, iN (0)), (0, .ref (sa 0)), (1, iN (d)), (2, iN (left + 1)), (3, iN (last))]) dX9_dive_21 (by omega) rfl ?_
        have lpF : ∀ (n face : Nat) (W N : Nat → Nat), face + n = 6 → (∀ j, j < d * nf + nf → N j = Nm j) → (∀ j, j < d → W j = Wy j) → dv_ nx sz nf rch fwq g (left + 1) last x = dvO nx sz nf rch fwq g (dv_ nx sz nf rch fwq g left) (left + 1) last x n face → gw_G K ([(sa 0, .inr (7, [.ref (sa 1), iN (fwq), iN (rch), iN (ql), .ref (sa 2), .ref (sa 3), .ref (sa 4)])), (sa 1, .inl (cI, 15, .inl (fun j => nI (W j)))), (sa 2, .inl (cF, nf, .inr (.inr (.inr (.inr (fq_ sa nf)))))), (sa 3, .inl (cI, 16 * nf, .inl (fun j => nI (N j)))), (sa 4, .inl (cJ, NL, .inr (.inl (fun j => lN ((wd g) j)))))] ++ F) 0 0 23 [(4, iN (face)), (0, .ref (sa 0)), (1, iN (d)), (2, iN (left + 1)), (3, iN (last))] [] := by
          intro n
          induction n with
          | zero =>
            intro face W N hj hNl hWl hdv
            refine gw_iload C 0 dX9_dive_23 rfl ?_
            refine gw_bipush C 6 dX9_dive_25 (by decide) ?_
            refine gw_icmp_ge C 129 dX9_dive_27 (by decide) (by omega) (by omega) (fun h75 => ?_) (fun h75 => ?_)
            ·
              refine gw_iconst C 0 dX9_dive_129 (by decide) ?_
              rw [dvO] at hdv
              exact ret (W, N) dX9_dive_130 rfl ⟨by rw [hdv]; rfl, hNl, hWl, fun w hw => by rw [hdv] at hw; cases hw⟩ rfl (Nat.le_refl 0) (Nat.le_refl 0)
            ·
              exact absurd h75 (by omega)
          | succ n ih =>
            intro face W N hj hNl hWl hdv
            refine gw_iload C 0 dX9_dive_23 rfl ?_
            refine gw_bipush C 6 dX9_dive_25 (by decide) ?_
            refine gw_icmp_ge C 129 dX9_dive_27 (by decide) (by omega) (by omega) (fun h76 => ?_) (fun h76 => ?_)
            ·
              exact absurd h76 (by omega)
            ·
              refine gw_iload_n C 4 dX9_dive_30 rfl rfl ?_
              refine gw_iload C 0 dX9_dive_31 rfl ?_
              refine gw_allSI (n := 2) C (c_isNeedless (kl K) (kD K) _ tt _ last face hla (by omega)) gX9_dive_X9_isNeedless rfl (by decide +kernel) dX9_dive_33 (by rw [hkR]; dsimp only; omega) (by rw [hkR]; dsimp only; omega) rfl (Nat.le_of_ble_eq_true rfl) rfl (fun rv v hv => ?_)
              subst hv
              have hn2 := nl_2 last face
              rw [dvO] at hdv
              refine gw_if_eq C 42 dX9_dive_36 (by decide) (by omega) (fun h77 => ?_) (fun h77 => ?_)
              ·
                rw [if_pos h77] at hdv
                refine gw_aload_n C 1 dX9_dive_42 rfl rfl ?_
                refine gw_iload_n C 2 dX9_dive_43 rfl rfl ?_
                refine gw_allVV (n := 1) C (c_copyDown (kl K) (kD K) cI cB cS cJ cF cG tt sa nf fwq rch ql W N (.ref (sa 4)) ((sa 4, .inl (cJ, NL, .inr (.inl (fun j => lN (wd (g) j))))) :: F) d (by omega) hnf) 0 rfl rfl rfl gX9_dive_X9_copyDown rfl (by decide +kernel) dX9_dive_44 (by rw [hkR]; dsimp only; omega) (by rw [hkR]; dsimp only; omega) rfl (Nat.le_of_ble_eq_true rfl) rfl (fun v3 hv3 => ?_)
                have r0 : ∀ j, j < d * nf + nf → cpy1 N (d * nf) (d * nf + nf) nf j = Nm j := fun j hj => by rw [cp_low (nf := nf) (Nm := N) (d * nf) j hj]; exact hNl j hj
                have r1 : ∀ i, i < nf → cpy1 N (d * nf) (d * nf + nf) nf (d * nf + nf + i) = yI nx face x 0 i := fun i hi => cp_row (nf := nf) (Nm := N) (x := x) (d * nf) (fun i hi => by rw [hNl _ (by omega)]; exact hrow i hi) i hi
                generalize cpy1 N (d * nf) (d * nf + nf) nf = N1 at r0 r1 ⊢
                refine gw_iconst C 0 dX9_dive_47 (by decide) ?_
                refine gw_istore C (lv2 := [(5, iN (0)), (4, iN (face)), (0, .ref (sa 0)), (1, iN (d)), (2, iN (left + 1)), (3, iN (last))]) dX9_dive_48 (by omega) rfl ?_
                have lpI : ∀ (k i : Nat) (W N : Nat → Nat), i + k = to_ fwq face → (∀ j, j < d * nf + nf → N j = Nm j) → (∀ j, j < d → W j = Wy j) → (∀ j, j < nf → N (d * nf + nf + j) = yI nx face x i j) → dv_ nx sz nf rch fwq g (left + 1) last x = (match dvI nx sz nf rch fwq g (dv_ nx sz nf rch fwq g left) (left + 1) face x k i with | some w => some w | none => dvO nx sz nf rch fwq g (dv_ nx sz nf rch fwq g left) (left + 1) last x n (face + 1)) → gw_G K ([(sa 0, .inr (7, [.ref (sa 1), iN (fwq), iN (rch), iN (ql), .ref (sa 2), .ref (sa 3), .ref (sa 4)])), (sa 1, .inl (cI, 15, .inl (fun j => nI (W j)))), (sa 2, .inl (cF, nf, .inr (.inr (.inr (.inr (fq_ sa nf)))))), (sa 3, .inl (cI, 16 * nf, .inl (fun j => nI (N j)))), (sa 4, .inl (cJ, NL, .inr (.inl (fun j => lN ((wd g) j)))))] ++ F) 0 0 50 [(5, iN (i)), (4, iN (face)), (0, .ref (sa 0)), (1, iN (d)), (2, iN (left + 1)), (3, iN (last))] [] := by
                  intro k
                  induction k with
                  | zero =>
                    intro i W N hk hNl hWl hy hdv
                    have hto : to_ fwq face ≤ 3 := by rw [to_]; split <;> omega
                    refine gw_iload C 0 dX9_dive_50 rfl ?_
                    refine gw_aload_n C 2 dX9_dive_52 rfl rfl ?_
                    refine gw_iload C 1 dX9_dive_53 rfl ?_
                    refine gw_allVI (n := 1) C (c_turnsOf (kl K) (kD K) cI cB cS cJ cF cG tt sa nf fwq rch ql W N (.ref (sa 4)) ((sa 4, .inl (cJ, NL, .inr (.inl (fun j => lN (wd (g) j))))) :: F) face (by omega) hq6) 0 rfl rfl rfl gX9_dive_X9_turnsOf rfl (by decide +kernel) dX9_dive_55 (by rw [hkR]; dsimp only; omega) (by rw [hkR]; dsimp only; omega) rfl (Nat.le_of_ble_eq_true rfl) rfl (fun rw w hw => ?_)
                    subst hw
                    refine gw_icmp_ge C 123 dX9_dive_58 (by decide) (by omega) (by omega) (fun h78 => ?_) (fun h78 => ?_)
                    ·
                      rw [dvI] at hdv
                      refine gw_iinc C (v := nI (face + 1)) (lv2 := [(4, iN (face + 1)), (5, iN (i)), (0, .ref (sa 0)), (1, iN (d)), (2, iN (left + 1)), (3, iN (last))]) 1 dX9_dive_123 rfl (nI_add _ _) (by omega) rfl ?_
                      refine gw_goto C 23 dX9_dive_126 (by decide) ?_
                      refine gw_lv (lv2 := [(4, iN (face + 1)), (0, .ref (sa 0)), (1, iN (d)), (2, iN (left + 1)), (3, iN (last))]) [0, 2, 3, 4, 5] rfl ?_
                      exact ih (face + 1) W N (by omega) hNl hWl hdv
                    ·
                      exact absurd h78 (by omega)
                  | succ k ihk =>
                    intro i W N hk hNl hWl hy hdv
                    have hto : to_ fwq face ≤ 3 := by rw [to_]; split <;> omega
                    refine gw_iload C 0 dX9_dive_50 rfl ?_
                    refine gw_aload_n C 2 dX9_dive_52 rfl rfl ?_
                    refine gw_iload C 1 dX9_dive_53 rfl ?_
                    refine gw_allVI (n := 1) C (c_turnsOf (kl K) (kD K) cI cB cS cJ cF cG tt sa nf fwq rch ql W N (.ref (sa 4)) ((sa 4, .inl (cJ, NL, .inr (.inl (fun j => lN (wd (g) j))))) :: F) face (by omega) hq6) 0 rfl rfl rfl gX9_dive_X9_turnsOf rfl (by decide +kernel) dX9_dive_55 (by rw [hkR]; dsimp only; omega) (by rw [hkR]; dsimp only; omega) rfl (Nat.le_of_ble_eq_true rfl) rfl (fun rw w hw => ?_)
                    subst hw
                    refine gw_icmp_ge C 123 dX9_dive_58 (by decide) (by omega) (by omega) (fun h79 => ?_) (fun h79 => ?_)
                    ·
                      exact absurd h79 (by omega)
                    ·
                      have hyl := yI_lt (hx face (by omega)) hxl i
                      have hyl2 := yI_lt (hx face (by omega)) hxl (i + 1)
                      rw [dvI] at hdv
                      refine gw_aload_n C 2 dX9_dive_61 rfl rfl ?_
                      refine gw_iload_n C 3 dX9_dive_62 rfl rfl ?_
                      refine gw_iconst C 1 dX9_dive_63 (by decide) ?_
                      refine gw_iadd C dX9_dive_64 ?_
                      refine gw_iload C 1 dX9_dive_65 rfl ?_
                      refine gw_allVV (n := 2) C (hAd W N (d + 1) face (by omega) (by omega) (fun j hj => by rw [eb, hy j hj]; exact hyl j hj)) 0 rfl rfl rfl gX9_dive_X9_advance rfl (by decide +kernel) dX9_dive_67 (by rw [hkR]; dsimp only; omega) (by rw [hkR]; dsimp only; omega) rfl (Nat.le_of_ble_eq_true rfl) rfl (fun w2 hw2 => ?_)
                      rw [eb]
                      have hA0 : ∀ j, j < d * nf + nf → ad_ nx (d * nf + nf) face N nf j = Nm j := fun j hj => by rw [ad_fix nx (d * nf + nf) face N nf j (by omega)]; exact hNl j hj
                      have hA1 : ∀ j, j < nf → ad_ nx (d * nf + nf) face N nf (d * nf + nf + j) = yI nx face x (i + 1) j := fun j hj => by rw [ad_at nx (d * nf + nf) face N nf j hj, hy j hj]; rfl
                      generalize ad_ nx (d * nf + nf) face N nf = N2 at hA0 hA1 ⊢
                      have ihq := fun (W' N' : Nat → Nat) => ihk (i + 1) W' N' (by omega)
                      refine gw_aload_n C 2 dX9_dive_70 rfl rfl ?_
                      refine gw_aload_n C 2 dX9_dive_71 rfl rfl ?_
                      refine gw_iload_n C 3 dX9_dive_72 rfl rfl ?_
                      refine gw_iconst C 1 dX9_dive_73 (by decide) ?_
                      refine gw_iadd C dX9_dive_74 ?_
                      refine gw_allVI (n := 1) C (hSt W N2 (d + 1) (by omega)) 0 rfl rfl rfl gX9_dive_X9_stateAt rfl (by decide +kernel) dX9_dive_75 (by rw [hkR]; dsimp only; omega) (by rw [hkR]; dsimp only; omega) rfl (Nat.le_of_ble_eq_true rfl) rfl (fun rw3 w3 hw3 => ?_)
                      subst hw3
                      rw [eb, sa_sv sz N2 (d * nf + nf) nf hA1]
                      have hnb := hsv _ hyl2
                      obtain ⟨y, ey⟩ : ∃ y, y = yI nx face x (i + 1) := ⟨_, rfl⟩
                      rw [← ey] at hnb hdv ihq hA1 hyl2
                      rw [← ey]
                      refine gw_allVI (n := 1) C (c_ttg (kl K) (kD K) cI cB cS cJ cF cG tt sa nf fwq rch ql W N2 NL g F hg (sv_ sz y nf) hNL (by omega)) 0 rfl rfl rfl gX9_dive_X9_turnsToGoal rfl (by decide +kernel) dX9_dive_78 (by rw [hkR]; dsimp only; omega) (by rw [hkR]; dsimp only; omega) rfl (Nat.le_of_ble_eq_true rfl) rfl (fun rw4 w4 hw4 => ?_)
                      subst hw4
                      have htg : tg_ rch g (sv_ sz y nf) < 100 := by have := hg (sv_ sz y nf); rw [tg_]; split <;> omega
                      refine gw_iload_n C 4 dX9_dive_81 rfl rfl ?_
                      refine gw_icmp_ge C 117 dX9_dive_82 (by decide) (by omega) (by omega) (fun h80 => ?_) (fun h80 => ?_)
                      ·
                        rw [if_neg (by omega)] at hdv
                        refine gw_iinc C (v := nI (i + 1)) (lv2 := [(5, iN (i + 1)), (4, iN (face)), (0, .ref (sa 0)), (1, iN (d)), (2, iN (left + 1)), (3, iN (last))]) 0 dX9_dive_117 rfl (nI_add _ _) (by omega) rfl ?_
                        refine gw_goto C 50 dX9_dive_120 (by decide) ?_
                        refine gw_lv (lv2 := [(5, iN (i + 1)), (4, iN (face)), (0, .ref (sa 0)), (1, iN (d)), (2, iN (left + 1)), (3, iN (last))]) [0, 1, 2, 3, 4, 5] rfl ?_
                        exact ihq W N2 hA0 hWl hA1 hdv
                      ·
                        rw [if_pos h80] at hdv
                        refine gw_aload_n C 2 dX9_dive_85 rfl rfl ?_
                        refine gw_get C 0 0 in_X9_dive_X9 dX9_dive_86 lk_X9_dive_29 rfl rfl (by decide) rfl rfl ?_
                        refine gw_iload_n C 3 dX9_dive_89 rfl rfl ?_
                        refine gw_aload_n C 2 dX9_dive_90 rfl rfl ?_
                        refine gw_iload C 1 dX9_dive_91 rfl ?_
                        refine gw_allVI (n := 1) C (c_firstTurnOf (kl K) (kD K) cI cB cS cJ cF cG tt sa nf fwq rch ql W N2 (.ref (sa 4)) ((sa 4, .inl (cJ, NL, .inr (.inl (fun j => lN (wd (g) j))))) :: F) face (by omega) hq6) 0 rfl rfl rfl gX9_dive_X9_firstTurnOf rfl (by decide +kernel) dX9_dive_93 (by rw [hkR]; dsimp only; omega) (by rw [hkR]; dsimp only; omega) rfl (Nat.le_of_ble_eq_true rfl) rfl (fun rw5 w5 hw5 => ?_)
                        subst hw5
                        refine gw_iload C 0 dX9_dive_96 rfl ?_
                        refine gw_iadd C dX9_dive_98 ?_
                        refine gw_istN C (ws2 := [(sa 0, .inr (7, [.ref (sa 1), iN (fwq), iN (rch), iN (ql), .ref (sa 2), .ref (sa 3), .ref (sa 4)])), (sa 1, .inl (cI, 15, .inl (fun j => nI ((up1 W (d) ((ft_ fwq face) + (i))) j)))), (sa 2, .inl (cF, nf, .inr (.inr (.inr (.inr (fq_ sa nf)))))), (sa 3, .inl (cI, 16 * nf, .inl (fun j => nI (N2 j)))), (sa 4, .inl (cJ, NL, .inr (.inl (fun j => lN ((wd g) j)))))] ++ F) 1 0 dX9_dive_99 rfl rfl (by first | decide | omega) (by omega) rfl ?_
                        refine gw_aload_n C 2 dX9_dive_100 rfl rfl ?_
                        refine gw_iload_n C 3 dX9_dive_101 rfl rfl ?_
                        refine gw_iconst C 1 dX9_dive_102 (by decide) ?_
                        refine gw_iadd C dX9_dive_103 ?_
                        refine gw_iload_n C 4 dX9_dive_104 rfl rfl ?_
                        refine gw_iconst C 1 dX9_dive_105 (by decide) ?_
                        refine gw_isub C dX9_dive_106 (by omega) ?_
                        refine gw_iload C 1 dX9_dive_107 rfl ?_
                        refine gw_allVI (n := 3) C (ihd (d + 1) face (up1 W d (ft_ fwq face + i)) N2 y (by omega) (by omega) (fun j hj => by rw [eb]; exact hA1 j hj) hyl2) 0 rfl rfl rfl gX9_dive_X9_dive rfl (by decide +kernel) dX9_dive_109 (by rw [hkR]; dsimp only; omega) (by rw [hkR]; dsimp only; omega) rfl (Nat.le_of_ble_eq_true rfl) rfl (fun ru u hu => ?_)
                        obtain ⟨e1, e2, e3, e4⟩ := hu
                        subst e1
                        have hob := ob_2 (dv_ nx sz nf rch fwq g left face y)
                        rw [eb] at e2
                        have k1 : ∀ j, j < d * nf + nf → u.2 j = Nm j := fun j hj => by rw [e2 j (by omega)]; exact hA0 j hj
                        have k2 : ∀ j, j < d → u.1 j = Wy j := fun j hj => by rw [e3 j (by omega)]; simp only [up1]; rw [if_neg (by omega)]; exact hWl j hj
                        have k4 : u.1 d = ft_ fwq face + i := by rw [e3 d (by omega)]; simp [up1]
                        refine gw_if_eq C 117 dX9_dive_112 (by decide) (by omega) (fun h81 => ?_) (fun h81 => ?_)
                        ·
                          rw [ob_0 h81] at hdv
                          refine gw_iinc C (v := nI (i + 1)) (lv2 := [(5, iN (i + 1)), (4, iN (face)), (0, .ref (sa 0)), (1, iN (d)), (2, iN (left + 1)), (3, iN (last))]) 0 dX9_dive_117 rfl (nI_add _ _) (by omega) rfl ?_
                          refine gw_goto C 50 dX9_dive_120 (by decide) ?_
                          refine gw_lv (lv2 := [(5, iN (i + 1)), (4, iN (face)), (0, .ref (sa 0)), (1, iN (d)), (2, iN (left + 1)), (3, iN (last))]) [0, 1, 2, 3, 4, 5] rfl ?_
                          exact ihq u.1 u.2 k1 k2 (fun j hj => by rw [e2 _ (by omega)]; exact hA1 j hj) hdv
                        ·
                          obtain ⟨w, hw⟩ := ob_1 h81
                          rw [hw] at hdv
                          refine gw_iconst C 1 dX9_dive_115 (by decide) ?_
                          refine ret u dX9_dive_116 rfl ⟨by rw [hdv]; rfl, k1, k2, fun w' hw' j hj => ?_⟩ rfl (by decide) (by decide)
                          rw [hdv] at hw'
                          have ew : (ft_ fwq face + i) :: w = w' := Option.some.inj hw'
                          rw [← ew]
                          cases j with
                          | zero => exact k4
                          | succ j => rw [show d + (j + 1) = d + 1 + j by omega, e4 w hw j (by omega)]; rfl
                refine gw_lv (lv2 := [(5, iN (0)), (4, iN (face)), (0, .ref (sa 0)), (1, iN (d)), (2, iN (left + 1)), (3, iN (last))]) [0, 1, 2, 3, 4, 5] rfl ?_
                exact lpI (to_ fwq face) 0 W N1 (by omega) r0 hWl r1 hdv
              ·
                rw [if_neg h77] at hdv
                refine gw_goto C 123 dX9_dive_39 (by decide) ?_
                refine gw_iinc C (v := nI (face + 1)) (lv2 := [(4, iN (face + 1)), (0, .ref (sa 0)), (1, iN (d)), (2, iN (left + 1)), (3, iN (last))]) 0 dX9_dive_123 rfl (nI_add _ _) (by omega) rfl ?_
                refine gw_goto C 23 dX9_dive_126 (by decide) ?_
                refine gw_lv (lv2 := [(4, iN (face + 1)), (0, .ref (sa 0)), (1, iN (d)), (2, iN (left + 1)), (3, iN (last))]) [0, 1, 2, 3, 4] rfl ?_
                exact ih (face + 1) W N (by omega) hNl hWl hdv
        refine gw_lv (lv2 := [(4, iN (0)), (0, .ref (sa 0)), (1, iN (d)), (2, iN (left + 1)), (3, iN (last))]) [0, 1, 2, 3, 4] rfl ?_
        exact lpF 6 0 Wy Nm rfl (fun _ _ => rfl) (fun _ _ => rfl) rfl
      ·
        exact absurd h74 (by omega)
