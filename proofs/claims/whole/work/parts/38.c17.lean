theorem in_X9_find_X9 : ∀ w ∈ wsX90, w ∈ wsX9_find := fun _ h => List.mem_cons_of_mem _ (List.mem_append_left _ (List.mem_append_left _ (List.mem_append_left _ (List.mem_append_left _ (List.mem_append_left _ (List.mem_append_left _ (List.mem_append_left _ (List.mem_append_right _ (h)))))))))
theorem lk_X9_find_36 : Cond.fieldLink RX9 36 "StageCube$Stage" "near" "[J" ∈ wsX9_find := by decide +kernel
abbrev S4 : Type := (Nat → Nat) × (Nat → Nat → Nat) × (Nat → Nat) × (Nat → Nat)
def fdc (b : Bool) (s c : Nat) : Nat := if s = 0 then 0 else if b then 0 else c
def fdb (b : Bool) (s : Nat) : Bool := if s = 0 then b else true
theorem sv_congr (sz : Nat → Nat) {x y : Nat → Nat} : ∀ n, (∀ i, i < n → x i = y i) → sv_ sz x n = sv_ sz y n
  | 0, _ => rfl
  | n + 1, h => by rw [sv_, sv_, sv_congr sz n (fun i hi => h i (by omega)), h n (by omega)]
def fdL (nx : Nat → Nat → Nat) (sz : Nat → Nat) (nf rch fwq : Nat) (g x : Nat → Nat) : Nat → Nat → Option (Nat × List Nat)
  | 0, _ => none
  | n + 1, b => match dv_ nx sz nf rch fwq g b 4294967295 x with | some w => some (b, w) | none => fdL nx sz nf rch fwq g x n (b + 1)
def fd_ (nx : Nat → Nat → Nat) (sz : Nat → Nat) (nf rch fwq : Nat) (g x : Nat → Nat) : Nat × List Nat := if sv_ sz x nf = 0 then (0, []) else (fdL nx sz nf rch fwq g x (16 - tg_ rch g (sv_ sz x nf)) (tg_ rch g (sv_ sz x nf))).getD (0, [])
theorem sc_rd_ok (k : Nat) {cp : Nat → Nat} {sc : Nat → Nat → Nat} (hcp : ∀ j, j < 8 → cp j < 8) (h : sc_ok k sc) : sc_ok k (sc_rd k cp sc) := by
  intro e
  subst e
  have := pr_b cp (sc 0) (sc 1) hcp (h rfl).1 (h rfl).2 8 (Nat.le_refl _)
  exact ⟨this.2.2.1, this.2.2.2⟩
set_option maxHeartbeats 4000000 in
set_option maxRecDepth 100000 in
theorem c_findz0u (l : Launch) (D : va_G) (cI cB cS cJ cF cG : ClassId) (tt : Nat → Nat) (sa : Nat → Nat) (Wy Nm : Nat → Nat) (sc nx : Nat → Nat → Nat) (E : Nat) (ca : Nat → Nat) (cp co ep eo x : Nat → Nat) (hcp : ∀ j, j < 8 → cp j < 8) (hep : ∀ j, j < 12 → ep j < 12) (hsc : sc_ok 0 sc) (hrx : ∀ s, sc_ok 0 s → ∀ i, i < 1 → rv0 cp co ep eo s i = x i) (hz : sv_ sz0 x 1 = 0) : gw_CI (S := S4) l yX9_find wsX9_find 18 449 0 0 D (mo_ty cI cB cS cJ cF cG) (zs tt) (sg_ws cI cF sa 1 6 7 2048 (.null) (Wy) (Nm) (fu0_ws cI sa (sc)) ++ cb_ws cI tt ca cp co ep eo) [.ref (sa 0), .ref (ca 0)] (fun r u => r = nI (fd_ nx sz0 1 7 6 (sf_ nx sz0 1 6 7 2048 E).1 x).1 ∧ (∀ j, j < (fd_ nx sz0 1 7 6 (sf_ nx sz0 1 6 7 2048 E).1 x).1 → u.2.2.1 j = (fd_ nx sz0 1 7 6 (sf_ nx sz0 1 6 7 2048 E).1 x).2.getD j 0) ∧ u.1 0 = sa 0 ∧ sc_ok 0 u.2.1) (fun u => sg_ws cI cF (u.1) 1 6 7 2048 (.null) (u.2.2.1) (u.2.2.2) (fu0_ws cI (u.1) (u.2.1)) ++ cb_ws cI tt ca cp co ep eo) := by
  refine gw_CI.of (cc := cX9_find) (maxL := 4) (rt := .int) (zs_ok tt) (by decide) rfl (Nat.le_of_ble_eq_true rfl) ?_
  intro K C hkl hkn hkR hkD hmn ret
  have C : gw_x K cX9_find RX9 wsX9_find (mo_ty cI cB cS cJ cF cG) (zs tt) := C
  subst hkl hkD
  have hrc : (kR K).cells = 0 := by rw [hkR]
  have hrs : (kR K).slots = 0 := by rw [hkR]
  refine gw_aload_n C 0 dX9_find_0 rfl rfl ?_
  refine gw_aload_n C 1 dX9_find_1 rfl rfl ?_
  have esv : sv_ sz0 (rv0 cp co ep eo sc) 1 = sv_ sz0 x 1 := sv_congr sz0 1 (hrx sc hsc)
  have efd : fd_ nx sz0 1 7 6 (sf_ nx sz0 1 6 7 2048 E).1 x = (0, []) := by rw [fd_, if_pos hz]
  refine gw_allVI (n := 1) C (c_readStart00 (kl K) (kD K) cI cB cS cJ cF cG tt sa Wy Nm _ sc nx ca cp co ep eo hcp hep hsc) 0 rfl rfl rfl gX9_find_X9_readStart rfl (by decide +kernel) dX9_find_2 (by rw [hkR]; decide) (by rw [hkR]; decide) rfl (Nat.le_of_ble_eq_true rfl) rfl (fun rv v hv => ?_)
  subst hv
  rw [esv, hz]
  refine gw_if_ne C 10 dX9_find_5 (by decide) (by omega) (fun h121 => ?_) (fun h121 => ?_)
  ·
    exact absurd rfl h121
  ·
    refine gw_iconst C 0 dX9_find_8 (by decide) ?_
    exact ret (sa, sc_rd 0 cp sc, Wy, rN_ (rv0 cp co ep eo sc) Nm 1) dX9_find_9 rfl ⟨by rw [efd], fun j hj => by rw [efd] at hj; exact absurd hj (Nat.not_lt_zero _), rfl, sc_rd_ok 0 hcp hsc⟩ rfl (Nat.le_refl 0) (Nat.le_refl 0)
set_option maxHeartbeats 4000000 in
set_option maxRecDepth 100000 in
theorem c_findz0p (l : Launch) (D : va_G) (cI cB cS cJ cF cG : ClassId) (tt : Nat → Nat) (sa : Nat → Nat) (Wy Nm : Nat → Nat) (sc nx : Nat → Nat → Nat) (E : Nat) (ca : Nat → Nat) (cp co ep eo x : Nat → Nat) (hcp : ∀ j, j < 8 → cp j < 8) (hep : ∀ j, j < 12 → ep j < 12) (hsc : sc_ok 0 sc) (hrx : ∀ s, sc_ok 0 s → ∀ i, i < 1 → rv0 cp co ep eo s i = x i) (hz : sv_ sz0 x 1 = 0) : gw_CI (S := S4) l yX9_find wsX9_find 18 449 0 0 D (mo_ty cI cB cS cJ cF cG) (zs tt) (sg_ws cI cF sa 1 6 7 2048 (.ref (sa 4)) (Wy) (Nm) ((sa 4, .inl (cJ, 128, .inr (.inl (fun j => lN (wd ((sf_ nx sz0 1 6 7 2048 E).1) j))))) :: fl0_ws cI sa (sc) nx) ++ cb_ws cI tt ca cp co ep eo) [.ref (sa 0), .ref (ca 0)] (fun r u => r = nI (fd_ nx sz0 1 7 6 (sf_ nx sz0 1 6 7 2048 E).1 x).1 ∧ (∀ j, j < (fd_ nx sz0 1 7 6 (sf_ nx sz0 1 6 7 2048 E).1 x).1 → u.2.2.1 j = (fd_ nx sz0 1 7 6 (sf_ nx sz0 1 6 7 2048 E).1 x).2.getD j 0) ∧ u.1 0 = sa 0 ∧ sc_ok 0 u.2.1) (fun u => sg_ws cI cF (u.1) 1 6 7 2048 (.ref ((u.1) 4)) (u.2.2.1) (u.2.2.2) (((u.1) 4, .inl (cJ, 128, .inr (.inl (fun j => lN (wd ((sf_ nx sz0 1 6 7 2048 E).1) j))))) :: fl0_ws cI (u.1) (u.2.1) nx) ++ cb_ws cI tt ca cp co ep eo) := by
  refine gw_CI.of (cc := cX9_find) (maxL := 4) (rt := .int) (zs_ok tt) (by decide) rfl (Nat.le_of_ble_eq_true rfl) ?_
  intro K C hkl hkn hkR hkD hmn ret
  have C : gw_x K cX9_find RX9 wsX9_find (mo_ty cI cB cS cJ cF cG) (zs tt) := C
  subst hkl hkD
  have hrc : (kR K).cells = 0 := by rw [hkR]
  have hrs : (kR K).slots = 0 := by rw [hkR]
  refine gw_aload_n C 0 dX9_find_0 rfl rfl ?_
  refine gw_aload_n C 1 dX9_find_1 rfl rfl ?_
  have esv : sv_ sz0 (rv0 cp co ep eo sc) 1 = sv_ sz0 x 1 := sv_congr sz0 1 (hrx sc hsc)
  have efd : fd_ nx sz0 1 7 6 (sf_ nx sz0 1 6 7 2048 E).1 x = (0, []) := by rw [fd_, if_pos hz]
  refine gw_allVI (n := 1) C (c_readStart01 (kl K) (kD K) cI cB cS cJ cF cG tt sa Wy Nm _ sc nx _ ca cp co ep eo hcp hep hsc) 0 rfl rfl rfl gX9_find_X9_readStart rfl (by decide +kernel) dX9_find_2 (by rw [hkR]; decide) (by rw [hkR]; decide) rfl (Nat.le_of_ble_eq_true rfl) rfl (fun rv v hv => ?_)
  subst hv
  rw [esv, hz]
  refine gw_if_ne C 10 dX9_find_5 (by decide) (by omega) (fun h122 => ?_) (fun h122 => ?_)
  ·
    exact absurd rfl h122
  ·
    refine gw_iconst C 0 dX9_find_8 (by decide) ?_
    exact ret (sa, sc_rd 0 cp sc, Wy, rN_ (rv0 cp co ep eo sc) Nm 1) dX9_find_9 rfl ⟨by rw [efd], fun j hj => by rw [efd] at hj; exact absurd hj (Nat.not_lt_zero _), rfl, sc_rd_ok 0 hcp hsc⟩ rfl (Nat.le_refl 0) (Nat.le_refl 0)
set_option maxHeartbeats 4000000 in
set_option maxRecDepth 100000 in
theorem c_findp0 (l : Launch) (D : va_G) (cI cB cS cJ cF cG : ClassId) (tt : Nat → Nat) (sa : Nat → Nat) (Wy Nm : Nat → Nat) (sc nx : Nat → Nat → Nat) (E : Nat) (ca : Nat → Nat) (cp co ep eo x : Nat → Nat) (hcp : ∀ j, j < 8 → cp j < 8) (hep : ∀ j, j < 12 → ep j < 12) (hsc : sc_ok 0 sc) (hrx : ∀ s, sc_ok 0 s → ∀ i, i < 1 → rv0 cp co ep eo s i = x i) (hxl : ∀ i, i < 1 → x i < sz0 i) (hnz : ¬ sv_ sz0 x 1 = 0) (hnx : nxP nx sz0 1) (hsf : sfP nx sz0 1 6 7 2048 128 E) : gw_CI (S := S4) l yX9_find wsX9_find 18 449 0 0 D (mo_ty cI cB cS cJ cF cG) (zs tt) (sg_ws cI cF sa 1 6 7 2048 (.ref (sa 4)) (Wy) (Nm) ((sa 4, .inl (cJ, 128, .inr (.inl (fun j => lN (wd ((sf_ nx sz0 1 6 7 2048 E).1) j))))) :: fl0_ws cI sa (sc) nx) ++ cb_ws cI tt ca cp co ep eo) [.ref (sa 0), .ref (ca 0)] (fun r u => r = nI (fd_ nx sz0 1 7 6 (sf_ nx sz0 1 6 7 2048 E).1 x).1 ∧ (∀ j, j < (fd_ nx sz0 1 7 6 (sf_ nx sz0 1 6 7 2048 E).1 x).1 → u.2.2.1 j = (fd_ nx sz0 1 7 6 (sf_ nx sz0 1 6 7 2048 E).1 x).2.getD j 0) ∧ u.1 0 = sa 0 ∧ sc_ok 0 u.2.1) (fun u => sg_ws cI cF (u.1) 1 6 7 2048 (.ref ((u.1) 4)) (u.2.2.1) (u.2.2.2) (((u.1) 4, .inl (cJ, 128, .inr (.inl (fun j => lN (wd ((sf_ nx sz0 1 6 7 2048 E).1) j))))) :: fl0_ws cI (u.1) (u.2.1) nx) ++ cb_ws cI tt ca cp co ep eo) := by
  refine gw_CI.of (cc := cX9_find) (maxL := 4) (rt := .int) (zs_ok tt) (by decide) rfl (Nat.le_of_ble_eq_true rfl) ?_
  intro K C hkl hkn hkR hkD hmn ret
  have C : gw_x K cX9_find RX9 wsX9_find (mo_ty cI cB cS cJ cF cG) (zs tt) := C
  subst hkl hkD
  have hrc : (kR K).cells = 0 := by rw [hkR]
  have hrs : (kR K).slots = 0 := by rw [hkR]
  refine gw_aload_n C 0 dX9_find_0 rfl rfl ?_
  refine gw_aload_n C 1 dX9_find_1 rfl rfl ?_
  have esv : sv_ sz0 (rv0 cp co ep eo sc) 1 = sv_ sz0 x 1 := sv_congr sz0 1 (hrx sc hsc)
  have hrow : ∀ i, i < 1 → rN_ (rv0 cp co ep eo sc) Nm 1 i = x i := fun i hi => by rw [rN_at _ Nm 1 i hi]; exact hrx sc hsc i hi
  have hsl0 := sv_lt0 x hxl
  refine gw_allVI (n := 1) C (c_readStart01 (kl K) (kD K) cI cB cS cJ cF cG tt sa Wy Nm _ sc nx _ ca cp co ep eo hcp hep hsc) 0 rfl rfl rfl gX9_find_X9_readStart rfl (by decide +kernel) dX9_find_2 (by rw [hkR]; decide) (by rw [hkR]; decide) rfl (Nat.le_of_ble_eq_true rfl) rfl (fun rv v hv => ?_)
  subst hv
  rw [esv]
  refine gw_if_ne C 10 dX9_find_5 (by decide) (by omega) (fun h123 => ?_) (fun h123 => ?_)
  ·
    refine gw_aload_n C 0 dX9_find_10 rfl rfl ?_
    refine gw_get C 0 6 in_X9_find_X9 dX9_find_11 lk_X9_find_36 rfl rfl (by decide) rfl rfl ?_
    refine gw_nonnull C 27 dX9_find_14 (by decide) ?_
    have hg : ∀ s, (sf_ nx sz0 1 6 7 2048 E).1 s < 16 := (hsf.2.2.2.1 E (Nat.le_refl _)).1
    refine gw_aload_n C 0 dX9_find_27 rfl rfl ?_
    refine gw_aload_n C 0 dX9_find_28 rfl rfl ?_
    refine gw_iconst C 0 dX9_find_29 (by decide) ?_
    refine gw_appVI (n := 1) C (c_stateAt01 (kl K) (kD K) cI cB cS cJ cF cG tt (sa) _ _ _ (sc_rd 0 cp sc) nx _ 0 (by decide)) 0 rfl rfl rfl gX9_find_X9_stateAt rfl (by decide +kernel) dX9_find_30 (by rw [hkR]; decide) (by rw [hrc, hrs]; decide) rfl (Nat.le_of_ble_eq_true rfl) rfl (fun rv v hv => ?_)
    subst hv
    rw [Nat.zero_mul, sa_sv sz0 _ 0 (y := x) 1 (fun i hi => by rw [Nat.zero_add]; exact hrow i hi)]
    have hsl := sv_lt0 x hxl
    refine gw_appVI (n := 1) C (c_ttg (kl K) (kD K) cI cB cS cJ cF cG tt (sa) 1 6 7 2048 _ _ 128 ((sf_ nx sz0 1 6 7 2048 E).1) (fl0_ws cI (sa) (sc_rd 0 cp sc) nx) hg (sv_ sz0 x 1) (by decide) (by omega)) 0 rfl rfl rfl gX9_find_X9_turnsToGoal rfl (by decide +kernel) dX9_find_33 (by rw [hkR]; decide) (by rw [hrc, hrs]; decide) rfl (Nat.le_of_ble_eq_true rfl) rfl (fun rv v hv => ?_)
    subst hv
    have htg : tg_ 7 ((sf_ nx sz0 1 6 7 2048 E).1) (sv_ sz0 x 1) ≤ 15 := by have := hg (sv_ sz0 x 1); rw [tg_]; split <;> omega
    have efd : fd_ nx sz0 1 7 6 ((sf_ nx sz0 1 6 7 2048 E).1) x = (fdL nx sz0 1 7 6 ((sf_ nx sz0 1 6 7 2048 E).1) x (16 - tg_ 7 ((sf_ nx sz0 1 6 7 2048 E).1) (sv_ sz0 x 1)) (tg_ 7 ((sf_ nx sz0 1 6 7 2048 E).1) (sv_ sz0 x 1))).getD (0, []) := by rw [fd_, if_neg hnz]
    refine gw_istore_n C (lv2 := [(2, iN (tg_ 7 ((sf_ nx sz0 1 6 7 2048 E).1) (sv_ sz0 x 1))), (0, .ref (sa 0)), (1, .ref (ca 0))]) dX9_find_36 rfl (by omega) rfl ?_
    refine gw_iload_n C 0 dX9_find_37 rfl rfl ?_
    refine gw_istore_n C (lv2 := [(3, iN (tg_ 7 ((sf_ nx sz0 1 6 7 2048 E).1) (sv_ sz0 x 1))), (2, iN (tg_ 7 ((sf_ nx sz0 1 6 7 2048 E).1) (sv_ sz0 x 1))), (0, .ref (sa 0)), (1, .ref (ca 0))]) dX9_find_38 rfl (by omega) rfl ?_
    generalize tg_ 7 ((sf_ nx sz0 1 6 7 2048 E).1) (sv_ sz0 x 1) = kn at htg efd ⊢
    have lp : ∀ (n b : Nat) (WW NN : Nat → Nat), b + n = 16 → (∀ i, i < 1 → NN i = x i) → fd_ nx sz0 1 7 6 ((sf_ nx sz0 1 6 7 2048 E).1) x = (fdL nx sz0 1 7 6 ((sf_ nx sz0 1 6 7 2048 E).1) x n b).getD (0, []) → gw_G K (sg_ws cI cF (sa) 1 6 7 2048 (.ref ((sa) 4)) (WW) (NN) (((sa) 4, .inl (cJ, 128, .inr (.inl (fun j => lN (wd ((sf_ nx sz0 1 6 7 2048 E).1) j))))) :: fl0_ws cI (sa) (sc_rd 0 cp sc) nx) ++ cb_ws cI tt ca cp co ep eo) 0 0 39 [(3, iN (b)), (0, .ref (sa 0))] [] := by
      intro n
      induction n with
      | zero =>
        intro b WW NN hb hr he
        refine gw_iload_n C 0 dX9_find_39 rfl rfl ?_
        refine gw_bipush C 15 dX9_find_40 (by decide) ?_
        refine gw_icmp_gt C 63 dX9_find_42 (by decide) (by omega) (by omega) (fun h124 => ?_) (fun h124 => ?_)
        ·
          refine gw_iconst C 0 dX9_find_63 (by decide) ?_
          rw [show fdL nx sz0 1 7 6 ((sf_ nx sz0 1 6 7 2048 E).1) x 0 b = none from rfl] at he
          exact ret (sa, sc_rd 0 cp sc, WW, NN) dX9_find_64 rfl ⟨by rw [he]; rfl, fun j hj => by rw [he] at hj; exact absurd hj (Nat.not_lt_zero _), rfl, sc_rd_ok 0 hcp hsc⟩ rfl (by decide) (by decide)
        ·
          exact absurd h124 (by omega)
      | succ n ih =>
        intro b WW NN hb hr he
        refine gw_iload_n C 0 dX9_find_39 rfl rfl ?_
        refine gw_bipush C 15 dX9_find_40 (by decide) ?_
        refine gw_icmp_gt C 63 dX9_find_42 (by decide) (by omega) (by omega) (fun h125 => ?_) (fun h125 => ?_)
        ·
          exact absurd h125 (by omega)
        ·
          refine gw_aload_n C 1 dX9_find_45 rfl rfl ?_
          refine gw_iconst C 0 dX9_find_46 (by decide) ?_
          refine gw_iload_n C 0 dX9_find_47 rfl rfl ?_
          refine gw_iconst C 4294967295 dX9_find_48 (by decide) ?_
          refine gw_appVI (n := 3) C (c_dive (kl K) (kD K) cI cB cS cJ cF cG tt (sa) 1 6 7 2048 128 sz0 nx (fl0_ws cI (sa) (sc_rd 0 cp sc) nx) ((sf_ nx sz0 1 6 7 2048 E).1) (fun Wy Nm d hd => c_stateAt01 (kl K) (kD K) cI cB cS cJ cF cG tt (sa) Wy Nm _ (sc_rd 0 cp sc) nx _ d hd) (fun Wy Nm d fc hd hf h => c_advance01 (kl K) (kD K) cI cB cS cJ cF cG tt (sa) Wy Nm _ (sc_rd 0 cp sc) nx _ d fc hd hf (h 0 (by decide))) (by decide) (by decide) (by decide) (by decide) sz0_pos hnx sv_lt0 hg b 0 4294967295 WW NN x (by omega) (Or.inr rfl) (fun i hi => by rw [Nat.zero_mul, Nat.zero_add]; exact hr i hi) hxl) 0 rfl rfl rfl gX9_find_X9_dive rfl (by decide +kernel) dX9_find_49 (by rw [hkR]; dsimp only; omega) (by rw [hkR]; dsimp only; omega) rfl (Nat.le_of_ble_eq_true rfl) rfl (fun ru u hu => ?_)
          obtain ⟨e1, e2, e3, e4⟩ := hu
          subst e1
          have hob := ob_2 (dv_ nx sz0 1 7 6 ((sf_ nx sz0 1 6 7 2048 E).1) b 4294967295 x)
          rw [Nat.zero_mul, Nat.zero_add] at e2
          rw [fdL] at he
          refine gw_if_eq C 57 dX9_find_52 (by decide) (by omega) (fun h126 => ?_) (fun h126 => ?_)
          ·
            rw [ob_0 h126] at he
            refine gw_iinc C (v := nI (b + 1)) (lv2 := [(3, iN (b + 1)), (0, .ref (sa 0))]) 0 dX9_find_57 rfl (nI_add _ _) (by omega) rfl ?_
            refine gw_goto C 39 dX9_find_60 (by decide) ?_
            refine gw_lv (lv2 := [(3, iN (b + 1)), (0, .ref (sa 0))]) [0, 1] rfl ?_
            exact ih (b + 1) u.1 u.2 (by omega) (fun i hi => by rw [e2 i hi]; exact hr i hi) he
          ·
            obtain ⟨wy, hwy⟩ := ob_1 h126
            rw [hwy] at he
            have he2 : fd_ nx sz0 1 7 6 ((sf_ nx sz0 1 6 7 2048 E).1) x = (b, wy) := he
            refine gw_iload_n C 0 dX9_find_55 rfl rfl ?_
            exact ret (sa, sc_rd 0 cp sc, u.1, u.2) dX9_find_56 rfl ⟨by rw [he2], fun j hj => by rw [he2] at hj ⊢; have := e4 wy hwy j hj; rw [Nat.zero_add] at this; exact this, rfl, sc_rd_ok 0 hcp hsc⟩ rfl (by decide) (by decide)
    refine gw_lv (lv2 := [(3, iN kn), (0, .ref (sa 0))]) [0, 2] rfl ?_
    exact lp (16 - kn) kn _ _ (by omega) hrow efd
  ·
    exact absurd h123 hnz
set_option maxHeartbeats 4000000 in
set_option maxRecDepth 100000 in
theorem c_findu0 (l : Launch) (D : va_G) (cI cB cS cJ cF cG : ClassId) (tt : Nat → Nat) (sa : Nat → Nat) (Wy Nm : Nat → Nat) (sc nx : Nat → Nat → Nat) (E : Nat) (ca : Nat → Nat) (cp co ep eo x : Nat → Nat) (hcp : ∀ j, j < 8 → cp j < 8) (hep : ∀ j, j < 12 → ep j < 12) (hsc : sc_ok 0 sc) (hrx : ∀ s, sc_ok 0 s → ∀ i, i < 1 → rv0 cp co ep eo s i = x i) (hxl : ∀ i, i < 1 → x i < sz0 i) (hnz : ¬ sv_ sz0 x 1 = 0) (hnx : nxP nx sz0 1) (hln : ln0 nx) (hsf : sfP nx sz0 1 6 7 2048 128 E) : gw_CI (S := S4) l yX9_find wsX9_find 18 449 6 14494 D (mo_ty cI cB cS cJ cF cG) (zs tt) (sg_ws cI cF sa 1 6 7 2048 (.null) (Wy) (Nm) (fu0_ws cI sa (sc)) ++ cb_ws cI tt ca cp co ep eo) [.ref (sa 0), .ref (ca 0)] (fun r u => r = nI (fd_ nx sz0 1 7 6 (sf_ nx sz0 1 6 7 2048 E).1 x).1 ∧ (∀ j, j < (fd_ nx sz0 1 7 6 (sf_ nx sz0 1 6 7 2048 E).1 x).1 → u.2.2.1 j = (fd_ nx sz0 1 7 6 (sf_ nx sz0 1 6 7 2048 E).1 x).2.getD j 0) ∧ u.1 0 = sa 0 ∧ sc_ok 0 u.2.1) (fun u => sg_ws cI cF (u.1) 1 6 7 2048 (.ref ((u.1) 4)) (u.2.2.1) (u.2.2.2) (((u.1) 4, .inl (cJ, 128, .inr (.inl (fun j => lN (wd ((sf_ nx sz0 1 6 7 2048 E).1) j))))) :: fl0_ws cI (u.1) (u.2.1) nx) ++ cb_ws cI tt ca cp co ep eo) := by
  refine gw_CI.of (cc := cX9_find) (maxL := 4) (rt := .int) (zs_ok tt) (by decide) rfl (Nat.le_of_ble_eq_true rfl) ?_
  intro K C hkl hkn hkR hkD hmn ret
  have C : gw_x K cX9_find RX9 wsX9_find (mo_ty cI cB cS cJ cF cG) (zs tt) := C
  subst hkl hkD
  have hrc : (kR K).cells = 6 := by rw [hkR]
  have hrs : (kR K).slots = 14494 := by rw [hkR]
  refine gw_aload_n C 0 dX9_find_0 rfl rfl ?_
  refine gw_aload_n C 1 dX9_find_1 rfl rfl ?_
  have esv : sv_ sz0 (rv0 cp co ep eo sc) 1 = sv_ sz0 x 1 := sv_congr sz0 1 (hrx sc hsc)
  have hsl0 := sv_lt0 x hxl
  have hg : ∀ s, (sf_ nx sz0 1 6 7 2048 E).1 s < 16 := (hsf.2.2.2.1 E (Nat.le_refl _)).1
  refine gw_allVI (n := 1) C (c_readStart00 (kl K) (kD K) cI cB cS cJ cF cG tt sa Wy Nm _ sc nx ca cp co ep eo hcp hep hsc) 0 rfl rfl rfl gX9_find_X9_readStart rfl (by decide +kernel) dX9_find_2 (by rw [hkR]; decide) (by rw [hrc, hrs]; decide) rfl (Nat.le_of_ble_eq_true rfl) rfl (fun rv v hv => ?_)
  subst hv
  rw [esv]
  refine gw_if_ne C 10 dX9_find_5 (by decide) (by omega) (fun h127 => ?_) (fun h127 => ?_)
  ·
    refine gw_aload_n C 0 dX9_find_10 rfl rfl ?_
    refine gw_get C 0 6 in_X9_find_X9 dX9_find_11 lk_X9_find_36 rfl rfl (by decide) rfl rfl ?_
    refine gw_nonnullN C dX9_find_14 ?_
    refine gw_aload_n C 0 dX9_find_17 rfl rfl ?_
    have hsc1 := sc_rd_ok 0 hcp hsc
    refine gw_appVV (n := 0) C (c_prepare0 (kl K) (kD K) cI cB cS cJ cF cG tt sa Wy (rN_ (rv0 cp co ep eo sc) Nm 1) (sc_rd 0 cp sc) nx E hsc1 hln hnx hsf) 0 rfl rfl rfl gX9_find_X9_prepare rfl (by decide +kernel) dX9_find_18 (by rw [hkR]; decide) (by rw [hrc, hrs]; decide) rfl (Nat.le_of_ble_eq_true rfl) rfl (fun u hu => ?_)
    obtain ⟨hu0, hu1, hu2⟩ := hu
    obtain ⟨sb, s2, N3⟩ := u
    dsimp only at hu0 hu1 hu2 ⊢
    rw [← hu0]
    refine gw_aload_n C 0 dX9_find_21 rfl rfl ?_
    refine gw_aload_n C 1 dX9_find_22 rfl rfl ?_
    have hrow : ∀ i, i < 1 → rN_ (rv0 cp co ep eo s2) N3 1 i = x i := fun i hi => by rw [rN_at _ N3 1 i hi]; exact hrx s2 hu2 i hi
    refine gw_allVI (n := 1) C (c_readStart01 (kl K) (kD K) cI cB cS cJ cF cG tt sb Wy N3 _ s2 nx _ ca cp co ep eo hcp hep hu2) 0 rfl rfl rfl gX9_find_X9_readStart rfl (by decide +kernel) dX9_find_23 (by rw [hkR]; decide) (by rw [hrc, hrs]; decide) rfl (Nat.le_of_ble_eq_true rfl) rfl (fun rv2 v2 hv2 => ?_)
    refine gw_pop C dX9_find_26 rfl ?_
    have hsc2 := sc_rd_ok 0 hcp hu2
    refine gw_aload_n C 0 dX9_find_27 rfl rfl ?_
    refine gw_aload_n C 0 dX9_find_28 rfl rfl ?_
    refine gw_iconst C 0 dX9_find_29 (by decide) ?_
    refine gw_appVI (n := 1) C (c_stateAt01 (kl K) (kD K) cI cB cS cJ cF cG tt (sb) _ _ _ (sc_rd 0 cp s2) nx _ 0 (by decide)) 0 rfl rfl rfl gX9_find_X9_stateAt rfl (by decide +kernel) dX9_find_30 (by rw [hkR]; decide) (by rw [hrc, hrs]; decide) rfl (Nat.le_of_ble_eq_true rfl) rfl (fun rv v hv => ?_)
    subst hv
    rw [Nat.zero_mul, sa_sv sz0 _ 0 (y := x) 1 (fun i hi => by rw [Nat.zero_add]; exact hrow i hi)]
    have hsl := sv_lt0 x hxl
    refine gw_appVI (n := 1) C (c_ttg (kl K) (kD K) cI cB cS cJ cF cG tt (sb) 1 6 7 2048 _ _ 128 ((sf_ nx sz0 1 6 7 2048 E).1) (fl0_ws cI (sb) (sc_rd 0 cp s2) nx) hg (sv_ sz0 x 1) (by decide) (by omega)) 0 rfl rfl rfl gX9_find_X9_turnsToGoal rfl (by decide +kernel) dX9_find_33 (by rw [hkR]; decide) (by rw [hrc, hrs]; decide) rfl (Nat.le_of_ble_eq_true rfl) rfl (fun rv v hv => ?_)
    subst hv
    have htg : tg_ 7 ((sf_ nx sz0 1 6 7 2048 E).1) (sv_ sz0 x 1) ≤ 15 := by have := hg (sv_ sz0 x 1); rw [tg_]; split <;> omega
    have efd : fd_ nx sz0 1 7 6 ((sf_ nx sz0 1 6 7 2048 E).1) x = (fdL nx sz0 1 7 6 ((sf_ nx sz0 1 6 7 2048 E).1) x (16 - tg_ 7 ((sf_ nx sz0 1 6 7 2048 E).1) (sv_ sz0 x 1)) (tg_ 7 ((sf_ nx sz0 1 6 7 2048 E).1) (sv_ sz0 x 1))).getD (0, []) := by rw [fd_, if_neg hnz]
    refine gw_istore_n C (lv2 := [(2, iN (tg_ 7 ((sf_ nx sz0 1 6 7 2048 E).1) (sv_ sz0 x 1))), (0, .ref (sb 0)), (1, .ref (ca 0))]) dX9_find_36 rfl (by omega) rfl ?_
    refine gw_iload_n C 0 dX9_find_37 rfl rfl ?_
    refine gw_istore_n C (lv2 := [(3, iN (tg_ 7 ((sf_ nx sz0 1 6 7 2048 E).1) (sv_ sz0 x 1))), (2, iN (tg_ 7 ((sf_ nx sz0 1 6 7 2048 E).1) (sv_ sz0 x 1))), (0, .ref (sb 0)), (1, .ref (ca 0))]) dX9_find_38 rfl (by omega) rfl ?_
    generalize tg_ 7 ((sf_ nx sz0 1 6 7 2048 E).1) (sv_ sz0 x 1) = kn at htg efd ⊢
    have lp : ∀ (n b : Nat) (WW NN : Nat → Nat), b + n = 16 → (∀ i, i < 1 → NN i = x i) → fd_ nx sz0 1 7 6 ((sf_ nx sz0 1 6 7 2048 E).1) x = (fdL nx sz0 1 7 6 ((sf_ nx sz0 1 6 7 2048 E).1) x n b).getD (0, []) → gw_G K (sg_ws cI cF (sb) 1 6 7 2048 (.ref ((sb) 4)) (WW) (NN) (((sb) 4, .inl (cJ, 128, .inr (.inl (fun j => lN (wd ((sf_ nx sz0 1 6 7 2048 E).1) j))))) :: fl0_ws cI (sb) (sc_rd 0 cp s2) nx) ++ cb_ws cI tt ca cp co ep eo) 6 14494 39 [(3, iN (b)), (0, .ref (sb 0))] [] := by
      intro n
      induction n with
      | zero =>
        intro b WW NN hb hr he
        refine gw_iload_n C 0 dX9_find_39 rfl rfl ?_
        refine gw_bipush C 15 dX9_find_40 (by decide) ?_
        refine gw_icmp_gt C 63 dX9_find_42 (by decide) (by omega) (by omega) (fun h128 => ?_) (fun h128 => ?_)
        ·
          refine gw_iconst C 0 dX9_find_63 (by decide) ?_
          rw [show fdL nx sz0 1 7 6 ((sf_ nx sz0 1 6 7 2048 E).1) x 0 b = none from rfl] at he
          exact ret (sb, sc_rd 0 cp s2, WW, NN) dX9_find_64 rfl ⟨by rw [he]; rfl, fun j hj => by rw [he] at hj; exact absurd hj (Nat.not_lt_zero _), hu0, hsc2⟩ rfl (by decide) (by decide)
        ·
          exact absurd h128 (by omega)
      | succ n ih =>
        intro b WW NN hb hr he
        refine gw_iload_n C 0 dX9_find_39 rfl rfl ?_
        refine gw_bipush C 15 dX9_find_40 (by decide) ?_
        refine gw_icmp_gt C 63 dX9_find_42 (by decide) (by omega) (by omega) (fun h129 => ?_) (fun h129 => ?_)
        ·
          exact absurd h129 (by omega)
        ·
          refine gw_aload_n C 1 dX9_find_45 rfl rfl ?_
          refine gw_iconst C 0 dX9_find_46 (by decide) ?_
          refine gw_iload_n C 0 dX9_find_47 rfl rfl ?_
          refine gw_iconst C 4294967295 dX9_find_48 (by decide) ?_
          refine gw_appVI (n := 3) C (c_dive (kl K) (kD K) cI cB cS cJ cF cG tt (sb) 1 6 7 2048 128 sz0 nx (fl0_ws cI (sb) (sc_rd 0 cp s2) nx) ((sf_ nx sz0 1 6 7 2048 E).1) (fun Wy Nm d hd => c_stateAt01 (kl K) (kD K) cI cB cS cJ cF cG tt (sb) Wy Nm _ (sc_rd 0 cp s2) nx _ d hd) (fun Wy Nm d fc hd hf h => c_advance01 (kl K) (kD K) cI cB cS cJ cF cG tt (sb) Wy Nm _ (sc_rd 0 cp s2) nx _ d fc hd hf (h 0 (by decide))) (by decide) (by decide) (by decide) (by decide) sz0_pos hnx sv_lt0 hg b 0 4294967295 WW NN x (by omega) (Or.inr rfl) (fun i hi => by rw [Nat.zero_mul, Nat.zero_add]; exact hr i hi) hxl) 0 rfl rfl rfl gX9_find_X9_dive rfl (by decide +kernel) dX9_find_49 (by rw [hkR]; dsimp only; omega) (by rw [hkR]; dsimp only; omega) rfl (Nat.le_of_ble_eq_true rfl) rfl (fun ru u hu => ?_)
          obtain ⟨e1, e2, e3, e4⟩ := hu
          subst e1
          have hob := ob_2 (dv_ nx sz0 1 7 6 ((sf_ nx sz0 1 6 7 2048 E).1) b 4294967295 x)
          rw [Nat.zero_mul, Nat.zero_add] at e2
          rw [fdL] at he
          refine gw_if_eq C 57 dX9_find_52 (by decide) (by omega) (fun h130 => ?_) (fun h130 => ?_)
          ·
            rw [ob_0 h130] at he
            refine gw_iinc C (v := nI (b + 1)) (lv2 := [(3, iN (b + 1)), (0, .ref (sb 0))]) 0 dX9_find_57 rfl (nI_add _ _) (by omega) rfl ?_
            refine gw_goto C 39 dX9_find_60 (by decide) ?_
            refine gw_lv (lv2 := [(3, iN (b + 1)), (0, .ref (sb 0))]) [0, 1] rfl ?_
            exact ih (b + 1) u.1 u.2 (by omega) (fun i hi => by rw [e2 i hi]; exact hr i hi) he
          ·
            obtain ⟨wy, hwy⟩ := ob_1 h130
            rw [hwy] at he
            have he2 : fd_ nx sz0 1 7 6 ((sf_ nx sz0 1 6 7 2048 E).1) x = (b, wy) := he
            refine gw_iload_n C 0 dX9_find_55 rfl rfl ?_
            exact ret (sb, sc_rd 0 cp s2, u.1, u.2) dX9_find_56 rfl ⟨by rw [he2], fun j hj => by rw [he2] at hj ⊢; have := e4 wy hwy j hj; rw [Nat.zero_add] at this; exact this, hu0, hsc2⟩ rfl (by decide) (by decide)
    refine gw_lv (lv2 := [(3, iN kn), (0, .ref (sb 0))]) [0, 2] rfl ?_
    exact lp (16 - kn) kn _ _ (by omega) hrow efd
  ·
    exact absurd h127 hnz
def ss0_ws (cI cJ cF : ClassId) (nx : Nat → Nat → Nat) (E : Nat) : Bool → S4 → va_W
  | false, u => sg_ws cI cF (u.1) 1 6 7 2048 (.null) (u.2.2.1) (u.2.2.2) (fu0_ws cI (u.1) (u.2.1))
  | true, u => sg_ws cI cF (u.1) 1 6 7 2048 (.ref ((u.1) 4)) (u.2.2.1) (u.2.2.2) (((u.1) 4, .inl (cJ, 128, .inr (.inl (fun j => lN (wd ((sf_ nx sz0 1 6 7 2048 E).1) j))))) :: fl0_ws cI (u.1) (u.2.1) nx)
theorem c_find0 (l : Launch) (D : va_G) (cI cB cS cJ cF cG : ClassId) (tt : Nat → Nat) (b : Bool) (u0 : S4) (nx : Nat → Nat → Nat) (E : Nat) (ca : Nat → Nat) (cp co ep eo x : Nat → Nat) (hcp : ∀ j, j < 8 → cp j < 8) (hep : ∀ j, j < 12 → ep j < 12) (hsc : sc_ok 0 u0.2.1) (hrx : ∀ s, sc_ok 0 s → ∀ i, i < 1 → rv0 cp co ep eo s i = x i) (hxl : ∀ i, i < 1 → x i < sz0 i) (hnx : nxP nx sz0 1) (hln : ln0 nx) (hsf : sfP nx sz0 1 6 7 2048 128 E) : gw_CI (S := S4) l yX9_find wsX9_find 18 449 (fdc b (sv_ sz0 x 1) 6) (fdc b (sv_ sz0 x 1) 14494) D (mo_ty cI cB cS cJ cF cG) (zs tt) (ss0_ws cI cJ cF nx E b u0 ++ cb_ws cI tt ca cp co ep eo) [.ref (u0.1 0), .ref (ca 0)] (fun r u => r = nI (fd_ nx sz0 1 7 6 (sf_ nx sz0 1 6 7 2048 E).1 x).1 ∧ (∀ j, j < (fd_ nx sz0 1 7 6 (sf_ nx sz0 1 6 7 2048 E).1 x).1 → u.2.2.1 j = (fd_ nx sz0 1 7 6 (sf_ nx sz0 1 6 7 2048 E).1 x).2.getD j 0) ∧ u.1 0 = u0.1 0 ∧ sc_ok 0 u.2.1) (fun u => ss0_ws cI cJ cF nx E (fdb b (sv_ sz0 x 1)) u ++ cb_ws cI tt ca cp co ep eo) := by
  obtain ⟨sa, sc, Wy, Nm⟩ := u0
  by_cases hz : sv_ sz0 x 1 = 0
  · cases b
    · rw [show fdc false (sv_ sz0 x 1) 6 = 0 from if_pos hz, show fdc false (sv_ sz0 x 1) 14494 = 0 from if_pos hz, show fdb false (sv_ sz0 x 1) = false from if_pos hz]
      exact c_findz0u l D cI cB cS cJ cF cG tt sa Wy Nm sc nx E ca cp co ep eo x hcp hep hsc hrx hz
    · rw [show fdc true (sv_ sz0 x 1) 6 = 0 from if_pos hz, show fdc true (sv_ sz0 x 1) 14494 = 0 from if_pos hz, show fdb true (sv_ sz0 x 1) = true from if_pos hz]
      exact c_findz0p l D cI cB cS cJ cF cG tt sa Wy Nm sc nx E ca cp co ep eo x hcp hep hsc hrx hz
  · cases b
    · rw [show fdc false (sv_ sz0 x 1) 6 = 6 from if_neg hz, show fdc false (sv_ sz0 x 1) 14494 = 14494 from if_neg hz, show fdb false (sv_ sz0 x 1) = true from if_neg hz]
      exact c_findu0 l D cI cB cS cJ cF cG tt sa Wy Nm sc nx E ca cp co ep eo x hcp hep hsc hrx hxl hz hnx hln hsf
    · rw [show fdc true (sv_ sz0 x 1) 6 = 0 from if_neg hz, show fdc true (sv_ sz0 x 1) 14494 = 0 from if_neg hz, show fdb true (sv_ sz0 x 1) = true from if_neg hz]
      exact c_findp0 l D cI cB cS cJ cF cG tt sa Wy Nm sc nx E ca cp co ep eo x hcp hep hsc hrx hxl hz hnx hsf
set_option maxHeartbeats 4000000 in
set_option maxRecDepth 100000 in
theorem c_findz1u (l : Launch) (D : va_G) (cI cB cS cJ cF cG : ClassId) (tt : Nat → Nat) (sa : Nat → Nat) (Wy Nm : Nat → Nat) (sc nx : Nat → Nat → Nat) (E : Nat) (ca : Nat → Nat) (cp co ep eo x : Nat → Nat) (hcp : ∀ j, j < 8 → cp j < 8) (hep : ∀ j, j < 12 → ep j < 12) (hsc : sc_ok 1 sc) (hrx : ∀ s, sc_ok 1 s → ∀ i, i < 2 → rv1 cp co ep eo s i = x i) (hz : sv_ sz1 x 2 = 0) : gw_CI (S := S4) l yX9_find wsX9_find 18 449 0 0 D (mo_ty cI cB cS cJ cF cG) (zs tt) (sg_ws cI cF sa 2 4 5 2048 (.null) (Wy) (Nm) (fu1_ws cI sa (sc)) ++ cb_ws cI tt ca cp co ep eo) [.ref (sa 0), .ref (ca 0)] (fun r u => r = nI (fd_ nx sz1 2 5 4 (sf_ nx sz1 2 4 5 2048 E).1 x).1 ∧ (∀ j, j < (fd_ nx sz1 2 5 4 (sf_ nx sz1 2 4 5 2048 E).1 x).1 → u.2.2.1 j = (fd_ nx sz1 2 5 4 (sf_ nx sz1 2 4 5 2048 E).1 x).2.getD j 0) ∧ u.1 0 = sa 0 ∧ sc_ok 1 u.2.1) (fun u => sg_ws cI cF (u.1) 2 4 5 2048 (.null) (u.2.2.1) (u.2.2.2) (fu1_ws cI (u.1) (u.2.1)) ++ cb_ws cI tt ca cp co ep eo) := by
  refine gw_CI.of (cc := cX9_find) (maxL := 4) (rt := .int) (zs_ok tt) (by decide) rfl (Nat.le_of_ble_eq_true rfl) ?_
  intro K C hkl hkn hkR hkD hmn ret
  have C : gw_x K cX9_find RX9 wsX9_find (mo_ty cI cB cS cJ cF cG) (zs tt) := C
  subst hkl hkD
  have hrc : (kR K).cells = 0 := by rw [hkR]
  have hrs : (kR K).slots = 0 := by rw [hkR]
  refine gw_aload_n C 0 dX9_find_0 rfl rfl ?_
  refine gw_aload_n C 1 dX9_find_1 rfl rfl ?_
  have esv : sv_ sz1 (rv1 cp co ep eo sc) 2 = sv_ sz1 x 2 := sv_congr sz1 2 (hrx sc hsc)
  have efd : fd_ nx sz1 2 5 4 (sf_ nx sz1 2 4 5 2048 E).1 x = (0, []) := by rw [fd_, if_pos hz]
  refine gw_allVI (n := 1) C (c_readStart10 (kl K) (kD K) cI cB cS cJ cF cG tt sa Wy Nm _ sc nx ca cp co ep eo hcp hep hsc) 0 rfl rfl rfl gX9_find_X9_readStart rfl (by decide +kernel) dX9_find_2 (by rw [hkR]; decide) (by rw [hkR]; decide) rfl (Nat.le_of_ble_eq_true rfl) rfl (fun rv v hv => ?_)
  subst hv
  rw [esv, hz]
  refine gw_if_ne C 10 dX9_find_5 (by decide) (by omega) (fun h131 => ?_) (fun h131 => ?_)
  ·
    exact absurd rfl h131
  ·
    refine gw_iconst C 0 dX9_find_8 (by decide) ?_
    exact ret (sa, sc_rd 1 cp sc, Wy, rN_ (rv1 cp co ep eo sc) Nm 2) dX9_find_9 rfl ⟨by rw [efd], fun j hj => by rw [efd] at hj; exact absurd hj (Nat.not_lt_zero _), rfl, sc_rd_ok 1 hcp hsc⟩ rfl (Nat.le_refl 0) (Nat.le_refl 0)
set_option maxHeartbeats 4000000 in
set_option maxRecDepth 100000 in
theorem c_findz1p (l : Launch) (D : va_G) (cI cB cS cJ cF cG : ClassId) (tt : Nat → Nat) (sa : Nat → Nat) (Wy Nm : Nat → Nat) (sc nx : Nat → Nat → Nat) (E : Nat) (ca : Nat → Nat) (cp co ep eo x : Nat → Nat) (hcp : ∀ j, j < 8 → cp j < 8) (hep : ∀ j, j < 12 → ep j < 12) (hsc : sc_ok 1 sc) (hrx : ∀ s, sc_ok 1 s → ∀ i, i < 2 → rv1 cp co ep eo s i = x i) (hz : sv_ sz1 x 2 = 0) : gw_CI (S := S4) l yX9_find wsX9_find 18 449 0 0 D (mo_ty cI cB cS cJ cF cG) (zs tt) (sg_ws cI cF sa 2 4 5 2048 (.ref (sa 4)) (Wy) (Nm) ((sa 4, .inl (cJ, 67661, .inr (.inl (fun j => lN (wd ((sf_ nx sz1 2 4 5 2048 E).1) j))))) :: fl1_ws cI sa (sc) nx) ++ cb_ws cI tt ca cp co ep eo) [.ref (sa 0), .ref (ca 0)] (fun r u => r = nI (fd_ nx sz1 2 5 4 (sf_ nx sz1 2 4 5 2048 E).1 x).1 ∧ (∀ j, j < (fd_ nx sz1 2 5 4 (sf_ nx sz1 2 4 5 2048 E).1 x).1 → u.2.2.1 j = (fd_ nx sz1 2 5 4 (sf_ nx sz1 2 4 5 2048 E).1 x).2.getD j 0) ∧ u.1 0 = sa 0 ∧ sc_ok 1 u.2.1) (fun u => sg_ws cI cF (u.1) 2 4 5 2048 (.ref ((u.1) 4)) (u.2.2.1) (u.2.2.2) (((u.1) 4, .inl (cJ, 67661, .inr (.inl (fun j => lN (wd ((sf_ nx sz1 2 4 5 2048 E).1) j))))) :: fl1_ws cI (u.1) (u.2.1) nx) ++ cb_ws cI tt ca cp co ep eo) := by
  refine gw_CI.of (cc := cX9_find) (maxL := 4) (rt := .int) (zs_ok tt) (by decide) rfl (Nat.le_of_ble_eq_true rfl) ?_
  intro K C hkl hkn hkR hkD hmn ret
  have C : gw_x K cX9_find RX9 wsX9_find (mo_ty cI cB cS cJ cF cG) (zs tt) := C
  subst hkl hkD
  have hrc : (kR K).cells = 0 := by rw [hkR]
  have hrs : (kR K).slots = 0 := by rw [hkR]
  refine gw_aload_n C 0 dX9_find_0 rfl rfl ?_
  refine gw_aload_n C 1 dX9_find_1 rfl rfl ?_
  have esv : sv_ sz1 (rv1 cp co ep eo sc) 2 = sv_ sz1 x 2 := sv_congr sz1 2 (hrx sc hsc)
  have efd : fd_ nx sz1 2 5 4 (sf_ nx sz1 2 4 5 2048 E).1 x = (0, []) := by rw [fd_, if_pos hz]
  refine gw_allVI (n := 1) C (c_readStart11 (kl K) (kD K) cI cB cS cJ cF cG tt sa Wy Nm _ sc nx _ ca cp co ep eo hcp hep hsc) 0 rfl rfl rfl gX9_find_X9_readStart rfl (by decide +kernel) dX9_find_2 (by rw [hkR]; decide) (by rw [hkR]; decide) rfl (Nat.le_of_ble_eq_true rfl) rfl (fun rv v hv => ?_)
  subst hv
  rw [esv, hz]
  refine gw_if_ne C 10 dX9_find_5 (by decide) (by omega) (fun h132 => ?_) (fun h132 => ?_)
  ·
    exact absurd rfl h132
  ·
    refine gw_iconst C 0 dX9_find_8 (by decide) ?_
    exact ret (sa, sc_rd 1 cp sc, Wy, rN_ (rv1 cp co ep eo sc) Nm 2) dX9_find_9 rfl ⟨by rw [efd], fun j hj => by rw [efd] at hj; exact absurd hj (Nat.not_lt_zero _), rfl, sc_rd_ok 1 hcp hsc⟩ rfl (Nat.le_refl 0) (Nat.le_refl 0)
set_option maxHeartbeats 4000000 in
set_option maxRecDepth 100000 in
theorem c_findp1 (l : Launch) (D : va_G) (cI cB cS cJ cF cG : ClassId) (tt : Nat → Nat) (sa : Nat → Nat) (Wy Nm : Nat → Nat) (sc nx : Nat → Nat → Nat) (E : Nat) (ca : Nat → Nat) (cp co ep eo x : Nat → Nat) (hcp : ∀ j, j < 8 → cp j < 8) (hep : ∀ j, j < 12 → ep j < 12) (hsc : sc_ok 1 sc) (hrx : ∀ s, sc_ok 1 s → ∀ i, i < 2 → rv1 cp co ep eo s i = x i) (hxl : ∀ i, i < 2 → x i < sz1 i) (hnz : ¬ sv_ sz1 x 2 = 0) (hnx : nxP nx sz1 2) (hsf : sfP nx sz1 2 4 5 2048 67661 E) : gw_CI (S := S4) l yX9_find wsX9_find 18 449 0 0 D (mo_ty cI cB cS cJ cF cG) (zs tt) (sg_ws cI cF sa 2 4 5 2048 (.ref (sa 4)) (Wy) (Nm) ((sa 4, .inl (cJ, 67661, .inr (.inl (fun j => lN (wd ((sf_ nx sz1 2 4 5 2048 E).1) j))))) :: fl1_ws cI sa (sc) nx) ++ cb_ws cI tt ca cp co ep eo) [.ref (sa 0), .ref (ca 0)] (fun r u => r = nI (fd_ nx sz1 2 5 4 (sf_ nx sz1 2 4 5 2048 E).1 x).1 ∧ (∀ j, j < (fd_ nx sz1 2 5 4 (sf_ nx sz1 2 4 5 2048 E).1 x).1 → u.2.2.1 j = (fd_ nx sz1 2 5 4 (sf_ nx sz1 2 4 5 2048 E).1 x).2.getD j 0) ∧ u.1 0 = sa 0 ∧ sc_ok 1 u.2.1) (fun u => sg_ws cI cF (u.1) 2 4 5 2048 (.ref ((u.1) 4)) (u.2.2.1) (u.2.2.2) (((u.1) 4, .inl (cJ, 67661, .inr (.inl (fun j => lN (wd ((sf_ nx sz1 2 4 5 2048 E).1) j))))) :: fl1_ws cI (u.1) (u.2.1) nx) ++ cb_ws cI tt ca cp co ep eo) := by
  refine gw_CI.of (cc := cX9_find) (maxL := 4) (rt := .int) (zs_ok tt) (by decide) rfl (Nat.le_of_ble_eq_true rfl) ?_
  intro K C hkl hkn hkR hkD hmn ret
  have C : gw_x K cX9_find RX9 wsX9_find (mo_ty cI cB cS cJ cF cG) (zs tt) := C
  subst hkl hkD
  have hrc : (kR K).cells = 0 := by rw [hkR]
  have hrs : (kR K).slots = 0 := by rw [hkR]
  refine gw_aload_n C 0 dX9_find_0 rfl rfl ?_
  refine gw_aload_n C 1 dX9_find_1 rfl rfl ?_
  have esv : sv_ sz1 (rv1 cp co ep eo sc) 2 = sv_ sz1 x 2 := sv_congr sz1 2 (hrx sc hsc)
  have hrow : ∀ i, i < 2 → rN_ (rv1 cp co ep eo sc) Nm 2 i = x i := fun i hi => by rw [rN_at _ Nm 2 i hi]; exact hrx sc hsc i hi
  have hsl0 := sv_lt1 x hxl
  refine gw_allVI (n := 1) C (c_readStart11 (kl K) (kD K) cI cB cS cJ cF cG tt sa Wy Nm _ sc nx _ ca cp co ep eo hcp hep hsc) 0 rfl rfl rfl gX9_find_X9_readStart rfl (by decide +kernel) dX9_find_2 (by rw [hkR]; decide) (by rw [hkR]; decide) rfl (Nat.le_of_ble_eq_true rfl) rfl (fun rv v hv => ?_)
  subst hv
  rw [esv]
  refine gw_if_ne C 10 dX9_find_5 (by decide) (by omega) (fun h133 => ?_) (fun h133 => ?_)
  ·
    refine gw_aload_n C 0 dX9_find_10 rfl rfl ?_
    refine gw_get C 0 6 in_X9_find_X9 dX9_find_11 lk_X9_find_36 rfl rfl (by decide) rfl rfl ?_
    refine gw_nonnull C 27 dX9_find_14 (by decide) ?_
    have hg : ∀ s, (sf_ nx sz1 2 4 5 2048 E).1 s < 16 := (hsf.2.2.2.1 E (Nat.le_refl _)).1
    refine gw_aload_n C 0 dX9_find_27 rfl rfl ?_
    refine gw_aload_n C 0 dX9_find_28 rfl rfl ?_
    refine gw_iconst C 0 dX9_find_29 (by decide) ?_
    refine gw_appVI (n := 1) C (c_stateAt11 (kl K) (kD K) cI cB cS cJ cF cG tt (sa) _ _ _ (sc_rd 1 cp sc) nx _ 0 (by decide)) 0 rfl rfl rfl gX9_find_X9_stateAt rfl (by decide +kernel) dX9_find_30 (by rw [hkR]; decide) (by rw [hrc, hrs]; decide) rfl (Nat.le_of_ble_eq_true rfl) rfl (fun rv v hv => ?_)
    subst hv
    rw [Nat.zero_mul, sa_sv sz1 _ 0 (y := x) 2 (fun i hi => by rw [Nat.zero_add]; exact hrow i hi)]
    have hsl := sv_lt1 x hxl
    refine gw_appVI (n := 1) C (c_ttg (kl K) (kD K) cI cB cS cJ cF cG tt (sa) 2 4 5 2048 _ _ 67661 ((sf_ nx sz1 2 4 5 2048 E).1) (fl1_ws cI (sa) (sc_rd 1 cp sc) nx) hg (sv_ sz1 x 2) (by decide) (by omega)) 0 rfl rfl rfl gX9_find_X9_turnsToGoal rfl (by decide +kernel) dX9_find_33 (by rw [hkR]; decide) (by rw [hrc, hrs]; decide) rfl (Nat.le_of_ble_eq_true rfl) rfl (fun rv v hv => ?_)
    subst hv
    have htg : tg_ 5 ((sf_ nx sz1 2 4 5 2048 E).1) (sv_ sz1 x 2) ≤ 15 := by have := hg (sv_ sz1 x 2); rw [tg_]; split <;> omega
    have efd : fd_ nx sz1 2 5 4 ((sf_ nx sz1 2 4 5 2048 E).1) x = (fdL nx sz1 2 5 4 ((sf_ nx sz1 2 4 5 2048 E).1) x (16 - tg_ 5 ((sf_ nx sz1 2 4 5 2048 E).1) (sv_ sz1 x 2)) (tg_ 5 ((sf_ nx sz1 2 4 5 2048 E).1) (sv_ sz1 x 2))).getD (0, []) := by rw [fd_, if_neg hnz]
    refine gw_istore_n C (lv2 := [(2, iN (tg_ 5 ((sf_ nx sz1 2 4 5 2048 E).1) (sv_ sz1 x 2))), (0, .ref (sa 0)), (1, .ref (ca 0))]) dX9_find_36 rfl (by omega) rfl ?_
    refine gw_iload_n C 0 dX9_find_37 rfl rfl ?_
    refine gw_istore_n C (lv2 := [(3, iN (tg_ 5 ((sf_ nx sz1 2 4 5 2048 E).1) (sv_ sz1 x 2))), (2, iN (tg_ 5 ((sf_ nx sz1 2 4 5 2048 E).1) (sv_ sz1 x 2))), (0, .ref (sa 0)), (1, .ref (ca 0))]) dX9_find_38 rfl (by omega) rfl ?_
    generalize tg_ 5 ((sf_ nx sz1 2 4 5 2048 E).1) (sv_ sz1 x 2) = kn at htg efd ⊢
    have lp : ∀ (n b : Nat) (WW NN : Nat → Nat), b + n = 16 → (∀ i, i < 2 → NN i = x i) → fd_ nx sz1 2 5 4 ((sf_ nx sz1 2 4 5 2048 E).1) x = (fdL nx sz1 2 5 4 ((sf_ nx sz1 2 4 5 2048 E).1) x n b).getD (0, []) → gw_G K (sg_ws cI cF (sa) 2 4 5 2048 (.ref ((sa) 4)) (WW) (NN) (((sa) 4, .inl (cJ, 67661, .inr (.inl (fun j => lN (wd ((sf_ nx sz1 2 4 5 2048 E).1) j))))) :: fl1_ws cI (sa) (sc_rd 1 cp sc) nx) ++ cb_ws cI tt ca cp co ep eo) 0 0 39 [(3, iN (b)), (0, .ref (sa 0))] [] := by
      intro n
      induction n with
      | zero =>
        intro b WW NN hb hr he
        refine gw_iload_n C 0 dX9_find_39 rfl rfl ?_
        refine gw_bipush C 15 dX9_find_40 (by decide) ?_
        refine gw_icmp_gt C 63 dX9_find_42 (by decide) (by omega) (by omega) (fun h134 => ?_) (fun h134 => ?_)
        ·
          refine gw_iconst C 0 dX9_find_63 (by decide) ?_
          rw [show fdL nx sz1 2 5 4 ((sf_ nx sz1 2 4 5 2048 E).1) x 0 b = none from rfl] at he
          exact ret (sa, sc_rd 1 cp sc, WW, NN) dX9_find_64 rfl ⟨by rw [he]; rfl, fun j hj => by rw [he] at hj; exact absurd hj (Nat.not_lt_zero _), rfl, sc_rd_ok 1 hcp hsc⟩ rfl (by decide) (by decide)
        ·
          exact absurd h134 (by omega)
      | succ n ih =>
        intro b WW NN hb hr he
        refine gw_iload_n C 0 dX9_find_39 rfl rfl ?_
        refine gw_bipush C 15 dX9_find_40 (by decide) ?_
        refine gw_icmp_gt C 63 dX9_find_42 (by decide) (by omega) (by omega) (fun h135 => ?_) (fun h135 => ?_)
        ·
          exact absurd h135 (by omega)
        ·
          refine gw_aload_n C 1 dX9_find_45 rfl rfl ?_
          refine gw_iconst C 0 dX9_find_46 (by decide) ?_
          refine gw_iload_n C 0 dX9_find_47 rfl rfl ?_
          refine gw_iconst C 4294967295 dX9_find_48 (by decide) ?_
          refine gw_appVI (n := 3) C (c_dive (kl K) (kD K) cI cB cS cJ cF cG tt (sa) 2 4 5 2048 67661 sz1 nx (fl1_ws cI (sa) (sc_rd 1 cp sc) nx) ((sf_ nx sz1 2 4 5 2048 E).1) (fun Wy Nm d hd => c_stateAt11 (kl K) (kD K) cI cB cS cJ cF cG tt (sa) Wy Nm _ (sc_rd 1 cp sc) nx _ d hd) (fun Wy Nm d fc hd hf h => c_advance11 (kl K) (kD K) cI cB cS cJ cF cG tt (sa) Wy Nm _ (sc_rd 1 cp sc) nx _ d fc hd hf (h 0 (by decide)) (h 1 (by decide))) (by decide) (by decide) (by decide) (by decide) sz1_pos hnx sv_lt1 hg b 0 4294967295 WW NN x (by omega) (Or.inr rfl) (fun i hi => by rw [Nat.zero_mul, Nat.zero_add]; exact hr i hi) hxl) 0 rfl rfl rfl gX9_find_X9_dive rfl (by decide +kernel) dX9_find_49 (by rw [hkR]; dsimp only; omega) (by rw [hkR]; dsimp only; omega) rfl (Nat.le_of_ble_eq_true rfl) rfl (fun ru u hu => ?_)
          obtain ⟨e1, e2, e3, e4⟩ := hu
          subst e1
          have hob := ob_2 (dv_ nx sz1 2 5 4 ((sf_ nx sz1 2 4 5 2048 E).1) b 4294967295 x)
          rw [Nat.zero_mul, Nat.zero_add] at e2
          rw [fdL] at he
          refine gw_if_eq C 57 dX9_find_52 (by decide) (by omega) (fun h136 => ?_) (fun h136 => ?_)
          ·
            rw [ob_0 h136] at he
            refine gw_iinc C (v := nI (b + 1)) (lv2 := [(3, iN (b + 1)), (0, .ref (sa 0))]) 0 dX9_find_57 rfl (nI_add _ _) (by omega) rfl ?_
            refine gw_goto C 39 dX9_find_60 (by decide) ?_
            refine gw_lv (lv2 := [(3, iN (b + 1)), (0, .ref (sa 0))]) [0, 1] rfl ?_
            exact ih (b + 1) u.1 u.2 (by omega) (fun i hi => by rw [e2 i hi]; exact hr i hi) he
          ·
            obtain ⟨wy, hwy⟩ := ob_1 h136
            rw [hwy] at he
            have he2 : fd_ nx sz1 2 5 4 ((sf_ nx sz1 2 4 5 2048 E).1) x = (b, wy) := he
            refine gw_iload_n C 0 dX9_find_55 rfl rfl ?_
            exact ret (sa, sc_rd 1 cp sc, u.1, u.2) dX9_find_56 rfl ⟨by rw [he2], fun j hj => by rw [he2] at hj ⊢; have := e4 wy hwy j hj; rw [Nat.zero_add] at this; exact this, rfl, sc_rd_ok 1 hcp hsc⟩ rfl (by decide) (by decide)
    refine gw_lv (lv2 := [(3, iN kn), (0, .ref (sa 0))]) [0, 2] rfl ?_
    exact lp (16 - kn) kn _ _ (by omega) hrow efd
  ·
    exact absurd h133 hnz
set_option maxHeartbeats 4000000 in
set_option maxRecDepth 100000 in
theorem c_findu1 (l : Launch) (D : va_G) (cI cB cS cJ cF cG : ClassId) (tt : Nat → Nat) (sa : Nat → Nat) (Wy Nm : Nat → Nat) (sc nx : Nat → Nat → Nat) (E : Nat) (ca : Nat → Nat) (cp co ep eo x : Nat → Nat) (hcp : ∀ j, j < 8 → cp j < 8) (hep : ∀ j, j < 12 → ep j < 12) (hsc : sc_ok 1 sc) (hrx : ∀ s, sc_ok 1 s → ∀ i, i < 2 → rv1 cp co ep eo s i = x i) (hxl : ∀ i, i < 2 → x i < sz1 i) (hnz : ¬ sv_ sz1 x 2 = 0) (hnx : nxP nx sz1 2) (hln : ln1 nx) (hsf : sfP nx sz1 2 4 5 2048 67661 E) : gw_CI (S := S4) l yX9_find wsX9_find 18 449 10 85853 D (mo_ty cI cB cS cJ cF cG) (zs tt) (sg_ws cI cF sa 2 4 5 2048 (.null) (Wy) (Nm) (fu1_ws cI sa (sc)) ++ cb_ws cI tt ca cp co ep eo) [.ref (sa 0), .ref (ca 0)] (fun r u => r = nI (fd_ nx sz1 2 5 4 (sf_ nx sz1 2 4 5 2048 E).1 x).1 ∧ (∀ j, j < (fd_ nx sz1 2 5 4 (sf_ nx sz1 2 4 5 2048 E).1 x).1 → u.2.2.1 j = (fd_ nx sz1 2 5 4 (sf_ nx sz1 2 4 5 2048 E).1 x).2.getD j 0) ∧ u.1 0 = sa 0 ∧ sc_ok 1 u.2.1) (fun u => sg_ws cI cF (u.1) 2 4 5 2048 (.ref ((u.1) 4)) (u.2.2.1) (u.2.2.2) (((u.1) 4, .inl (cJ, 67661, .inr (.inl (fun j => lN (wd ((sf_ nx sz1 2 4 5 2048 E).1) j))))) :: fl1_ws cI (u.1) (u.2.1) nx) ++ cb_ws cI tt ca cp co ep eo) := by
  refine gw_CI.of (cc := cX9_find) (maxL := 4) (rt := .int) (zs_ok tt) (by decide) rfl (Nat.le_of_ble_eq_true rfl) ?_
  intro K C hkl hkn hkR hkD hmn ret
  have C : gw_x K cX9_find RX9 wsX9_find (mo_ty cI cB cS cJ cF cG) (zs tt) := C
  subst hkl hkD
  have hrc : (kR K).cells = 10 := by rw [hkR]
  have hrs : (kR K).slots = 85853 := by rw [hkR]
  refine gw_aload_n C 0 dX9_find_0 rfl rfl ?_
  refine gw_aload_n C 1 dX9_find_1 rfl rfl ?_
  have esv : sv_ sz1 (rv1 cp co ep eo sc) 2 = sv_ sz1 x 2 := sv_congr sz1 2 (hrx sc hsc)
  have hsl0 := sv_lt1 x hxl
  have hg : ∀ s, (sf_ nx sz1 2 4 5 2048 E).1 s < 16 := (hsf.2.2.2.1 E (Nat.le_refl _)).1
  refine gw_allVI (n := 1) C (c_readStart10 (kl K) (kD K) cI cB cS cJ cF cG tt sa Wy Nm _ sc nx ca cp co ep eo hcp hep hsc) 0 rfl rfl rfl gX9_find_X9_readStart rfl (by decide +kernel) dX9_find_2 (by rw [hkR]; decide) (by rw [hrc, hrs]; decide) rfl (Nat.le_of_ble_eq_true rfl) rfl (fun rv v hv => ?_)
  subst hv
  rw [esv]
  refine gw_if_ne C 10 dX9_find_5 (by decide) (by omega) (fun h137 => ?_) (fun h137 => ?_)
  ·
    refine gw_aload_n C 0 dX9_find_10 rfl rfl ?_
    refine gw_get C 0 6 in_X9_find_X9 dX9_find_11 lk_X9_find_36 rfl rfl (by decide) rfl rfl ?_
    refine gw_nonnullN C dX9_find_14 ?_
    refine gw_aload_n C 0 dX9_find_17 rfl rfl ?_
    have hsc1 := sc_rd_ok 1 hcp hsc
    refine gw_appVV (n := 0) C (c_prepare1 (kl K) (kD K) cI cB cS cJ cF cG tt sa Wy (rN_ (rv1 cp co ep eo sc) Nm 2) (sc_rd 1 cp sc) nx E hsc1 hln hnx hsf) 0 rfl rfl rfl gX9_find_X9_prepare rfl (by decide +kernel) dX9_find_18 (by rw [hkR]; decide) (by rw [hrc, hrs]; decide) rfl (Nat.le_of_ble_eq_true rfl) rfl (fun u hu => ?_)
    obtain ⟨hu0, hu1, hu2⟩ := hu
    obtain ⟨sb, s2, N3⟩ := u
    dsimp only at hu0 hu1 hu2 ⊢
    rw [← hu0]
    refine gw_aload_n C 0 dX9_find_21 rfl rfl ?_
    refine gw_aload_n C 1 dX9_find_22 rfl rfl ?_
    have hrow : ∀ i, i < 2 → rN_ (rv1 cp co ep eo s2) N3 2 i = x i := fun i hi => by rw [rN_at _ N3 2 i hi]; exact hrx s2 hu2 i hi
    refine gw_allVI (n := 1) C (c_readStart11 (kl K) (kD K) cI cB cS cJ cF cG tt sb Wy N3 _ s2 nx _ ca cp co ep eo hcp hep hu2) 0 rfl rfl rfl gX9_find_X9_readStart rfl (by decide +kernel) dX9_find_23 (by rw [hkR]; decide) (by rw [hrc, hrs]; decide) rfl (Nat.le_of_ble_eq_true rfl) rfl (fun rv2 v2 hv2 => ?_)
    refine gw_pop C dX9_find_26 rfl ?_
    have hsc2 := sc_rd_ok 1 hcp hu2
    refine gw_aload_n C 0 dX9_find_27 rfl rfl ?_
    refine gw_aload_n C 0 dX9_find_28 rfl rfl ?_
    refine gw_iconst C 0 dX9_find_29 (by decide) ?_
    refine gw_appVI (n := 1) C (c_stateAt11 (kl K) (kD K) cI cB cS cJ cF cG tt (sb) _ _ _ (sc_rd 1 cp s2) nx _ 0 (by decide)) 0 rfl rfl rfl gX9_find_X9_stateAt rfl (by decide +kernel) dX9_find_30 (by rw [hkR]; decide) (by rw [hrc, hrs]; decide) rfl (Nat.le_of_ble_eq_true rfl) rfl (fun rv v hv => ?_)
    subst hv
    rw [Nat.zero_mul, sa_sv sz1 _ 0 (y := x) 2 (fun i hi => by rw [Nat.zero_add]; exact hrow i hi)]
    have hsl := sv_lt1 x hxl
    refine gw_appVI (n := 1) C (c_ttg (kl K) (kD K) cI cB cS cJ cF cG tt (sb) 2 4 5 2048 _ _ 67661 ((sf_ nx sz1 2 4 5 2048 E).1) (fl1_ws cI (sb) (sc_rd 1 cp s2) nx) hg (sv_ sz1 x 2) (by decide) (by omega)) 0 rfl rfl rfl gX9_find_X9_turnsToGoal rfl (by decide +kernel) dX9_find_33 (by rw [hkR]; decide) (by rw [hrc, hrs]; decide) rfl (Nat.le_of_ble_eq_true rfl) rfl (fun rv v hv => ?_)
    subst hv
    have htg : tg_ 5 ((sf_ nx sz1 2 4 5 2048 E).1) (sv_ sz1 x 2) ≤ 15 := by have := hg (sv_ sz1 x 2); rw [tg_]; split <;> omega
    have efd : fd_ nx sz1 2 5 4 ((sf_ nx sz1 2 4 5 2048 E).1) x = (fdL nx sz1 2 5 4 ((sf_ nx sz1 2 4 5 2048 E).1) x (16 - tg_ 5 ((sf_ nx sz1 2 4 5 2048 E).1) (sv_ sz1 x 2)) (tg_ 5 ((sf_ nx sz1 2 4 5 2048 E).1) (sv_ sz1 x 2))).getD (0, []) := by rw [fd_, if_neg hnz]
    refine gw_istore_n C (lv2 := [(2, iN (tg_ 5 ((sf_ nx sz1 2 4 5 2048 E).1) (sv_ sz1 x 2))), (0, .ref (sb 0)), (1, .ref (ca 0))]) dX9_find_36 rfl (by omega) rfl ?_
    refine gw_iload_n C 0 dX9_find_37 rfl rfl ?_
    refine gw_istore_n C (lv2 := [(3, iN (tg_ 5 ((sf_ nx sz1 2 4 5 2048 E).1) (sv_ sz1 x 2))), (2, iN (tg_ 5 ((sf_ nx sz1 2 4 5 2048 E).1) (sv_ sz1 x 2))), (0, .ref (sb 0)), (1, .ref (ca 0))]) dX9_find_38 rfl (by omega) rfl ?_
    generalize tg_ 5 ((sf_ nx sz1 2 4 5 2048 E).1) (sv_ sz1 x 2) = kn at htg efd ⊢
    have lp : ∀ (n b : Nat) (WW NN : Nat → Nat), b + n = 16 → (∀ i, i < 2 → NN i = x i) → fd_ nx sz1 2 5 4 ((sf_ nx sz1 2 4 5 2048 E).1) x = (fdL nx sz1 2 5 4 ((sf_ nx sz1 2 4 5 2048 E).1) x n b).getD (0, []) → gw_G K (sg_ws cI cF (sb) 2 4 5 2048 (.ref ((sb) 4)) (WW) (NN) (((sb) 4, .inl (cJ, 67661, .inr (.inl (fun j => lN (wd ((sf_ nx sz1 2 4 5 2048 E).1) j))))) :: fl1_ws cI (sb) (sc_rd 1 cp s2) nx) ++ cb_ws cI tt ca cp co ep eo) 10 85853 39 [(3, iN (b)), (0, .ref (sb 0))] [] := by
      intro n
      induction n with
      | zero =>
        intro b WW NN hb hr he
        refine gw_iload_n C 0 dX9_find_39 rfl rfl ?_
        refine gw_bipush C 15 dX9_find_40 (by decide) ?_
        refine gw_icmp_gt C 63 dX9_find_42 (by decide) (by omega) (by omega) (fun h138 => ?_) (fun h138 => ?_)
        ·
          refine gw_iconst C 0 dX9_find_63 (by decide) ?_
          rw [show fdL nx sz1 2 5 4 ((sf_ nx sz1 2 4 5 2048 E).1) x 0 b = none from rfl] at he
          exact ret (sb, sc_rd 1 cp s2, WW, NN) dX9_find_64 rfl ⟨by rw [he]; rfl, fun j hj => by rw [he] at hj; exact absurd hj (Nat.not_lt_zero _), hu0, hsc2⟩ rfl (by decide) (by decide)
        ·
          exact absurd h138 (by omega)
      | succ n ih =>
        intro b WW NN hb hr he
        refine gw_iload_n C 0 dX9_find_39 rfl rfl ?_
        refine gw_bipush C 15 dX9_find_40 (by decide) ?_
        refine gw_icmp_gt C 63 dX9_find_42 (by decide) (by omega) (by omega) (fun h139 => ?_) (fun h139 => ?_)
        ·
          exact absurd h139 (by omega)
        ·
          refine gw_aload_n C 1 dX9_find_45 rfl rfl ?_
          refine gw_iconst C 0 dX9_find_46 (by decide) ?_
          refine gw_iload_n C 0 dX9_find_47 rfl rfl ?_
          refine gw_iconst C 4294967295 dX9_find_48 (by decide) ?_
          refine gw_appVI (n := 3) C (c_dive (kl K) (kD K) cI cB cS cJ cF cG tt (sb) 2 4 5 2048 67661 sz1 nx (fl1_ws cI (sb) (sc_rd 1 cp s2) nx) ((sf_ nx sz1 2 4 5 2048 E).1) (fun Wy Nm d hd => c_stateAt11 (kl K) (kD K) cI cB cS cJ cF cG tt (sb) Wy Nm _ (sc_rd 1 cp s2) nx _ d hd) (fun Wy Nm d fc hd hf h => c_advance11 (kl K) (kD K) cI cB cS cJ cF cG tt (sb) Wy Nm _ (sc_rd 1 cp s2) nx _ d fc hd hf (h 0 (by decide)) (h 1 (by decide))) (by decide) (by decide) (by decide) (by decide) sz1_pos hnx sv_lt1 hg b 0 4294967295 WW NN x (by omega) (Or.inr rfl) (fun i hi => by rw [Nat.zero_mul, Nat.zero_add]; exact hr i hi) hxl) 0 rfl rfl rfl gX9_find_X9_dive rfl (by decide +kernel) dX9_find_49 (by rw [hkR]; dsimp only; omega) (by rw [hkR]; dsimp only; omega) rfl (Nat.le_of_ble_eq_true rfl) rfl (fun ru u hu => ?_)
          obtain ⟨e1, e2, e3, e4⟩ := hu
          subst e1
          have hob := ob_2 (dv_ nx sz1 2 5 4 ((sf_ nx sz1 2 4 5 2048 E).1) b 4294967295 x)
          rw [Nat.zero_mul, Nat.zero_add] at e2
          rw [fdL] at he
          refine gw_if_eq C 57 dX9_find_52 (by decide) (by omega) (fun h140 => ?_) (fun h140 => ?_)
          ·
            rw [ob_0 h140] at he
            refine gw_iinc C (v := nI (b + 1)) (lv2 := [(3, iN (b + 1)), (0, .ref (sb 0))]) 0 dX9_find_57 rfl (nI_add _ _) (by omega) rfl ?_
            refine gw_goto C 39 dX9_find_60 (by decide) ?_
            refine gw_lv (lv2 := [(3, iN (b + 1)), (0, .ref (sb 0))]) [0, 1] rfl ?_
            exact ih (b + 1) u.1 u.2 (by omega) (fun i hi => by rw [e2 i hi]; exact hr i hi) he
          ·
            obtain ⟨wy, hwy⟩ := ob_1 h140
            rw [hwy] at he
            have he2 : fd_ nx sz1 2 5 4 ((sf_ nx sz1 2 4 5 2048 E).1) x = (b, wy) := he
            refine gw_iload_n C 0 dX9_find_55 rfl rfl ?_
            exact ret (sb, sc_rd 1 cp s2, u.1, u.2) dX9_find_56 rfl ⟨by rw [he2], fun j hj => by rw [he2] at hj ⊢; have := e4 wy hwy j hj; rw [Nat.zero_add] at this; exact this, hu0, hsc2⟩ rfl (by decide) (by decide)
    refine gw_lv (lv2 := [(3, iN kn), (0, .ref (sb 0))]) [0, 2] rfl ?_
    exact lp (16 - kn) kn _ _ (by omega) hrow efd
  ·
    exact absurd h137 hnz
def ss1_ws (cI cJ cF : ClassId) (nx : Nat → Nat → Nat) (E : Nat) : Bool → S4 → va_W
  | false, u => sg_ws cI cF (u.1) 2 4 5 2048 (.null) (u.2.2.1) (u.2.2.2) (fu1_ws cI (u.1) (u.2.1))
  | true, u => sg_ws cI cF (u.1) 2 4 5 2048 (.ref ((u.1) 4)) (u.2.2.1) (u.2.2.2) (((u.1) 4, .inl (cJ, 67661, .inr (.inl (fun j => lN (wd ((sf_ nx sz1 2 4 5 2048 E).1) j))))) :: fl1_ws cI (u.1) (u.2.1) nx)
theorem c_find1 (l : Launch) (D : va_G) (cI cB cS cJ cF cG : ClassId) (tt : Nat → Nat) (b : Bool) (u0 : S4) (nx : Nat → Nat → Nat) (E : Nat) (ca : Nat → Nat) (cp co ep eo x : Nat → Nat) (hcp : ∀ j, j < 8 → cp j < 8) (hep : ∀ j, j < 12 → ep j < 12) (hsc : sc_ok 1 u0.2.1) (hrx : ∀ s, sc_ok 1 s → ∀ i, i < 2 → rv1 cp co ep eo s i = x i) (hxl : ∀ i, i < 2 → x i < sz1 i) (hnx : nxP nx sz1 2) (hln : ln1 nx) (hsf : sfP nx sz1 2 4 5 2048 67661 E) : gw_CI (S := S4) l yX9_find wsX9_find 18 449 (fdc b (sv_ sz1 x 2) 10) (fdc b (sv_ sz1 x 2) 85853) D (mo_ty cI cB cS cJ cF cG) (zs tt) (ss1_ws cI cJ cF nx E b u0 ++ cb_ws cI tt ca cp co ep eo) [.ref (u0.1 0), .ref (ca 0)] (fun r u => r = nI (fd_ nx sz1 2 5 4 (sf_ nx sz1 2 4 5 2048 E).1 x).1 ∧ (∀ j, j < (fd_ nx sz1 2 5 4 (sf_ nx sz1 2 4 5 2048 E).1 x).1 → u.2.2.1 j = (fd_ nx sz1 2 5 4 (sf_ nx sz1 2 4 5 2048 E).1 x).2.getD j 0) ∧ u.1 0 = u0.1 0 ∧ sc_ok 1 u.2.1) (fun u => ss1_ws cI cJ cF nx E (fdb b (sv_ sz1 x 2)) u ++ cb_ws cI tt ca cp co ep eo) := by
  obtain ⟨sa, sc, Wy, Nm⟩ := u0
  by_cases hz : sv_ sz1 x 2 = 0
  · cases b
    · rw [show fdc false (sv_ sz1 x 2) 10 = 0 from if_pos hz, show fdc false (sv_ sz1 x 2) 85853 = 0 from if_pos hz, show fdb false (sv_ sz1 x 2) = false from if_pos hz]
      exact c_findz1u l D cI cB cS cJ cF cG tt sa Wy Nm sc nx E ca cp co ep eo x hcp hep hsc hrx hz
    · rw [show fdc true (sv_ sz1 x 2) 10 = 0 from if_pos hz, show fdc true (sv_ sz1 x 2) 85853 = 0 from if_pos hz, show fdb true (sv_ sz1 x 2) = true from if_pos hz]
      exact c_findz1p l D cI cB cS cJ cF cG tt sa Wy Nm sc nx E ca cp co ep eo x hcp hep hsc hrx hz
  · cases b
    · rw [show fdc false (sv_ sz1 x 2) 10 = 10 from if_neg hz, show fdc false (sv_ sz1 x 2) 85853 = 85853 from if_neg hz, show fdb false (sv_ sz1 x 2) = true from if_neg hz]
      exact c_findu1 l D cI cB cS cJ cF cG tt sa Wy Nm sc nx E ca cp co ep eo x hcp hep hsc hrx hxl hz hnx hln hsf
    · rw [show fdc true (sv_ sz1 x 2) 10 = 0 from if_neg hz, show fdc true (sv_ sz1 x 2) 85853 = 0 from if_neg hz, show fdb true (sv_ sz1 x 2) = true from if_neg hz]
      exact c_findp1 l D cI cB cS cJ cF cG tt sa Wy Nm sc nx E ca cp co ep eo x hcp hep hsc hrx hxl hz hnx hsf
set_option maxHeartbeats 4000000 in
set_option maxRecDepth 100000 in
theorem c_findz2u (l : Launch) (D : va_G) (cI cB cS cJ cF cG : ClassId) (tt : Nat → Nat) (sa : Nat → Nat) (Wy Nm : Nat → Nat) (sc nx : Nat → Nat → Nat) (E : Nat) (ca : Nat → Nat) (cp co ep eo x : Nat → Nat) (hcp : ∀ j, j < 8 → cp j < 8) (hep : ∀ j, j < 12 → ep j < 12) (hsc : sc_ok 2 sc) (hrx : ∀ s, sc_ok 2 s → ∀ i, i < 2 → rv2 cp co ep eo s i = x i) (hz : sv_ sz2 x 2 = 0) : gw_CI (S := S4) l yX9_find wsX9_find 18 449 0 0 D (mo_ty cI cB cS cJ cF cG) (zs tt) (sg_ws cI cF sa 2 2 7 4096 (.null) (Wy) (Nm) (fu2_ws cI sa (sc)) ++ cb_ws cI tt ca cp co ep eo) [.ref (sa 0), .ref (ca 0)] (fun r u => r = nI (fd_ nx sz2 2 7 2 (sf_ nx sz2 2 2 7 4096 E).1 x).1 ∧ (∀ j, j < (fd_ nx sz2 2 7 2 (sf_ nx sz2 2 2 7 4096 E).1 x).1 → u.2.2.1 j = (fd_ nx sz2 2 7 2 (sf_ nx sz2 2 2 7 4096 E).1 x).2.getD j 0) ∧ u.1 0 = sa 0 ∧ sc_ok 2 u.2.1) (fun u => sg_ws cI cF (u.1) 2 2 7 4096 (.null) (u.2.2.1) (u.2.2.2) (fu2_ws cI (u.1) (u.2.1)) ++ cb_ws cI tt ca cp co ep eo) := by
  refine gw_CI.of (cc := cX9_find) (maxL := 4) (rt := .int) (zs_ok tt) (by decide) rfl (Nat.le_of_ble_eq_true rfl) ?_
  intro K C hkl hkn hkR hkD hmn ret
  have C : gw_x K cX9_find RX9 wsX9_find (mo_ty cI cB cS cJ cF cG) (zs tt) := C
  subst hkl hkD
  have hrc : (kR K).cells = 0 := by rw [hkR]
  have hrs : (kR K).slots = 0 := by rw [hkR]
  refine gw_aload_n C 0 dX9_find_0 rfl rfl ?_
  refine gw_aload_n C 1 dX9_find_1 rfl rfl ?_
  have esv : sv_ sz2 (rv2 cp co ep eo sc) 2 = sv_ sz2 x 2 := sv_congr sz2 2 (hrx sc hsc)
  have efd : fd_ nx sz2 2 7 2 (sf_ nx sz2 2 2 7 4096 E).1 x = (0, []) := by rw [fd_, if_pos hz]
  refine gw_allVI (n := 1) C (c_readStart20 (kl K) (kD K) cI cB cS cJ cF cG tt sa Wy Nm _ sc nx ca cp co ep eo hcp hep hsc) 0 rfl rfl rfl gX9_find_X9_readStart rfl (by decide +kernel) dX9_find_2 (by rw [hkR]; decide) (by rw [hkR]; decide) rfl (Nat.le_of_ble_eq_true rfl) rfl (fun rv v hv => ?_)
  subst hv
  rw [esv, hz]
  refine gw_if_ne C 10 dX9_find_5 (by decide) (by omega) (fun h141 => ?_) (fun h141 => ?_)
  ·
    exact absurd rfl h141
  ·
    refine gw_iconst C 0 dX9_find_8 (by decide) ?_
    exact ret (sa, sc_rd 2 cp sc, Wy, rN_ (rv2 cp co ep eo sc) Nm 2) dX9_find_9 rfl ⟨by rw [efd], fun j hj => by rw [efd] at hj; exact absurd hj (Nat.not_lt_zero _), rfl, sc_rd_ok 2 hcp hsc⟩ rfl (Nat.le_refl 0) (Nat.le_refl 0)
set_option maxHeartbeats 4000000 in
set_option maxRecDepth 100000 in
theorem c_findz2p (l : Launch) (D : va_G) (cI cB cS cJ cF cG : ClassId) (tt : Nat → Nat) (sa : Nat → Nat) (Wy Nm : Nat → Nat) (sc nx : Nat → Nat → Nat) (E : Nat) (ca : Nat → Nat) (cp co ep eo x : Nat → Nat) (hcp : ∀ j, j < 8 → cp j < 8) (hep : ∀ j, j < 12 → ep j < 12) (hsc : sc_ok 2 sc) (hrx : ∀ s, sc_ok 2 s → ∀ i, i < 2 → rv2 cp co ep eo s i = x i) (hz : sv_ sz2 x 2 = 0) : gw_CI (S := S4) l yX9_find wsX9_find 18 449 0 0 D (mo_ty cI cB cS cJ cF cG) (zs tt) (sg_ws cI cF sa 2 2 7 4096 (.ref (sa 4)) (Wy) (Nm) ((sa 4, .inl (cJ, 1838, .inr (.inl (fun j => lN (wd ((sf_ nx sz2 2 2 7 4096 E).1) j))))) :: fl2_ws cI sa (sc) nx) ++ cb_ws cI tt ca cp co ep eo) [.ref (sa 0), .ref (ca 0)] (fun r u => r = nI (fd_ nx sz2 2 7 2 (sf_ nx sz2 2 2 7 4096 E).1 x).1 ∧ (∀ j, j < (fd_ nx sz2 2 7 2 (sf_ nx sz2 2 2 7 4096 E).1 x).1 → u.2.2.1 j = (fd_ nx sz2 2 7 2 (sf_ nx sz2 2 2 7 4096 E).1 x).2.getD j 0) ∧ u.1 0 = sa 0 ∧ sc_ok 2 u.2.1) (fun u => sg_ws cI cF (u.1) 2 2 7 4096 (.ref ((u.1) 4)) (u.2.2.1) (u.2.2.2) (((u.1) 4, .inl (cJ, 1838, .inr (.inl (fun j => lN (wd ((sf_ nx sz2 2 2 7 4096 E).1) j))))) :: fl2_ws cI (u.1) (u.2.1) nx) ++ cb_ws cI tt ca cp co ep eo) := by
  refine gw_CI.of (cc := cX9_find) (maxL := 4) (rt := .int) (zs_ok tt) (by decide) rfl (Nat.le_of_ble_eq_true rfl) ?_
  intro K C hkl hkn hkR hkD hmn ret
  have C : gw_x K cX9_find RX9 wsX9_find (mo_ty cI cB cS cJ cF cG) (zs tt) := C
  subst hkl hkD
  have hrc : (kR K).cells = 0 := by rw [hkR]
  have hrs : (kR K).slots = 0 := by rw [hkR]
  refine gw_aload_n C 0 dX9_find_0 rfl rfl ?_
  refine gw_aload_n C 1 dX9_find_1 rfl rfl ?_
  have esv : sv_ sz2 (rv2 cp co ep eo sc) 2 = sv_ sz2 x 2 := sv_congr sz2 2 (hrx sc hsc)
  have efd : fd_ nx sz2 2 7 2 (sf_ nx sz2 2 2 7 4096 E).1 x = (0, []) := by rw [fd_, if_pos hz]
  refine gw_allVI (n := 1) C (c_readStart21 (kl K) (kD K) cI cB cS cJ cF cG tt sa Wy Nm _ sc nx _ ca cp co ep eo hcp hep hsc) 0 rfl rfl rfl gX9_find_X9_readStart rfl (by decide +kernel) dX9_find_2 (by rw [hkR]; decide) (by rw [hkR]; decide) rfl (Nat.le_of_ble_eq_true rfl) rfl (fun rv v hv => ?_)
  subst hv
  rw [esv, hz]
  refine gw_if_ne C 10 dX9_find_5 (by decide) (by omega) (fun h142 => ?_) (fun h142 => ?_)
  ·
    exact absurd rfl h142
  ·
    refine gw_iconst C 0 dX9_find_8 (by decide) ?_
    exact ret (sa, sc_rd 2 cp sc, Wy, rN_ (rv2 cp co ep eo sc) Nm 2) dX9_find_9 rfl ⟨by rw [efd], fun j hj => by rw [efd] at hj; exact absurd hj (Nat.not_lt_zero _), rfl, sc_rd_ok 2 hcp hsc⟩ rfl (Nat.le_refl 0) (Nat.le_refl 0)
set_option maxHeartbeats 4000000 in
set_option maxRecDepth 100000 in
theorem c_findp2 (l : Launch) (D : va_G) (cI cB cS cJ cF cG : ClassId) (tt : Nat → Nat) (sa : Nat → Nat) (Wy Nm : Nat → Nat) (sc nx : Nat → Nat → Nat) (E : Nat) (ca : Nat → Nat) (cp co ep eo x : Nat → Nat) (hcp : ∀ j, j < 8 → cp j < 8) (hep : ∀ j, j < 12 → ep j < 12) (hsc : sc_ok 2 sc) (hrx : ∀ s, sc_ok 2 s → ∀ i, i < 2 → rv2 cp co ep eo s i = x i) (hxl : ∀ i, i < 2 → x i < sz2 i) (hnz : ¬ sv_ sz2 x 2 = 0) (hnx : nxP nx sz2 2) (hsf : sfP nx sz2 2 2 7 4096 1838 E) : gw_CI (S := S4) l yX9_find wsX9_find 18 449 0 0 D (mo_ty cI cB cS cJ cF cG) (zs tt) (sg_ws cI cF sa 2 2 7 4096 (.ref (sa 4)) (Wy) (Nm) ((sa 4, .inl (cJ, 1838, .inr (.inl (fun j => lN (wd ((sf_ nx sz2 2 2 7 4096 E).1) j))))) :: fl2_ws cI sa (sc) nx) ++ cb_ws cI tt ca cp co ep eo) [.ref (sa 0), .ref (ca 0)] (fun r u => r = nI (fd_ nx sz2 2 7 2 (sf_ nx sz2 2 2 7 4096 E).1 x).1 ∧ (∀ j, j < (fd_ nx sz2 2 7 2 (sf_ nx sz2 2 2 7 4096 E).1 x).1 → u.2.2.1 j = (fd_ nx sz2 2 7 2 (sf_ nx sz2 2 2 7 4096 E).1 x).2.getD j 0) ∧ u.1 0 = sa 0 ∧ sc_ok 2 u.2.1) (fun u => sg_ws cI cF (u.1) 2 2 7 4096 (.ref ((u.1) 4)) (u.2.2.1) (u.2.2.2) (((u.1) 4, .inl (cJ, 1838, .inr (.inl (fun j => lN (wd ((sf_ nx sz2 2 2 7 4096 E).1) j))))) :: fl2_ws cI (u.1) (u.2.1) nx) ++ cb_ws cI tt ca cp co ep eo) := by
  refine gw_CI.of (cc := cX9_find) (maxL := 4) (rt := .int) (zs_ok tt) (by decide) rfl (Nat.le_of_ble_eq_true rfl) ?_
  intro K C hkl hkn hkR hkD hmn ret
  have C : gw_x K cX9_find RX9 wsX9_find (mo_ty cI cB cS cJ cF cG) (zs tt) := C
  subst hkl hkD
  have hrc : (kR K).cells = 0 := by rw [hkR]
  have hrs : (kR K).slots = 0 := by rw [hkR]
  refine gw_aload_n C 0 dX9_find_0 rfl rfl ?_
  refine gw_aload_n C 1 dX9_find_1 rfl rfl ?_
  have esv : sv_ sz2 (rv2 cp co ep eo sc) 2 = sv_ sz2 x 2 := sv_congr sz2 2 (hrx sc hsc)
  have hrow : ∀ i, i < 2 → rN_ (rv2 cp co ep eo sc) Nm 2 i = x i := fun i hi => by rw [rN_at _ Nm 2 i hi]; exact hrx sc hsc i hi
  have hsl0 := sv_lt2 x hxl
  refine gw_allVI (n := 1) C (c_readStart21 (kl K) (kD K) cI cB cS cJ cF cG tt sa Wy Nm _ sc nx _ ca cp co ep eo hcp hep hsc) 0 rfl rfl rfl gX9_find_X9_readStart rfl (by decide +kernel) dX9_find_2 (by rw [hkR]; decide) (by rw [hkR]; decide) rfl (Nat.le_of_ble_eq_true rfl) rfl (fun rv v hv => ?_)
  subst hv
  rw [esv]
  refine gw_if_ne C 10 dX9_find_5 (by decide) (by omega) (fun h143 => ?_) (fun h143 => ?_)
  ·
    refine gw_aload_n C 0 dX9_find_10 rfl rfl ?_
    refine gw_get C 0 6 in_X9_find_X9 dX9_find_11 lk_X9_find_36 rfl rfl (by decide) rfl rfl ?_
    refine gw_nonnull C 27 dX9_find_14 (by decide) ?_
    have hg : ∀ s, (sf_ nx sz2 2 2 7 4096 E).1 s < 16 := (hsf.2.2.2.1 E (Nat.le_refl _)).1
    refine gw_aload_n C 0 dX9_find_27 rfl rfl ?_
    refine gw_aload_n C 0 dX9_find_28 rfl rfl ?_
    refine gw_iconst C 0 dX9_find_29 (by decide) ?_
    refine gw_appVI (n := 1) C (c_stateAt21 (kl K) (kD K) cI cB cS cJ cF cG tt (sa) _ _ _ (sc_rd 2 cp sc) nx _ 0 (by decide)) 0 rfl rfl rfl gX9_find_X9_stateAt rfl (by decide +kernel) dX9_find_30 (by rw [hkR]; decide) (by rw [hrc, hrs]; decide) rfl (Nat.le_of_ble_eq_true rfl) rfl (fun rv v hv => ?_)
    subst hv
    rw [Nat.zero_mul, sa_sv sz2 _ 0 (y := x) 2 (fun i hi => by rw [Nat.zero_add]; exact hrow i hi)]
    have hsl := sv_lt2 x hxl
    refine gw_appVI (n := 1) C (c_ttg (kl K) (kD K) cI cB cS cJ cF cG tt (sa) 2 2 7 4096 _ _ 1838 ((sf_ nx sz2 2 2 7 4096 E).1) (fl2_ws cI (sa) (sc_rd 2 cp sc) nx) hg (sv_ sz2 x 2) (by decide) (by omega)) 0 rfl rfl rfl gX9_find_X9_turnsToGoal rfl (by decide +kernel) dX9_find_33 (by rw [hkR]; decide) (by rw [hrc, hrs]; decide) rfl (Nat.le_of_ble_eq_true rfl) rfl (fun rv v hv => ?_)
    subst hv
    have htg : tg_ 7 ((sf_ nx sz2 2 2 7 4096 E).1) (sv_ sz2 x 2) ≤ 15 := by have := hg (sv_ sz2 x 2); rw [tg_]; split <;> omega
    have efd : fd_ nx sz2 2 7 2 ((sf_ nx sz2 2 2 7 4096 E).1) x = (fdL nx sz2 2 7 2 ((sf_ nx sz2 2 2 7 4096 E).1) x (16 - tg_ 7 ((sf_ nx sz2 2 2 7 4096 E).1) (sv_ sz2 x 2)) (tg_ 7 ((sf_ nx sz2 2 2 7 4096 E).1) (sv_ sz2 x 2))).getD (0, []) := by rw [fd_, if_neg hnz]
    refine gw_istore_n C (lv2 := [(2, iN (tg_ 7 ((sf_ nx sz2 2 2 7 4096 E).1) (sv_ sz2 x 2))), (0, .ref (sa 0)), (1, .ref (ca 0))]) dX9_find_36 rfl (by omega) rfl ?_
    refine gw_iload_n C 0 dX9_find_37 rfl rfl ?_
    refine gw_istore_n C (lv2 := [(3, iN (tg_ 7 ((sf_ nx sz2 2 2 7 4096 E).1) (sv_ sz2 x 2))), (2, iN (tg_ 7 ((sf_ nx sz2 2 2 7 4096 E).1) (sv_ sz2 x 2))), (0, .ref (sa 0)), (1, .ref (ca 0))]) dX9_find_38 rfl (by omega) rfl ?_
    generalize tg_ 7 ((sf_ nx sz2 2 2 7 4096 E).1) (sv_ sz2 x 2) = kn at htg efd ⊢
    have lp : ∀ (n b : Nat) (WW NN : Nat → Nat), b + n = 16 → (∀ i, i < 2 → NN i = x i) → fd_ nx sz2 2 7 2 ((sf_ nx sz2 2 2 7 4096 E).1) x = (fdL nx sz2 2 7 2 ((sf_ nx sz2 2 2 7 4096 E).1) x n b).getD (0, []) → gw_G K (sg_ws cI cF (sa) 2 2 7 4096 (.ref ((sa) 4)) (WW) (NN) (((sa) 4, .inl (cJ, 1838, .inr (.inl (fun j => lN (wd ((sf_ nx sz2 2 2 7 4096 E).1) j))))) :: fl2_ws cI (sa) (sc_rd 2 cp sc) nx) ++ cb_ws cI tt ca cp co ep eo) 0 0 39 [(3, iN (b)), (0, .ref (sa 0))] [] := by
      intro n
      induction n with
      | zero =>
        intro b WW NN hb hr he
        refine gw_iload_n C 0 dX9_find_39 rfl rfl ?_
        refine gw_bipush C 15 dX9_find_40 (by decide) ?_
        refine gw_icmp_gt C 63 dX9_find_42 (by decide) (by omega) (by omega) (fun h144 => ?_) (fun h144 => ?_)
        ·
          refine gw_iconst C 0 dX9_find_63 (by decide) ?_
          rw [show fdL nx sz2 2 7 2 ((sf_ nx sz2 2 2 7 4096 E).1) x 0 b = none from rfl] at he
          exact ret (sa, sc_rd 2 cp sc, WW, NN) dX9_find_64 rfl ⟨by rw [he]; rfl, fun j hj => by rw [he] at hj; exact absurd hj (Nat.not_lt_zero _), rfl, sc_rd_ok 2 hcp hsc⟩ rfl (by decide) (by decide)
        ·
          exact absurd h144 (by omega)
      | succ n ih =>
        intro b WW NN hb hr he
        refine gw_iload_n C 0 dX9_find_39 rfl rfl ?_
        refine gw_bipush C 15 dX9_find_40 (by decide) ?_
        refine gw_icmp_gt C 63 dX9_find_42 (by decide) (by omega) (by omega) (fun h145 => ?_) (fun h145 => ?_)
        ·
          exact absurd h145 (by omega)
        ·
          refine gw_aload_n C 1 dX9_find_45 rfl rfl ?_
          refine gw_iconst C 0 dX9_find_46 (by decide) ?_
          refine gw_iload_n C 0 dX9_find_47 rfl rfl ?_
          refine gw_iconst C 4294967295 dX9_find_48 (by decide) ?_
          refine gw_appVI (n := 3) C (c_dive (kl K) (kD K) cI cB cS cJ cF cG tt (sa) 2 2 7 4096 1838 sz2 nx (fl2_ws cI (sa) (sc_rd 2 cp sc) nx) ((sf_ nx sz2 2 2 7 4096 E).1) (fun Wy Nm d hd => c_stateAt21 (kl K) (kD K) cI cB cS cJ cF cG tt (sa) Wy Nm _ (sc_rd 2 cp sc) nx _ d hd) (fun Wy Nm d fc hd hf h => c_advance21 (kl K) (kD K) cI cB cS cJ cF cG tt (sa) Wy Nm _ (sc_rd 2 cp sc) nx _ d fc hd hf (h 0 (by decide)) (h 1 (by decide))) (by decide) (by decide) (by decide) (by decide) sz2_pos hnx sv_lt2 hg b 0 4294967295 WW NN x (by omega) (Or.inr rfl) (fun i hi => by rw [Nat.zero_mul, Nat.zero_add]; exact hr i hi) hxl) 0 rfl rfl rfl gX9_find_X9_dive rfl (by decide +kernel) dX9_find_49 (by rw [hkR]; dsimp only; omega) (by rw [hkR]; dsimp only; omega) rfl (Nat.le_of_ble_eq_true rfl) rfl (fun ru u hu => ?_)
          obtain ⟨e1, e2, e3, e4⟩ := hu
          subst e1
          have hob := ob_2 (dv_ nx sz2 2 7 2 ((sf_ nx sz2 2 2 7 4096 E).1) b 4294967295 x)
          rw [Nat.zero_mul, Nat.zero_add] at e2
          rw [fdL] at he
          refine gw_if_eq C 57 dX9_find_52 (by decide) (by omega) (fun h146 => ?_) (fun h146 => ?_)
          ·
            rw [ob_0 h146] at he
            refine gw_iinc C (v := nI (b + 1)) (lv2 := [(3, iN (b + 1)), (0, .ref (sa 0))]) 0 dX9_find_57 rfl (nI_add _ _) (by omega) rfl ?_
            refine gw_goto C 39 dX9_find_60 (by decide) ?_
            refine gw_lv (lv2 := [(3, iN (b + 1)), (0, .ref (sa 0))]) [0, 1] rfl ?_
            exact ih (b + 1) u.1 u.2 (by omega) (fun i hi => by rw [e2 i hi]; exact hr i hi) he
          ·
            obtain ⟨wy, hwy⟩ := ob_1 h146
            rw [hwy] at he
            have he2 : fd_ nx sz2 2 7 2 ((sf_ nx sz2 2 2 7 4096 E).1) x = (b, wy) := he
            refine gw_iload_n C 0 dX9_find_55 rfl rfl ?_
            exact ret (sa, sc_rd 2 cp sc, u.1, u.2) dX9_find_56 rfl ⟨by rw [he2], fun j hj => by rw [he2] at hj ⊢; have := e4 wy hwy j hj; rw [Nat.zero_add] at this; exact this, rfl, sc_rd_ok 2 hcp hsc⟩ rfl (by decide) (by decide)
    refine gw_lv (lv2 := [(3, iN kn), (0, .ref (sa 0))]) [0, 2] rfl ?_
    exact lp (16 - kn) kn _ _ (by omega) hrow efd
  ·
    exact absurd h143 hnz
set_option maxHeartbeats 4000000 in
set_option maxRecDepth 100000 in
theorem c_findu2 (l : Launch) (D : va_G) (cI cB cS cJ cF cG : ClassId) (tt : Nat → Nat) (sa : Nat → Nat) (Wy Nm : Nat → Nat) (sc nx : Nat → Nat → Nat) (E : Nat) (ca : Nat → Nat) (cp co ep eo x : Nat → Nat) (hcp : ∀ j, j < 8 → cp j < 8) (hep : ∀ j, j < 12 → ep j < 12) (hsc : sc_ok 2 sc) (hrx : ∀ s, sc_ok 2 s → ∀ i, i < 2 → rv2 cp co ep eo s i = x i) (hxl : ∀ i, i < 2 → x i < sz2 i) (hnz : ¬ sv_ sz2 x 2 = 0) (hnx : nxP nx sz2 2) (hln : ln2 nx) (hsf : sfP nx sz2 2 2 7 4096 1838 E) : gw_CI (S := S4) l yX9_find wsX9_find 18 449 10 8926 D (mo_ty cI cB cS cJ cF cG) (zs tt) (sg_ws cI cF sa 2 2 7 4096 (.null) (Wy) (Nm) (fu2_ws cI sa (sc)) ++ cb_ws cI tt ca cp co ep eo) [.ref (sa 0), .ref (ca 0)] (fun r u => r = nI (fd_ nx sz2 2 7 2 (sf_ nx sz2 2 2 7 4096 E).1 x).1 ∧ (∀ j, j < (fd_ nx sz2 2 7 2 (sf_ nx sz2 2 2 7 4096 E).1 x).1 → u.2.2.1 j = (fd_ nx sz2 2 7 2 (sf_ nx sz2 2 2 7 4096 E).1 x).2.getD j 0) ∧ u.1 0 = sa 0 ∧ sc_ok 2 u.2.1) (fun u => sg_ws cI cF (u.1) 2 2 7 4096 (.ref ((u.1) 4)) (u.2.2.1) (u.2.2.2) (((u.1) 4, .inl (cJ, 1838, .inr (.inl (fun j => lN (wd ((sf_ nx sz2 2 2 7 4096 E).1) j))))) :: fl2_ws cI (u.1) (u.2.1) nx) ++ cb_ws cI tt ca cp co ep eo) := by
  refine gw_CI.of (cc := cX9_find) (maxL := 4) (rt := .int) (zs_ok tt) (by decide) rfl (Nat.le_of_ble_eq_true rfl) ?_
  intro K C hkl hkn hkR hkD hmn ret
  have C : gw_x K cX9_find RX9 wsX9_find (mo_ty cI cB cS cJ cF cG) (zs tt) := C
  subst hkl hkD
  have hrc : (kR K).cells = 10 := by rw [hkR]
  have hrs : (kR K).slots = 8926 := by rw [hkR]
  refine gw_aload_n C 0 dX9_find_0 rfl rfl ?_
  refine gw_aload_n C 1 dX9_find_1 rfl rfl ?_
  have esv : sv_ sz2 (rv2 cp co ep eo sc) 2 = sv_ sz2 x 2 := sv_congr sz2 2 (hrx sc hsc)
  have hsl0 := sv_lt2 x hxl
  have hg : ∀ s, (sf_ nx sz2 2 2 7 4096 E).1 s < 16 := (hsf.2.2.2.1 E (Nat.le_refl _)).1
  refine gw_allVI (n := 1) C (c_readStart20 (kl K) (kD K) cI cB cS cJ cF cG tt sa Wy Nm _ sc nx ca cp co ep eo hcp hep hsc) 0 rfl rfl rfl gX9_find_X9_readStart rfl (by decide +kernel) dX9_find_2 (by rw [hkR]; decide) (by rw [hrc, hrs]; decide) rfl (Nat.le_of_ble_eq_true rfl) rfl (fun rv v hv => ?_)
  subst hv
  rw [esv]
  refine gw_if_ne C 10 dX9_find_5 (by decide) (by omega) (fun h147 => ?_) (fun h147 => ?_)
  ·
    refine gw_aload_n C 0 dX9_find_10 rfl rfl ?_
    refine gw_get C 0 6 in_X9_find_X9 dX9_find_11 lk_X9_find_36 rfl rfl (by decide) rfl rfl ?_
    refine gw_nonnullN C dX9_find_14 ?_
    refine gw_aload_n C 0 dX9_find_17 rfl rfl ?_
    have hsc1 := sc_rd_ok 2 hcp hsc
    refine gw_appVV (n := 0) C (c_prepare2 (kl K) (kD K) cI cB cS cJ cF cG tt sa Wy (rN_ (rv2 cp co ep eo sc) Nm 2) (sc_rd 2 cp sc) nx E hsc1 hln hnx hsf) 0 rfl rfl rfl gX9_find_X9_prepare rfl (by decide +kernel) dX9_find_18 (by rw [hkR]; decide) (by rw [hrc, hrs]; decide) rfl (Nat.le_of_ble_eq_true rfl) rfl (fun u hu => ?_)
    obtain ⟨hu0, hu1, hu2⟩ := hu
    obtain ⟨sb, s2, N3⟩ := u
    dsimp only at hu0 hu1 hu2 ⊢
    rw [← hu0]
    refine gw_aload_n C 0 dX9_find_21 rfl rfl ?_
    refine gw_aload_n C 1 dX9_find_22 rfl rfl ?_
    have hrow : ∀ i, i < 2 → rN_ (rv2 cp co ep eo s2) N3 2 i = x i := fun i hi => by rw [rN_at _ N3 2 i hi]; exact hrx s2 hu2 i hi
    refine gw_allVI (n := 1) C (c_readStart21 (kl K) (kD K) cI cB cS cJ cF cG tt sb Wy N3 _ s2 nx _ ca cp co ep eo hcp hep hu2) 0 rfl rfl rfl gX9_find_X9_readStart rfl (by decide +kernel) dX9_find_23 (by rw [hkR]; decide) (by rw [hrc, hrs]; decide) rfl (Nat.le_of_ble_eq_true rfl) rfl (fun rv2 v2 hv2 => ?_)
    refine gw_pop C dX9_find_26 rfl ?_
    have hsc2 := sc_rd_ok 2 hcp hu2
    refine gw_aload_n C 0 dX9_find_27 rfl rfl ?_
    refine gw_aload_n C 0 dX9_find_28 rfl rfl ?_
    refine gw_iconst C 0 dX9_find_29 (by decide) ?_
    refine gw_appVI (n := 1) C (c_stateAt21 (kl K) (kD K) cI cB cS cJ cF cG tt (sb) _ _ _ (sc_rd 2 cp s2) nx _ 0 (by decide)) 0 rfl rfl rfl gX9_find_X9_stateAt rfl (by decide +kernel) dX9_find_30 (by rw [hkR]; decide) (by rw [hrc, hrs]; decide) rfl (Nat.le_of_ble_eq_true rfl) rfl (fun rv v hv => ?_)
    subst hv
    rw [Nat.zero_mul, sa_sv sz2 _ 0 (y := x) 2 (fun i hi => by rw [Nat.zero_add]; exact hrow i hi)]
    have hsl := sv_lt2 x hxl
    refine gw_appVI (n := 1) C (c_ttg (kl K) (kD K) cI cB cS cJ cF cG tt (sb) 2 2 7 4096 _ _ 1838 ((sf_ nx sz2 2 2 7 4096 E).1) (fl2_ws cI (sb) (sc_rd 2 cp s2) nx) hg (sv_ sz2 x 2) (by decide) (by omega)) 0 rfl rfl rfl gX9_find_X9_turnsToGoal rfl (by decide +kernel) dX9_find_33 (by rw [hkR]; decide) (by rw [hrc, hrs]; decide) rfl (Nat.le_of_ble_eq_true rfl) rfl (fun rv v hv => ?_)
    subst hv
    have htg : tg_ 7 ((sf_ nx sz2 2 2 7 4096 E).1) (sv_ sz2 x 2) ≤ 15 := by have := hg (sv_ sz2 x 2); rw [tg_]; split <;> omega
    have efd : fd_ nx sz2 2 7 2 ((sf_ nx sz2 2 2 7 4096 E).1) x = (fdL nx sz2 2 7 2 ((sf_ nx sz2 2 2 7 4096 E).1) x (16 - tg_ 7 ((sf_ nx sz2 2 2 7 4096 E).1) (sv_ sz2 x 2)) (tg_ 7 ((sf_ nx sz2 2 2 7 4096 E).1) (sv_ sz2 x 2))).getD (0, []) := by rw [fd_, if_neg hnz]
    refine gw_istore_n C (lv2 := [(2, iN (tg_ 7 ((sf_ nx sz2 2 2 7 4096 E).1) (sv_ sz2 x 2))), (0, .ref (sb 0)), (1, .ref (ca 0))]) dX9_find_36 rfl (by omega) rfl ?_
    refine gw_iload_n C 0 dX9_find_37 rfl rfl ?_
    refine gw_istore_n C (lv2 := [(3, iN (tg_ 7 ((sf_ nx sz2 2 2 7 4096 E).1) (sv_ sz2 x 2))), (2, iN (tg_ 7 ((sf_ nx sz2 2 2 7 4096 E).1) (sv_ sz2 x 2))), (0, .ref (sb 0)), (1, .ref (ca 0))]) dX9_find_38 rfl (by omega) rfl ?_
    generalize tg_ 7 ((sf_ nx sz2 2 2 7 4096 E).1) (sv_ sz2 x 2) = kn at htg efd ⊢
    have lp : ∀ (n b : Nat) (WW NN : Nat → Nat), b + n = 16 → (∀ i, i < 2 → NN i = x i) → fd_ nx sz2 2 7 2 ((sf_ nx sz2 2 2 7 4096 E).1) x = (fdL nx sz2 2 7 2 ((sf_ nx sz2 2 2 7 4096 E).1) x n b).getD (0, []) → gw_G K (sg_ws cI cF (sb) 2 2 7 4096 (.ref ((sb) 4)) (WW) (NN) (((sb) 4, .inl (cJ, 1838, .inr (.inl (fun j => lN (wd ((sf_ nx sz2 2 2 7 4096 E).1) j))))) :: fl2_ws cI (sb) (sc_rd 2 cp s2) nx) ++ cb_ws cI tt ca cp co ep eo) 10 8926 39 [(3, iN (b)), (0, .ref (sb 0))] [] := by
      intro n
      induction n with
      | zero =>
        intro b WW NN hb hr he
        refine gw_iload_n C 0 dX9_find_39 rfl rfl ?_
        refine gw_bipush C 15 dX9_find_40 (by decide) ?_
        refine gw_icmp_gt C 63 dX9_find_42 (by decide) (by omega) (by omega) (fun h148 => ?_) (fun h148 => ?_)
        ·
          refine gw_iconst C 0 dX9_find_63 (by decide) ?_
          rw [show fdL nx sz2 2 7 2 ((sf_ nx sz2 2 2 7 4096 E).1) x 0 b = none from rfl] at he
          exact ret (sb, sc_rd 2 cp s2, WW, NN) dX9_find_64 rfl ⟨by rw [he]; rfl, fun j hj => by rw [he] at hj; exact absurd hj (Nat.not_lt_zero _), hu0, hsc2⟩ rfl (by decide) (by decide)
        ·
          exact absurd h148 (by omega)
      | succ n ih =>
        intro b WW NN hb hr he
        refine gw_iload_n C 0 dX9_find_39 rfl rfl ?_
        refine gw_bipush C 15 dX9_find_40 (by decide) ?_
        refine gw_icmp_gt C 63 dX9_find_42 (by decide) (by omega) (by omega) (fun h149 => ?_) (fun h149 => ?_)
        ·
          exact absurd h149 (by omega)
        ·
          refine gw_aload_n C 1 dX9_find_45 rfl rfl ?_
          refine gw_iconst C 0 dX9_find_46 (by decide) ?_
          refine gw_iload_n C 0 dX9_find_47 rfl rfl ?_
          refine gw_iconst C 4294967295 dX9_find_48 (by decide) ?_
          refine gw_appVI (n := 3) C (c_dive (kl K) (kD K) cI cB cS cJ cF cG tt (sb) 2 2 7 4096 1838 sz2 nx (fl2_ws cI (sb) (sc_rd 2 cp s2) nx) ((sf_ nx sz2 2 2 7 4096 E).1) (fun Wy Nm d hd => c_stateAt21 (kl K) (kD K) cI cB cS cJ cF cG tt (sb) Wy Nm _ (sc_rd 2 cp s2) nx _ d hd) (fun Wy Nm d fc hd hf h => c_advance21 (kl K) (kD K) cI cB cS cJ cF cG tt (sb) Wy Nm _ (sc_rd 2 cp s2) nx _ d fc hd hf (h 0 (by decide)) (h 1 (by decide))) (by decide) (by decide) (by decide) (by decide) sz2_pos hnx sv_lt2 hg b 0 4294967295 WW NN x (by omega) (Or.inr rfl) (fun i hi => by rw [Nat.zero_mul, Nat.zero_add]; exact hr i hi) hxl) 0 rfl rfl rfl gX9_find_X9_dive rfl (by decide +kernel) dX9_find_49 (by rw [hkR]; dsimp only; omega) (by rw [hkR]; dsimp only; omega) rfl (Nat.le_of_ble_eq_true rfl) rfl (fun ru u hu => ?_)
          obtain ⟨e1, e2, e3, e4⟩ := hu
          subst e1
          have hob := ob_2 (dv_ nx sz2 2 7 2 ((sf_ nx sz2 2 2 7 4096 E).1) b 4294967295 x)
          rw [Nat.zero_mul, Nat.zero_add] at e2
          rw [fdL] at he
          refine gw_if_eq C 57 dX9_find_52 (by decide) (by omega) (fun h150 => ?_) (fun h150 => ?_)
          ·
            rw [ob_0 h150] at he
            refine gw_iinc C (v := nI (b + 1)) (lv2 := [(3, iN (b + 1)), (0, .ref (sb 0))]) 0 dX9_find_57 rfl (nI_add _ _) (by omega) rfl ?_
            refine gw_goto C 39 dX9_find_60 (by decide) ?_
            refine gw_lv (lv2 := [(3, iN (b + 1)), (0, .ref (sb 0))]) [0, 1] rfl ?_
            exact ih (b + 1) u.1 u.2 (by omega) (fun i hi => by rw [e2 i hi]; exact hr i hi) he
          ·
            obtain ⟨wy, hwy⟩ := ob_1 h150
            rw [hwy] at he
            have he2 : fd_ nx sz2 2 7 2 ((sf_ nx sz2 2 2 7 4096 E).1) x = (b, wy) := he
            refine gw_iload_n C 0 dX9_find_55 rfl rfl ?_
            exact ret (sb, sc_rd 2 cp s2, u.1, u.2) dX9_find_56 rfl ⟨by rw [he2], fun j hj => by rw [he2] at hj ⊢; have := e4 wy hwy j hj; rw [Nat.zero_add] at this; exact this, hu0, hsc2⟩ rfl (by decide) (by decide)
    refine gw_lv (lv2 := [(3, iN kn), (0, .ref (sb 0))]) [0, 2] rfl ?_
    exact lp (16 - kn) kn _ _ (by omega) hrow efd
  ·
    exact absurd h147 hnz
def ss2_ws (cI cJ cF : ClassId) (nx : Nat → Nat → Nat) (E : Nat) : Bool → S4 → va_W
  | false, u => sg_ws cI cF (u.1) 2 2 7 4096 (.null) (u.2.2.1) (u.2.2.2) (fu2_ws cI (u.1) (u.2.1))
  | true, u => sg_ws cI cF (u.1) 2 2 7 4096 (.ref ((u.1) 4)) (u.2.2.1) (u.2.2.2) (((u.1) 4, .inl (cJ, 1838, .inr (.inl (fun j => lN (wd ((sf_ nx sz2 2 2 7 4096 E).1) j))))) :: fl2_ws cI (u.1) (u.2.1) nx)
theorem c_find2 (l : Launch) (D : va_G) (cI cB cS cJ cF cG : ClassId) (tt : Nat → Nat) (b : Bool) (u0 : S4) (nx : Nat → Nat → Nat) (E : Nat) (ca : Nat → Nat) (cp co ep eo x : Nat → Nat) (hcp : ∀ j, j < 8 → cp j < 8) (hep : ∀ j, j < 12 → ep j < 12) (hsc : sc_ok 2 u0.2.1) (hrx : ∀ s, sc_ok 2 s → ∀ i, i < 2 → rv2 cp co ep eo s i = x i) (hxl : ∀ i, i < 2 → x i < sz2 i) (hnx : nxP nx sz2 2) (hln : ln2 nx) (hsf : sfP nx sz2 2 2 7 4096 1838 E) : gw_CI (S := S4) l yX9_find wsX9_find 18 449 (fdc b (sv_ sz2 x 2) 10) (fdc b (sv_ sz2 x 2) 8926) D (mo_ty cI cB cS cJ cF cG) (zs tt) (ss2_ws cI cJ cF nx E b u0 ++ cb_ws cI tt ca cp co ep eo) [.ref (u0.1 0), .ref (ca 0)] (fun r u => r = nI (fd_ nx sz2 2 7 2 (sf_ nx sz2 2 2 7 4096 E).1 x).1 ∧ (∀ j, j < (fd_ nx sz2 2 7 2 (sf_ nx sz2 2 2 7 4096 E).1 x).1 → u.2.2.1 j = (fd_ nx sz2 2 7 2 (sf_ nx sz2 2 2 7 4096 E).1 x).2.getD j 0) ∧ u.1 0 = u0.1 0 ∧ sc_ok 2 u.2.1) (fun u => ss2_ws cI cJ cF nx E (fdb b (sv_ sz2 x 2)) u ++ cb_ws cI tt ca cp co ep eo) := by
  obtain ⟨sa, sc, Wy, Nm⟩ := u0
  by_cases hz : sv_ sz2 x 2 = 0
  · cases b
    · rw [show fdc false (sv_ sz2 x 2) 10 = 0 from if_pos hz, show fdc false (sv_ sz2 x 2) 8926 = 0 from if_pos hz, show fdb false (sv_ sz2 x 2) = false from if_pos hz]
      exact c_findz2u l D cI cB cS cJ cF cG tt sa Wy Nm sc nx E ca cp co ep eo x hcp hep hsc hrx hz
    · rw [show fdc true (sv_ sz2 x 2) 10 = 0 from if_pos hz, show fdc true (sv_ sz2 x 2) 8926 = 0 from if_pos hz, show fdb true (sv_ sz2 x 2) = true from if_pos hz]
      exact c_findz2p l D cI cB cS cJ cF cG tt sa Wy Nm sc nx E ca cp co ep eo x hcp hep hsc hrx hz
  · cases b
    · rw [show fdc false (sv_ sz2 x 2) 10 = 10 from if_neg hz, show fdc false (sv_ sz2 x 2) 8926 = 8926 from if_neg hz, show fdb false (sv_ sz2 x 2) = true from if_neg hz]
      exact c_findu2 l D cI cB cS cJ cF cG tt sa Wy Nm sc nx E ca cp co ep eo x hcp hep hsc hrx hxl hz hnx hln hsf
    · rw [show fdc true (sv_ sz2 x 2) 10 = 0 from if_neg hz, show fdc true (sv_ sz2 x 2) 8926 = 0 from if_neg hz, show fdb true (sv_ sz2 x 2) = true from if_neg hz]
      exact c_findp2 l D cI cB cS cJ cF cG tt sa Wy Nm sc nx E ca cp co ep eo x hcp hep hsc hrx hxl hz hnx hsf
set_option maxHeartbeats 4000000 in
set_option maxRecDepth 100000 in
theorem c_findz3u (l : Launch) (D : va_G) (cI cB cS cJ cF cG : ClassId) (tt : Nat → Nat) (sa : Nat → Nat) (Wy Nm : Nat → Nat) (sc nx : Nat → Nat → Nat) (E : Nat) (ca : Nat → Nat) (cp co ep eo x : Nat → Nat) (hcp : ∀ j, j < 8 → cp j < 8) (hep : ∀ j, j < 12 → ep j < 12) (hsc : sc_ok 3 sc) (hrx : ∀ s, sc_ok 3 s → ∀ i, i < 4 → rv3 cp co ep eo s i = x i) (hz : sv_ sz3 x 4 = 0) : gw_CI (S := S4) l yX9_find wsX9_find 18 449 0 0 D (mo_ty cI cB cS cJ cF cG) (zs tt) (sg_ws cI cF sa 4 0 7 10240 (.null) (Wy) (Nm) (fu3_ws cI sa (sc)) ++ cb_ws cI tt ca cp co ep eo) [.ref (sa 0), .ref (ca 0)] (fun r u => r = nI (fd_ nx sz3 4 7 0 (sf_ nx sz3 4 0 7 10240 E).1 x).1 ∧ (∀ j, j < (fd_ nx sz3 4 7 0 (sf_ nx sz3 4 0 7 10240 E).1 x).1 → u.2.2.1 j = (fd_ nx sz3 4 7 0 (sf_ nx sz3 4 0 7 10240 E).1 x).2.getD j 0) ∧ u.1 0 = sa 0 ∧ sc_ok 3 u.2.1) (fun u => sg_ws cI cF (u.1) 4 0 7 10240 (.null) (u.2.2.1) (u.2.2.2) (fu3_ws cI (u.1) (u.2.1)) ++ cb_ws cI tt ca cp co ep eo) := by
  refine gw_CI.of (cc := cX9_find) (maxL := 4) (rt := .int) (zs_ok tt) (by decide) rfl (Nat.le_of_ble_eq_true rfl) ?_
  intro K C hkl hkn hkR hkD hmn ret
  have C : gw_x K cX9_find RX9 wsX9_find (mo_ty cI cB cS cJ cF cG) (zs tt) := C
  subst hkl hkD
  have hrc : (kR K).cells = 0 := by rw [hkR]
  have hrs : (kR K).slots = 0 := by rw [hkR]
  refine gw_aload_n C 0 dX9_find_0 rfl rfl ?_
  refine gw_aload_n C 1 dX9_find_1 rfl rfl ?_
  have esv : sv_ sz3 (rv3 cp co ep eo sc) 4 = sv_ sz3 x 4 := sv_congr sz3 4 (hrx sc hsc)
  have efd : fd_ nx sz3 4 7 0 (sf_ nx sz3 4 0 7 10240 E).1 x = (0, []) := by rw [fd_, if_pos hz]
  refine gw_allVI (n := 1) C (c_readStart30 (kl K) (kD K) cI cB cS cJ cF cG tt sa Wy Nm _ sc nx ca cp co ep eo hcp hep hsc) 0 rfl rfl rfl gX9_find_X9_readStart rfl (by decide +kernel) dX9_find_2 (by rw [hkR]; decide) (by rw [hkR]; decide) rfl (Nat.le_of_ble_eq_true rfl) rfl (fun rv v hv => ?_)
  subst hv
  rw [esv, hz]
  refine gw_if_ne C 10 dX9_find_5 (by decide) (by omega) (fun h151 => ?_) (fun h151 => ?_)
  ·
    exact absurd rfl h151
  ·
    refine gw_iconst C 0 dX9_find_8 (by decide) ?_
    exact ret (sa, sc_rd 3 cp sc, Wy, rN_ (rv3 cp co ep eo sc) Nm 4) dX9_find_9 rfl ⟨by rw [efd], fun j hj => by rw [efd] at hj; exact absurd hj (Nat.not_lt_zero _), rfl, sc_rd_ok 3 hcp hsc⟩ rfl (Nat.le_refl 0) (Nat.le_refl 0)
set_option maxHeartbeats 4000000 in
set_option maxRecDepth 100000 in
theorem c_findz3p (l : Launch) (D : va_G) (cI cB cS cJ cF cG : ClassId) (tt : Nat → Nat) (sa : Nat → Nat) (Wy Nm : Nat → Nat) (sc nx : Nat → Nat → Nat) (E : Nat) (ca : Nat → Nat) (cp co ep eo x : Nat → Nat) (hcp : ∀ j, j < 8 → cp j < 8) (hep : ∀ j, j < 12 → ep j < 12) (hsc : sc_ok 3 sc) (hrx : ∀ s, sc_ok 3 s → ∀ i, i < 4 → rv3 cp co ep eo s i = x i) (hz : sv_ sz3 x 4 = 0) : gw_CI (S := S4) l yX9_find wsX9_find 18 449 0 0 D (mo_ty cI cB cS cJ cF cG) (zs tt) (sg_ws cI cF sa 4 0 7 10240 (.ref (sa 4)) (Wy) (Nm) ((sa 4, .inl (cJ, 82944, .inr (.inl (fun j => lN (wd ((sf_ nx sz3 4 0 7 10240 E).1) j))))) :: fl3_ws cI sa (sc) nx) ++ cb_ws cI tt ca cp co ep eo) [.ref (sa 0), .ref (ca 0)] (fun r u => r = nI (fd_ nx sz3 4 7 0 (sf_ nx sz3 4 0 7 10240 E).1 x).1 ∧ (∀ j, j < (fd_ nx sz3 4 7 0 (sf_ nx sz3 4 0 7 10240 E).1 x).1 → u.2.2.1 j = (fd_ nx sz3 4 7 0 (sf_ nx sz3 4 0 7 10240 E).1 x).2.getD j 0) ∧ u.1 0 = sa 0 ∧ sc_ok 3 u.2.1) (fun u => sg_ws cI cF (u.1) 4 0 7 10240 (.ref ((u.1) 4)) (u.2.2.1) (u.2.2.2) (((u.1) 4, .inl (cJ, 82944, .inr (.inl (fun j => lN (wd ((sf_ nx sz3 4 0 7 10240 E).1) j))))) :: fl3_ws cI (u.1) (u.2.1) nx) ++ cb_ws cI tt ca cp co ep eo) := by
  refine gw_CI.of (cc := cX9_find) (maxL := 4) (rt := .int) (zs_ok tt) (by decide) rfl (Nat.le_of_ble_eq_true rfl) ?_
  intro K C hkl hkn hkR hkD hmn ret
  have C : gw_x K cX9_find RX9 wsX9_find (mo_ty cI cB cS cJ cF cG) (zs tt) := C
  subst hkl hkD
  have hrc : (kR K).cells = 0 := by rw [hkR]
  have hrs : (kR K).slots = 0 := by rw [hkR]
  refine gw_aload_n C 0 dX9_find_0 rfl rfl ?_
  refine gw_aload_n C 1 dX9_find_1 rfl rfl ?_
  have esv : sv_ sz3 (rv3 cp co ep eo sc) 4 = sv_ sz3 x 4 := sv_congr sz3 4 (hrx sc hsc)
  have efd : fd_ nx sz3 4 7 0 (sf_ nx sz3 4 0 7 10240 E).1 x = (0, []) := by rw [fd_, if_pos hz]
  refine gw_allVI (n := 1) C (c_readStart31 (kl K) (kD K) cI cB cS cJ cF cG tt sa Wy Nm _ sc nx _ ca cp co ep eo hcp hep hsc) 0 rfl rfl rfl gX9_find_X9_readStart rfl (by decide +kernel) dX9_find_2 (by rw [hkR]; decide) (by rw [hkR]; decide) rfl (Nat.le_of_ble_eq_true rfl) rfl (fun rv v hv => ?_)
  subst hv
  rw [esv, hz]
  refine gw_if_ne C 10 dX9_find_5 (by decide) (by omega) (fun h152 => ?_) (fun h152 => ?_)
  ·
    exact absurd rfl h152
  ·
    refine gw_iconst C 0 dX9_find_8 (by decide) ?_
    exact ret (sa, sc_rd 3 cp sc, Wy, rN_ (rv3 cp co ep eo sc) Nm 4) dX9_find_9 rfl ⟨by rw [efd], fun j hj => by rw [efd] at hj; exact absurd hj (Nat.not_lt_zero _), rfl, sc_rd_ok 3 hcp hsc⟩ rfl (Nat.le_refl 0) (Nat.le_refl 0)
set_option maxHeartbeats 4000000 in
set_option maxRecDepth 100000 in
theorem c_findp3 (l : Launch) (D : va_G) (cI cB cS cJ cF cG : ClassId) (tt : Nat → Nat) (sa : Nat → Nat) (Wy Nm : Nat → Nat) (sc nx : Nat → Nat → Nat) (E : Nat) (ca : Nat → Nat) (cp co ep eo x : Nat → Nat) (hcp : ∀ j, j < 8 → cp j < 8) (hep : ∀ j, j < 12 → ep j < 12) (hsc : sc_ok 3 sc) (hrx : ∀ s, sc_ok 3 s → ∀ i, i < 4 → rv3 cp co ep eo s i = x i) (hxl : ∀ i, i < 4 → x i < sz3 i) (hnz : ¬ sv_ sz3 x 4 = 0) (hnx : nxP nx sz3 4) (hsf : sfP nx sz3 4 0 7 10240 82944 E) : gw_CI (S := S4) l yX9_find wsX9_find 18 449 0 0 D (mo_ty cI cB cS cJ cF cG) (zs tt) (sg_ws cI cF sa 4 0 7 10240 (.ref (sa 4)) (Wy) (Nm) ((sa 4, .inl (cJ, 82944, .inr (.inl (fun j => lN (wd ((sf_ nx sz3 4 0 7 10240 E).1) j))))) :: fl3_ws cI sa (sc) nx) ++ cb_ws cI tt ca cp co ep eo) [.ref (sa 0), .ref (ca 0)] (fun r u => r = nI (fd_ nx sz3 4 7 0 (sf_ nx sz3 4 0 7 10240 E).1 x).1 ∧ (∀ j, j < (fd_ nx sz3 4 7 0 (sf_ nx sz3 4 0 7 10240 E).1 x).1 → u.2.2.1 j = (fd_ nx sz3 4 7 0 (sf_ nx sz3 4 0 7 10240 E).1 x).2.getD j 0) ∧ u.1 0 = sa 0 ∧ sc_ok 3 u.2.1) (fun u => sg_ws cI cF (u.1) 4 0 7 10240 (.ref ((u.1) 4)) (u.2.2.1) (u.2.2.2) (((u.1) 4, .inl (cJ, 82944, .inr (.inl (fun j => lN (wd ((sf_ nx sz3 4 0 7 10240 E).1) j))))) :: fl3_ws cI (u.1) (u.2.1) nx) ++ cb_ws cI tt ca cp co ep eo) := by
  refine gw_CI.of (cc := cX9_find) (maxL := 4) (rt := .int) (zs_ok tt) (by decide) rfl (Nat.le_of_ble_eq_true rfl) ?_
  intro K C hkl hkn hkR hkD hmn ret
  have C : gw_x K cX9_find RX9 wsX9_find (mo_ty cI cB cS cJ cF cG) (zs tt) := C
  subst hkl hkD
  have hrc : (kR K).cells = 0 := by rw [hkR]
  have hrs : (kR K).slots = 0 := by rw [hkR]
  refine gw_aload_n C 0 dX9_find_0 rfl rfl ?_
  refine gw_aload_n C 1 dX9_find_1 rfl rfl ?_
  have esv : sv_ sz3 (rv3 cp co ep eo sc) 4 = sv_ sz3 x 4 := sv_congr sz3 4 (hrx sc hsc)
  have hrow : ∀ i, i < 4 → rN_ (rv3 cp co ep eo sc) Nm 4 i = x i := fun i hi => by rw [rN_at _ Nm 4 i hi]; exact hrx sc hsc i hi
  have hsl0 := sv_lt3 x hxl
  refine gw_allVI (n := 1) C (c_readStart31 (kl K) (kD K) cI cB cS cJ cF cG tt sa Wy Nm _ sc nx _ ca cp co ep eo hcp hep hsc) 0 rfl rfl rfl gX9_find_X9_readStart rfl (by decide +kernel) dX9_find_2 (by rw [hkR]; decide) (by rw [hkR]; decide) rfl (Nat.le_of_ble_eq_true rfl) rfl (fun rv v hv => ?_)
  subst hv
  rw [esv]
  refine gw_if_ne C 10 dX9_find_5 (by decide) (by omega) (fun h153 => ?_) (fun h153 => ?_)
  ·
    refine gw_aload_n C 0 dX9_find_10 rfl rfl ?_
    refine gw_get C 0 6 in_X9_find_X9 dX9_find_11 lk_X9_find_36 rfl rfl (by decide) rfl rfl ?_
    refine gw_nonnull C 27 dX9_find_14 (by decide) ?_
    have hg : ∀ s, (sf_ nx sz3 4 0 7 10240 E).1 s < 16 := (hsf.2.2.2.1 E (Nat.le_refl _)).1
    refine gw_aload_n C 0 dX9_find_27 rfl rfl ?_
    refine gw_aload_n C 0 dX9_find_28 rfl rfl ?_
    refine gw_iconst C 0 dX9_find_29 (by decide) ?_
    refine gw_appVI (n := 1) C (c_stateAt31 (kl K) (kD K) cI cB cS cJ cF cG tt (sa) _ _ _ (sc_rd 3 cp sc) nx _ 0 (by decide)) 0 rfl rfl rfl gX9_find_X9_stateAt rfl (by decide +kernel) dX9_find_30 (by rw [hkR]; decide) (by rw [hrc, hrs]; decide) rfl (Nat.le_of_ble_eq_true rfl) rfl (fun rv v hv => ?_)
    subst hv
    rw [Nat.zero_mul, sa_sv sz3 _ 0 (y := x) 4 (fun i hi => by rw [Nat.zero_add]; exact hrow i hi)]
    have hsl := sv_lt3 x hxl
    refine gw_appVI (n := 1) C (c_ttg (kl K) (kD K) cI cB cS cJ cF cG tt (sa) 4 0 7 10240 _ _ 82944 ((sf_ nx sz3 4 0 7 10240 E).1) (fl3_ws cI (sa) (sc_rd 3 cp sc) nx) hg (sv_ sz3 x 4) (by decide) (by omega)) 0 rfl rfl rfl gX9_find_X9_turnsToGoal rfl (by decide +kernel) dX9_find_33 (by rw [hkR]; decide) (by rw [hrc, hrs]; decide) rfl (Nat.le_of_ble_eq_true rfl) rfl (fun rv v hv => ?_)
    subst hv
    have htg : tg_ 7 ((sf_ nx sz3 4 0 7 10240 E).1) (sv_ sz3 x 4) ≤ 15 := by have := hg (sv_ sz3 x 4); rw [tg_]; split <;> omega
    have efd : fd_ nx sz3 4 7 0 ((sf_ nx sz3 4 0 7 10240 E).1) x = (fdL nx sz3 4 7 0 ((sf_ nx sz3 4 0 7 10240 E).1) x (16 - tg_ 7 ((sf_ nx sz3 4 0 7 10240 E).1) (sv_ sz3 x 4)) (tg_ 7 ((sf_ nx sz3 4 0 7 10240 E).1) (sv_ sz3 x 4))).getD (0, []) := by rw [fd_, if_neg hnz]
    refine gw_istore_n C (lv2 := [(2, iN (tg_ 7 ((sf_ nx sz3 4 0 7 10240 E).1) (sv_ sz3 x 4))), (0, .ref (sa 0)), (1, .ref (ca 0))]) dX9_find_36 rfl (by omega) rfl ?_
    refine gw_iload_n C 0 dX9_find_37 rfl rfl ?_
    refine gw_istore_n C (lv2 := [(3, iN (tg_ 7 ((sf_ nx sz3 4 0 7 10240 E).1) (sv_ sz3 x 4))), (2, iN (tg_ 7 ((sf_ nx sz3 4 0 7 10240 E).1) (sv_ sz3 x 4))), (0, .ref (sa 0)), (1, .ref (ca 0))]) dX9_find_38 rfl (by omega) rfl ?_
    generalize tg_ 7 ((sf_ nx sz3 4 0 7 10240 E).1) (sv_ sz3 x 4) = kn at htg efd ⊢
    have lp : ∀ (n b : Nat) (WW NN : Nat → Nat), b + n = 16 → (∀ i, i < 4 → NN i = x i) → fd_ nx sz3 4 7 0 ((sf_ nx sz3 4 0 7 10240 E).1) x = (fdL nx sz3 4 7 0 ((sf_ nx sz3 4 0 7 10240 E).1) x n b).getD (0, []) → gw_G K (sg_ws cI cF (sa) 4 0 7 10240 (.ref ((sa) 4)) (WW) (NN) (((sa) 4, .inl (cJ, 82944, .inr (.inl (fun j => lN (wd ((sf_ nx sz3 4 0 7 10240 E).1) j))))) :: fl3_ws cI (sa) (sc_rd 3 cp sc) nx) ++ cb_ws cI tt ca cp co ep eo) 0 0 39 [(3, iN (b)), (0, .ref (sa 0))] [] := by
      intro n
      induction n with
      | zero =>
        intro b WW NN hb hr he
        refine gw_iload_n C 0 dX9_find_39 rfl rfl ?_
        refine gw_bipush C 15 dX9_find_40 (by decide) ?_
        refine gw_icmp_gt C 63 dX9_find_42 (by decide) (by omega) (by omega) (fun h154 => ?_) (fun h154 => ?_)
        ·
          refine gw_iconst C 0 dX9_find_63 (by decide) ?_
          rw [show fdL nx sz3 4 7 0 ((sf_ nx sz3 4 0 7 10240 E).1) x 0 b = none from rfl] at he
          exact ret (sa, sc_rd 3 cp sc, WW, NN) dX9_find_64 rfl ⟨by rw [he]; rfl, fun j hj => by rw [he] at hj; exact absurd hj (Nat.not_lt_zero _), rfl, sc_rd_ok 3 hcp hsc⟩ rfl (by decide) (by decide)
        ·
          exact absurd h154 (by omega)
      | succ n ih =>
        intro b WW NN hb hr he
        refine gw_iload_n C 0 dX9_find_39 rfl rfl ?_
        refine gw_bipush C 15 dX9_find_40 (by decide) ?_
        refine gw_icmp_gt C 63 dX9_find_42 (by decide) (by omega) (by omega) (fun h155 => ?_) (fun h155 => ?_)
        ·
          exact absurd h155 (by omega)
        ·
          refine gw_aload_n C 1 dX9_find_45 rfl rfl ?_
          refine gw_iconst C 0 dX9_find_46 (by decide) ?_
          refine gw_iload_n C 0 dX9_find_47 rfl rfl ?_
          refine gw_iconst C 4294967295 dX9_find_48 (by decide) ?_
          refine gw_appVI (n := 3) C (c_dive (kl K) (kD K) cI cB cS cJ cF cG tt (sa) 4 0 7 10240 82944 sz3 nx (fl3_ws cI (sa) (sc_rd 3 cp sc) nx) ((sf_ nx sz3 4 0 7 10240 E).1) (fun Wy Nm d hd => c_stateAt31 (kl K) (kD K) cI cB cS cJ cF cG tt (sa) Wy Nm _ (sc_rd 3 cp sc) nx _ d hd) (fun Wy Nm d fc hd hf h => c_advance31 (kl K) (kD K) cI cB cS cJ cF cG tt (sa) Wy Nm _ (sc_rd 3 cp sc) nx _ d fc hd hf (h 0 (by decide)) (h 1 (by decide)) (h 2 (by decide)) (h 3 (by decide))) (by decide) (by decide) (by decide) (by decide) sz3_pos hnx sv_lt3 hg b 0 4294967295 WW NN x (by omega) (Or.inr rfl) (fun i hi => by rw [Nat.zero_mul, Nat.zero_add]; exact hr i hi) hxl) 0 rfl rfl rfl gX9_find_X9_dive rfl (by decide +kernel) dX9_find_49 (by rw [hkR]; dsimp only; omega) (by rw [hkR]; dsimp only; omega) rfl (Nat.le_of_ble_eq_true rfl) rfl (fun ru u hu => ?_)
          obtain ⟨e1, e2, e3, e4⟩ := hu
          subst e1
          have hob := ob_2 (dv_ nx sz3 4 7 0 ((sf_ nx sz3 4 0 7 10240 E).1) b 4294967295 x)
          rw [Nat.zero_mul, Nat.zero_add] at e2
          rw [fdL] at he
          refine gw_if_eq C 57 dX9_find_52 (by decide) (by omega) (fun h156 => ?_) (fun h156 => ?_)
          ·
            rw [ob_0 h156] at he
            refine gw_iinc C (v := nI (b + 1)) (lv2 := [(3, iN (b + 1)), (0, .ref (sa 0))]) 0 dX9_find_57 rfl (nI_add _ _) (by omega) rfl ?_
            refine gw_goto C 39 dX9_find_60 (by decide) ?_
            refine gw_lv (lv2 := [(3, iN (b + 1)), (0, .ref (sa 0))]) [0, 1] rfl ?_
            exact ih (b + 1) u.1 u.2 (by omega) (fun i hi => by rw [e2 i hi]; exact hr i hi) he
          ·
            obtain ⟨wy, hwy⟩ := ob_1 h156
            rw [hwy] at he
            have he2 : fd_ nx sz3 4 7 0 ((sf_ nx sz3 4 0 7 10240 E).1) x = (b, wy) := he
            refine gw_iload_n C 0 dX9_find_55 rfl rfl ?_
            exact ret (sa, sc_rd 3 cp sc, u.1, u.2) dX9_find_56 rfl ⟨by rw [he2], fun j hj => by rw [he2] at hj ⊢; have := e4 wy hwy j hj; rw [Nat.zero_add] at this; exact this, rfl, sc_rd_ok 3 hcp hsc⟩ rfl (by decide) (by decide)
    refine gw_lv (lv2 := [(3, iN kn), (0, .ref (sa 0))]) [0, 2] rfl ?_
    exact lp (16 - kn) kn _ _ (by omega) hrow efd
  ·
    exact absurd h153 hnz
set_option maxHeartbeats 4000000 in
set_option maxRecDepth 100000 in
theorem c_findu3 (l : Launch) (D : va_G) (cI cB cS cJ cF cG : ClassId) (tt : Nat → Nat) (sa : Nat → Nat) (Wy Nm : Nat → Nat) (sc nx : Nat → Nat → Nat) (E : Nat) (ca : Nat → Nat) (cp co ep eo x : Nat → Nat) (hcp : ∀ j, j < 8 → cp j < 8) (hep : ∀ j, j < 12 → ep j < 12) (hsc : sc_ok 3 sc) (hrx : ∀ s, sc_ok 3 s → ∀ i, i < 4 → rv3 cp co ep eo s i = x i) (hxl : ∀ i, i < 4 → x i < sz3 i) (hnz : ¬ sv_ sz3 x 4 = 0) (hnx : nxP nx sz3 4) (hln : ln3 nx) (hsf : sfP nx sz3 4 0 7 10240 82944 E) : gw_CI (S := S4) l yX9_find wsX9_find 18 449 18 94304 D (mo_ty cI cB cS cJ cF cG) (zs tt) (sg_ws cI cF sa 4 0 7 10240 (.null) (Wy) (Nm) (fu3_ws cI sa (sc)) ++ cb_ws cI tt ca cp co ep eo) [.ref (sa 0), .ref (ca 0)] (fun r u => r = nI (fd_ nx sz3 4 7 0 (sf_ nx sz3 4 0 7 10240 E).1 x).1 ∧ (∀ j, j < (fd_ nx sz3 4 7 0 (sf_ nx sz3 4 0 7 10240 E).1 x).1 → u.2.2.1 j = (fd_ nx sz3 4 7 0 (sf_ nx sz3 4 0 7 10240 E).1 x).2.getD j 0) ∧ u.1 0 = sa 0 ∧ sc_ok 3 u.2.1) (fun u => sg_ws cI cF (u.1) 4 0 7 10240 (.ref ((u.1) 4)) (u.2.2.1) (u.2.2.2) (((u.1) 4, .inl (cJ, 82944, .inr (.inl (fun j => lN (wd ((sf_ nx sz3 4 0 7 10240 E).1) j))))) :: fl3_ws cI (u.1) (u.2.1) nx) ++ cb_ws cI tt ca cp co ep eo) := by
  refine gw_CI.of (cc := cX9_find) (maxL := 4) (rt := .int) (zs_ok tt) (by decide) rfl (Nat.le_of_ble_eq_true rfl) ?_
  intro K C hkl hkn hkR hkD hmn ret
  have C : gw_x K cX9_find RX9 wsX9_find (mo_ty cI cB cS cJ cF cG) (zs tt) := C
  subst hkl hkD
  have hrc : (kR K).cells = 18 := by rw [hkR]
  have hrs : (kR K).slots = 94304 := by rw [hkR]
  refine gw_aload_n C 0 dX9_find_0 rfl rfl ?_
  refine gw_aload_n C 1 dX9_find_1 rfl rfl ?_
  have esv : sv_ sz3 (rv3 cp co ep eo sc) 4 = sv_ sz3 x 4 := sv_congr sz3 4 (hrx sc hsc)
  have hsl0 := sv_lt3 x hxl
  have hg : ∀ s, (sf_ nx sz3 4 0 7 10240 E).1 s < 16 := (hsf.2.2.2.1 E (Nat.le_refl _)).1
  refine gw_allVI (n := 1) C (c_readStart30 (kl K) (kD K) cI cB cS cJ cF cG tt sa Wy Nm _ sc nx ca cp co ep eo hcp hep hsc) 0 rfl rfl rfl gX9_find_X9_readStart rfl (by decide +kernel) dX9_find_2 (by rw [hkR]; decide) (by rw [hrc, hrs]; decide) rfl (Nat.le_of_ble_eq_true rfl) rfl (fun rv v hv => ?_)
  subst hv
  rw [esv]
  refine gw_if_ne C 10 dX9_find_5 (by decide) (by omega) (fun h157 => ?_) (fun h157 => ?_)
  ·
    refine gw_aload_n C 0 dX9_find_10 rfl rfl ?_
    refine gw_get C 0 6 in_X9_find_X9 dX9_find_11 lk_X9_find_36 rfl rfl (by decide) rfl rfl ?_
    refine gw_nonnullN C dX9_find_14 ?_
    refine gw_aload_n C 0 dX9_find_17 rfl rfl ?_
    have hsc1 := sc_rd_ok 3 hcp hsc
    refine gw_appVV (n := 0) C (c_prepare3 (kl K) (kD K) cI cB cS cJ cF cG tt sa Wy (rN_ (rv3 cp co ep eo sc) Nm 4) (sc_rd 3 cp sc) nx E hsc1 hln hnx hsf) 0 rfl rfl rfl gX9_find_X9_prepare rfl (by decide +kernel) dX9_find_18 (by rw [hkR]; decide) (by rw [hrc, hrs]; decide) rfl (Nat.le_of_ble_eq_true rfl) rfl (fun u hu => ?_)
    obtain ⟨hu0, hu1, hu2⟩ := hu
    obtain ⟨sb, s2, N3⟩ := u
    dsimp only at hu0 hu1 hu2 ⊢
    rw [← hu0]
    refine gw_aload_n C 0 dX9_find_21 rfl rfl ?_
    refine gw_aload_n C 1 dX9_find_22 rfl rfl ?_
    have hrow : ∀ i, i < 4 → rN_ (rv3 cp co ep eo s2) N3 4 i = x i := fun i hi => by rw [rN_at _ N3 4 i hi]; exact hrx s2 hu2 i hi
    refine gw_allVI (n := 1) C (c_readStart31 (kl K) (kD K) cI cB cS cJ cF cG tt sb Wy N3 _ s2 nx _ ca cp co ep eo hcp hep hu2) 0 rfl rfl rfl gX9_find_X9_readStart rfl (by decide +kernel) dX9_find_23 (by rw [hkR]; decide) (by rw [hrc, hrs]; decide) rfl (Nat.le_of_ble_eq_true rfl) rfl (fun rv2 v2 hv2 => ?_)
    refine gw_pop C dX9_find_26 rfl ?_
    have hsc2 := sc_rd_ok 3 hcp hu2
    refine gw_aload_n C 0 dX9_find_27 rfl rfl ?_
    refine gw_aload_n C 0 dX9_find_28 rfl rfl ?_
    refine gw_iconst C 0 dX9_find_29 (by decide) ?_
    refine gw_appVI (n := 1) C (c_stateAt31 (kl K) (kD K) cI cB cS cJ cF cG tt (sb) _ _ _ (sc_rd 3 cp s2) nx _ 0 (by decide)) 0 rfl rfl rfl gX9_find_X9_stateAt rfl (by decide +kernel) dX9_find_30 (by rw [hkR]; decide) (by rw [hrc, hrs]; decide) rfl (Nat.le_of_ble_eq_true rfl) rfl (fun rv v hv => ?_)
    subst hv
    rw [Nat.zero_mul, sa_sv sz3 _ 0 (y := x) 4 (fun i hi => by rw [Nat.zero_add]; exact hrow i hi)]
    have hsl := sv_lt3 x hxl
    refine gw_appVI (n := 1) C (c_ttg (kl K) (kD K) cI cB cS cJ cF cG tt (sb) 4 0 7 10240 _ _ 82944 ((sf_ nx sz3 4 0 7 10240 E).1) (fl3_ws cI (sb) (sc_rd 3 cp s2) nx) hg (sv_ sz3 x 4) (by decide) (by omega)) 0 rfl rfl rfl gX9_find_X9_turnsToGoal rfl (by decide +kernel) dX9_find_33 (by rw [hkR]; decide) (by rw [hrc, hrs]; decide) rfl (Nat.le_of_ble_eq_true rfl) rfl (fun rv v hv => ?_)
    subst hv
    have htg : tg_ 7 ((sf_ nx sz3 4 0 7 10240 E).1) (sv_ sz3 x 4) ≤ 15 := by have := hg (sv_ sz3 x 4); rw [tg_]; split <;> omega
    have efd : fd_ nx sz3 4 7 0 ((sf_ nx sz3 4 0 7 10240 E).1) x = (fdL nx sz3 4 7 0 ((sf_ nx sz3 4 0 7 10240 E).1) x (16 - tg_ 7 ((sf_ nx sz3 4 0 7 10240 E).1) (sv_ sz3 x 4)) (tg_ 7 ((sf_ nx sz3 4 0 7 10240 E).1) (sv_ sz3 x 4))).getD (0, []) := by rw [fd_, if_neg hnz]
    refine gw_istore_n C (lv2 := [(2, iN (tg_ 7 ((sf_ nx sz3 4 0 7 10240 E).1) (sv_ sz3 x 4))), (0, .ref (sb 0)), (1, .ref (ca 0))]) dX9_find_36 rfl (by omega) rfl ?_
    refine gw_iload_n C 0 dX9_find_37 rfl rfl ?_
    refine gw_istore_n C (lv2 := [(3, iN (tg_ 7 ((sf_ nx sz3 4 0 7 10240 E).1) (sv_ sz3 x 4))), (2, iN (tg_ 7 ((sf_ nx sz3 4 0 7 10240 E).1) (sv_ sz3 x 4))), (0, .ref (sb 0)), (1, .ref (ca 0))]) dX9_find_38 rfl (by omega) rfl ?_
    generalize tg_ 7 ((sf_ nx sz3 4 0 7 10240 E).1) (sv_ sz3 x 4) = kn at htg efd ⊢
    have lp : ∀ (n b : Nat) (WW NN : Nat → Nat), b + n = 16 → (∀ i, i < 4 → NN i = x i) → fd_ nx sz3 4 7 0 ((sf_ nx sz3 4 0 7 10240 E).1) x = (fdL nx sz3 4 7 0 ((sf_ nx sz3 4 0 7 10240 E).1) x n b).getD (0, []) → gw_G K (sg_ws cI cF (sb) 4 0 7 10240 (.ref ((sb) 4)) (WW) (NN) (((sb) 4, .inl (cJ, 82944, .inr (.inl (fun j => lN (wd ((sf_ nx sz3 4 0 7 10240 E).1) j))))) :: fl3_ws cI (sb) (sc_rd 3 cp s2) nx) ++ cb_ws cI tt ca cp co ep eo) 18 94304 39 [(3, iN (b)), (0, .ref (sb 0))] [] := by
      intro n
      induction n with
      | zero =>
        intro b WW NN hb hr he
        refine gw_iload_n C 0 dX9_find_39 rfl rfl ?_
        refine gw_bipush C 15 dX9_find_40 (by decide) ?_
        refine gw_icmp_gt C 63 dX9_find_42 (by decide) (by omega) (by omega) (fun h158 => ?_) (fun h158 => ?_)
        ·
          refine gw_iconst C 0 dX9_find_63 (by decide) ?_
          rw [show fdL nx sz3 4 7 0 ((sf_ nx sz3 4 0 7 10240 E).1) x 0 b = none from rfl] at he
          exact ret (sb, sc_rd 3 cp s2, WW, NN) dX9_find_64 rfl ⟨by rw [he]; rfl, fun j hj => by rw [he] at hj; exact absurd hj (Nat.not_lt_zero _), hu0, hsc2⟩ rfl (by decide) (by decide)
        ·
          exact absurd h158 (by omega)
      | succ n ih =>
        intro b WW NN hb hr he
        refine gw_iload_n C 0 dX9_find_39 rfl rfl ?_
        refine gw_bipush C 15 dX9_find_40 (by decide) ?_
        refine gw_icmp_gt C 63 dX9_find_42 (by decide) (by omega) (by omega) (fun h159 => ?_) (fun h159 => ?_)
        ·
          exact absurd h159 (by omega)
        ·
          refine gw_aload_n C 1 dX9_find_45 rfl rfl ?_
          refine gw_iconst C 0 dX9_find_46 (by decide) ?_
          refine gw_iload_n C 0 dX9_find_47 rfl rfl ?_
          refine gw_iconst C 4294967295 dX9_find_48 (by decide) ?_
          refine gw_appVI (n := 3) C (c_dive (kl K) (kD K) cI cB cS cJ cF cG tt (sb) 4 0 7 10240 82944 sz3 nx (fl3_ws cI (sb) (sc_rd 3 cp s2) nx) ((sf_ nx sz3 4 0 7 10240 E).1) (fun Wy Nm d hd => c_stateAt31 (kl K) (kD K) cI cB cS cJ cF cG tt (sb) Wy Nm _ (sc_rd 3 cp s2) nx _ d hd) (fun Wy Nm d fc hd hf h => c_advance31 (kl K) (kD K) cI cB cS cJ cF cG tt (sb) Wy Nm _ (sc_rd 3 cp s2) nx _ d fc hd hf (h 0 (by decide)) (h 1 (by decide)) (h 2 (by decide)) (h 3 (by decide))) (by decide) (by decide) (by decide) (by decide) sz3_pos hnx sv_lt3 hg b 0 4294967295 WW NN x (by omega) (Or.inr rfl) (fun i hi => by rw [Nat.zero_mul, Nat.zero_add]; exact hr i hi) hxl) 0 rfl rfl rfl gX9_find_X9_dive rfl (by decide +kernel) dX9_find_49 (by rw [hkR]; dsimp only; omega) (by rw [hkR]; dsimp only; omega) rfl (Nat.le_of_ble_eq_true rfl) rfl (fun ru u hu => ?_)
          obtain ⟨e1, e2, e3, e4⟩ := hu
          subst e1
          have hob := ob_2 (dv_ nx sz3 4 7 0 ((sf_ nx sz3 4 0 7 10240 E).1) b 4294967295 x)
          rw [Nat.zero_mul, Nat.zero_add] at e2
          rw [fdL] at he
          refine gw_if_eq C 57 dX9_find_52 (by decide) (by omega) (fun h160 => ?_) (fun h160 => ?_)
          ·
            rw [ob_0 h160] at he
            refine gw_iinc C (v := nI (b + 1)) (lv2 := [(3, iN (b + 1)), (0, .ref (sb 0))]) 0 dX9_find_57 rfl (nI_add _ _) (by omega) rfl ?_
            refine gw_goto C 39 dX9_find_60 (by decide) ?_
            refine gw_lv (lv2 := [(3, iN (b + 1)), (0, .ref (sb 0))]) [0, 1] rfl ?_
            exact ih (b + 1) u.1 u.2 (by omega) (fun i hi => by rw [e2 i hi]; exact hr i hi) he
          ·
            obtain ⟨wy, hwy⟩ := ob_1 h160
            rw [hwy] at he
            have he2 : fd_ nx sz3 4 7 0 ((sf_ nx sz3 4 0 7 10240 E).1) x = (b, wy) := he
            refine gw_iload_n C 0 dX9_find_55 rfl rfl ?_
            exact ret (sb, sc_rd 3 cp s2, u.1, u.2) dX9_find_56 rfl ⟨by rw [he2], fun j hj => by rw [he2] at hj ⊢; have := e4 wy hwy j hj; rw [Nat.zero_add] at this; exact this, hu0, hsc2⟩ rfl (by decide) (by decide)
    refine gw_lv (lv2 := [(3, iN kn), (0, .ref (sb 0))]) [0, 2] rfl ?_
    exact lp (16 - kn) kn _ _ (by omega) hrow efd
  ·
    exact absurd h157 hnz
def ss3_ws (cI cJ cF : ClassId) (nx : Nat → Nat → Nat) (E : Nat) : Bool → S4 → va_W
  | false, u => sg_ws cI cF (u.1) 4 0 7 10240 (.null) (u.2.2.1) (u.2.2.2) (fu3_ws cI (u.1) (u.2.1))
  | true, u => sg_ws cI cF (u.1) 4 0 7 10240 (.ref ((u.1) 4)) (u.2.2.1) (u.2.2.2) (((u.1) 4, .inl (cJ, 82944, .inr (.inl (fun j => lN (wd ((sf_ nx sz3 4 0 7 10240 E).1) j))))) :: fl3_ws cI (u.1) (u.2.1) nx)
theorem c_find3 (l : Launch) (D : va_G) (cI cB cS cJ cF cG : ClassId) (tt : Nat → Nat) (b : Bool) (u0 : S4) (nx : Nat → Nat → Nat) (E : Nat) (ca : Nat → Nat) (cp co ep eo x : Nat → Nat) (hcp : ∀ j, j < 8 → cp j < 8) (hep : ∀ j, j < 12 → ep j < 12) (hsc : sc_ok 3 u0.2.1) (hrx : ∀ s, sc_ok 3 s → ∀ i, i < 4 → rv3 cp co ep eo s i = x i) (hxl : ∀ i, i < 4 → x i < sz3 i) (hnx : nxP nx sz3 4) (hln : ln3 nx) (hsf : sfP nx sz3 4 0 7 10240 82944 E) : gw_CI (S := S4) l yX9_find wsX9_find 18 449 (fdc b (sv_ sz3 x 4) 18) (fdc b (sv_ sz3 x 4) 94304) D (mo_ty cI cB cS cJ cF cG) (zs tt) (ss3_ws cI cJ cF nx E b u0 ++ cb_ws cI tt ca cp co ep eo) [.ref (u0.1 0), .ref (ca 0)] (fun r u => r = nI (fd_ nx sz3 4 7 0 (sf_ nx sz3 4 0 7 10240 E).1 x).1 ∧ (∀ j, j < (fd_ nx sz3 4 7 0 (sf_ nx sz3 4 0 7 10240 E).1 x).1 → u.2.2.1 j = (fd_ nx sz3 4 7 0 (sf_ nx sz3 4 0 7 10240 E).1 x).2.getD j 0) ∧ u.1 0 = u0.1 0 ∧ sc_ok 3 u.2.1) (fun u => ss3_ws cI cJ cF nx E (fdb b (sv_ sz3 x 4)) u ++ cb_ws cI tt ca cp co ep eo) := by
  obtain ⟨sa, sc, Wy, Nm⟩ := u0
  by_cases hz : sv_ sz3 x 4 = 0
  · cases b
    · rw [show fdc false (sv_ sz3 x 4) 18 = 0 from if_pos hz, show fdc false (sv_ sz3 x 4) 94304 = 0 from if_pos hz, show fdb false (sv_ sz3 x 4) = false from if_pos hz]
      exact c_findz3u l D cI cB cS cJ cF cG tt sa Wy Nm sc nx E ca cp co ep eo x hcp hep hsc hrx hz
    · rw [show fdc true (sv_ sz3 x 4) 18 = 0 from if_pos hz, show fdc true (sv_ sz3 x 4) 94304 = 0 from if_pos hz, show fdb true (sv_ sz3 x 4) = true from if_pos hz]
      exact c_findz3p l D cI cB cS cJ cF cG tt sa Wy Nm sc nx E ca cp co ep eo x hcp hep hsc hrx hz
  · cases b
    · rw [show fdc false (sv_ sz3 x 4) 18 = 18 from if_neg hz, show fdc false (sv_ sz3 x 4) 94304 = 94304 from if_neg hz, show fdb false (sv_ sz3 x 4) = true from if_neg hz]
      exact c_findu3 l D cI cB cS cJ cF cG tt sa Wy Nm sc nx E ca cp co ep eo x hcp hep hsc hrx hxl hz hnx hln hsf
    · rw [show fdc true (sv_ sz3 x 4) 18 = 0 from if_neg hz, show fdc true (sv_ sz3 x 4) 94304 = 0 from if_neg hz, show fdb true (sv_ sz3 x 4) = true from if_neg hz]
      exact c_findp3 l D cI cB cS cJ cF cG tt sa Wy Nm sc nx E ca cp co ep eo x hcp hep hsc hrx hxl hz hnx hsf
