section GWP
variable {K : gw_K} {cc : ByteArray} {own : String} {Ts : List Cond} {tys : List (ClassId × FieldType)} {zz : (Nat → Prop) → State → Heap → Prop} {ws : va_W} {cells slots pc : Nat} {lv lv' : List (Nat × Value)} {st : List Value}
theorem gw_perm {ws2 : va_W} (is : List Nat) (h : is.map (fun i => ws[i]?) = ws2.map some) (hn : va_nd is = true) (hl : True) (k : gw_G K ws2 cells slots pc lv st) : gw_G K ws cells slots pc lv st := fun H locs ls hL hP hD hS => k H locs ls hL (hP.sub is (gw_fm h)) (hD.sub is hn h) hS
end GWP
theorem in_X1_copyFrom_X1 : ∀ w ∈ wsX10, w ∈ wsX1_copyFrom := fun _ h => List.mem_cons_of_mem _ (List.mem_append_left _ (List.mem_append_right _ (h)))
theorem in_X1_make_X1 : ∀ w ∈ wsX10, w ∈ wsX1_make := fun _ h => List.mem_cons_of_mem _ (List.mem_append_left _ (List.mem_append_right _ (h)))
theorem in_X1_reset_X1 : ∀ w ∈ wsX10, w ∈ wsX1_reset := fun _ h => List.mem_cons_of_mem _ (List.mem_append_left _ (List.mem_append_right _ (h)))
theorem lk_X1_copyFrom_12 : Cond.fieldLink RX1 12 "StageCube$Cube" "corners" "LStageCube$Pieces;" ∈ wsX1_copyFrom := by decide +kernel
theorem lk_X1_copyFrom_18 : Cond.fieldLink RX1 18 "StageCube$Cube" "edges" "LStageCube$Pieces;" ∈ wsX1_copyFrom := by decide +kernel
theorem lk_X1_make_12 : Cond.fieldLink RX1 12 "StageCube$Cube" "corners" "LStageCube$Pieces;" ∈ wsX1_make := by decide +kernel
theorem lk_X1_make_18 : Cond.fieldLink RX1 18 "StageCube$Cube" "edges" "LStageCube$Pieces;" ∈ wsX1_make := by decide +kernel
theorem lk_X1_reset_12 : Cond.fieldLink RX1 12 "StageCube$Cube" "corners" "LStageCube$Pieces;" ∈ wsX1_reset := by decide +kernel
theorem lk_X1_reset_18 : Cond.fieldLink RX1 18 "StageCube$Cube" "edges" "LStageCube$Pieces;" ∈ wsX1_reset := by decide +kernel
/-- the static tables: each array's address is tt k -/
def cu_cr (j : Nat) : Nat := [4, 6, 7, 5, 0, 1, 3, 2, 4, 0, 2, 6, 5, 7, 3, 1, 4, 5, 1, 0, 7, 6, 2, 3].getD j 0
def cu_er (j : Nat) : Nat := [6, 3, 7, 2, 0, 5, 1, 4, 8, 4, 10, 6, 7, 11, 5, 9, 2, 9, 0, 8, 3, 10, 1, 11].getD j 0
def cu_tg (j : Nat) : Nat := [0, 0, 0, 0, 0, 0, 0, 0, 2, 1, 2, 1, 1, 2, 1, 2, 1, 2, 1, 2, 1, 2, 1, 2].getD j 0
def cu_fg (j : Nat) : Nat := [0, 0, 0, 0, 0, 0, 0, 0, 0, 0, 0, 0, 0, 0, 0, 0, 1, 1, 1, 1, 1, 1, 1, 1].getD j 0
def cu_ch (j : Nat) : Nat := [1, 0, 0, 0, 0, 1, 1, 0, 0, 0, 1, 2, 1, 0, 0, 1, 3, 3, 1, 0, 1, 4, 6, 4, 1, 1, 5, 10, 10, 5, 1, 6, 15, 20, 15, 1, 7, 21, 35, 35, 1, 8, 28, 56, 70, 1, 9, 36, 84, 126, 1, 10, 45, 120, 210, 1, 11, 55, 165, 330].getD j 0
def cu_ev (j : Nat) : Nat := [0, 3, 5, 6].getD j 0
def cu_ps (j : Nat) : Nat := [0, 3, 5, 6, 1, 2, 4, 7].getD j 0
def zs1 (C n : String) (t N : Nat) (f : Nat → Nat) (A : Nat → Prop) (U : State) (H : Heap) : Prop := va_Z C n "[I" (.ref t) A U H ∧ va_T .int t N (fun j => iN (f j)) A U H
def zs_read : MethodName := ⟨"StageCube$Feature", "read", "(LStageCube$Pieces;)I"⟩
def zs_show : MethodName := ⟨"StageCube$Feature", "show", "(ILStageCube$Pieces;)V"⟩
def zs_q (U : State) : Prop := va_AO "StageCube$Feature" U ∧ va_AO "StageCube$Stage" U ∧ ∀ C ∈ ["StageCube$CornerOrders", "StageCube$Marks", "StageCube$Orders", "StageCube$Pairings", "StageCube$Places"], va_Nw (.castable C "StageCube$Feature") U
theorem zs_q_mv {u U : State} (h : u.vm = U.vm ∨ u.WarmedH U.vm) (q : zs_q u) : zs_q U := by
  have al : u.vm.Alike U.vm := by
    rcases h with h | h
    · rw [h]; exact Vm.Alike.refl _
    · exact h.alike
  refine ⟨q.1.moved al, q.2.1.moved al, fun C hC => ?_⟩
  rcases h with h | h
  · exact (q.2.2 C hC).same rfl h
  · exact (q.2.2 C hC).warmC h
def zs (tt : Nat → Nat) (A : Nat → Prop) (U : State) (H : Heap) : Prop :=
  zs1 "StageCube$Pieces" "CORNER_ROUND" (tt 0) 24 cu_cr A U H ∧ zs1 "StageCube$Pieces" "EDGE_ROUND" (tt 1) 24 cu_er A U H ∧ zs1 "StageCube$Pieces" "TWIST_GAIN" (tt 2) 24 cu_tg A U H ∧ zs1 "StageCube$Pieces" "FLIP_GAIN" (tt 3) 24 cu_fg A U H ∧ zs1 "StageCube$Numbering" "CHOOSE" (tt 4) 60 cu_ch A U H ∧ zs1 "StageCube$Pairings" "EVEN" (tt 5) 4 cu_ev A U H ∧ zs1 "StageCube$Pairings" "POSITIONS" (tt 6) 8 cu_ps A U H ∧ va_Nw (.declares zs_read) U ∧ va_Nw (.declares zs_show) U ∧ zs_q U
theorem zs1_ok {C n : String} {t N : Nat} {f : Nat → Nat} : gw_zT (zs1 C n t N f) := by
  have al : ∀ (u U : State), u.vm = U.vm ∨ u.WarmedH U.vm → u.vm.Alike U.vm := by
    intro u U h
    rcases h with h | h
    · rw [h]; exact Vm.Alike.refl _
    · exact h.alike
  exact ⟨fun A u U H h q => ⟨q.1.moved (al u U h), q.2.moved (al u U h)⟩, fun A B U H H1 hBA hk q => ⟨(q.1.kept hk).narrow hBA, (q.2.kept hk).narrow hBA⟩⟩
theorem zs_ok (tt : Nat → Nat) : gw_zT (zs tt) := by
  have dk : ∀ (x : MethodName) (u U : State), u.vm = U.vm ∨ u.WarmedH U.vm → va_Nw (.declares x) u → va_Nw (.declares x) U := by
    intro x u U h q
    rcases h with h | h
    · exact q.same rfl h
    · exact q.warmD h
  have dn : ∀ (x : MethodName) (U : State), va_Nw (.declares x) U → va_Nw (.declares x) U := fun _ _ h => h
  exact ⟨fun A u U H h q => ⟨zs1_ok.1 A u U H h q.1, zs1_ok.1 A u U H h q.2.1, zs1_ok.1 A u U H h q.2.2.1, zs1_ok.1 A u U H h q.2.2.2.1, zs1_ok.1 A u U H h q.2.2.2.2.1, zs1_ok.1 A u U H h q.2.2.2.2.2.1, zs1_ok.1 A u U H h q.2.2.2.2.2.2.1, dk _ u U h q.2.2.2.2.2.2.2.1, dk _ u U h q.2.2.2.2.2.2.2.2.1, zs_q_mv h q.2.2.2.2.2.2.2.2.2⟩, fun A B U H H1 hBA hk q => ⟨zs1_ok.2 A B U H H1 hBA hk q.1, zs1_ok.2 A B U H H1 hBA hk q.2.1, zs1_ok.2 A B U H H1 hBA hk q.2.2.1, zs1_ok.2 A B U H H1 hBA hk q.2.2.2.1, zs1_ok.2 A B U H H1 hBA hk q.2.2.2.2.1, zs1_ok.2 A B U H H1 hBA hk q.2.2.2.2.2.1, zs1_ok.2 A B U H H1 hBA hk q.2.2.2.2.2.2.1, q.2.2.2.2.2.2.2.1, q.2.2.2.2.2.2.2.2⟩⟩
theorem cu_cr_lt : ∀ j, j < 24 → cu_cr j < 8 := by decide
theorem cu_er_lt : ∀ j, j < 24 → cu_er j < 12 := by decide
theorem cu_tg_lt : ∀ j, j < 24 → cu_tg j < 3 := by decide
theorem cu_fg_lt : ∀ j, j < 24 → cu_fg j < 3 := by decide
/-- quarters on corners and on edges -/
theorem c_quarterC (l : Launch) (D : va_G) (cI cB cS cJ cF cG : ClassId) (tt : Nat → Nat) (p pa ma : Nat) (P M : Nat → Nat) (fc : Nat) (hf : fc < 6) (hM : ∀ j, j < 8 → M j < 3) : gw_CV (S := (Nat → Nat) × (Nat → Nat)) l yX7_quarter wsX7_quarter 0 0 0 0 D (mo_ty cI cB cS cJ cF cG) (zs tt) (pc_ws cI p pa ma (tt 0) (tt 2) 8 3 P M) [.ref p, iN fc] (fun u => u = (qtP cu_cr (4 * fc) P, qtM cu_cr cu_tg 3 (4 * fc) M)) (fun u => pc_ws cI p pa ma (tt 0) (tt 2) 8 3 u.1 u.2) :=
  c_quarter l D cI cB cS cJ cF cG (zs tt) (zs_ok tt) p pa ma (tt 0) (tt 2) 8 3 P M fc hf (by decide) (by decide) (by decide) hM cu_cr cu_tg (fun _ _ _ h => h.1.2) (fun _ _ _ h => h.2.2.1.2) cu_cr_lt cu_tg_lt
theorem c_quarterE (l : Launch) (D : va_G) (cI cB cS cJ cF cG : ClassId) (tt : Nat → Nat) (p pa ma : Nat) (P M : Nat → Nat) (fc : Nat) (hf : fc < 6) (hM : ∀ j, j < 12 → M j < 2) : gw_CV (S := (Nat → Nat) × (Nat → Nat)) l yX7_quarter wsX7_quarter 0 0 0 0 D (mo_ty cI cB cS cJ cF cG) (zs tt) (pc_ws cI p pa ma (tt 1) (tt 3) 12 2 P M) [.ref p, iN fc] (fun u => u = (qtP cu_er (4 * fc) P, qtM cu_er cu_fg 2 (4 * fc) M)) (fun u => pc_ws cI p pa ma (tt 1) (tt 3) 12 2 u.1 u.2) :=
  c_quarter l D cI cB cS cJ cF cG (zs tt) (zs_ok tt) p pa ma (tt 1) (tt 3) 12 2 P M fc hf (by decide) (by decide) (by decide) hM cu_er cu_fg (fun _ _ _ h => h.2.1.2) (fun _ _ _ h => h.2.2.2.1.2) cu_er_lt cu_fg_lt
/-- the cells of a cube: addresses by ca 0 .. ca 6 -/
def cb_ws (cI : ClassId) (tt ca : Nat → Nat) (cp co ep eo : Nat → Nat) : va_W := [(ca 0, .inr (1, [.ref (ca 1), .ref (ca 4)]))] ++ pc_ws cI (ca 1) (ca 2) (ca 3) (tt 0) (tt 2) 8 3 cp co ++ pc_ws cI (ca 4) (ca 5) (ca 6) (tt 1) (tt 3) 12 2 ep eo
set_option maxHeartbeats 4000000 in
set_option maxRecDepth 100000 in
theorem c_creset (l : Launch) (D : va_G) (cI cB cS cJ cF cG : ClassId) (tt : Nat → Nat) (ca : Nat → Nat) (cp co ep eo : Nat → Nat) : gw_CV (S := Unit) l yX1_reset wsX1_reset 1 21 0 0 D (mo_ty cI cB cS cJ cF cG) (zs tt) (cb_ws cI tt ca cp co ep eo) [.ref (ca 0)] (fun _ => True) (fun _ => cb_ws cI tt ca (rs_P cp 8) (rs_M co 8) (rs_P ep 12) (rs_M eo 12)) := by
  refine gw_CV.of (cc := cX1_reset) (maxL := 1) (zs_ok tt) (by decide) rfl (Nat.le_of_ble_eq_true rfl) ?_
  intro K C hkl hkn hkR hkD hmn ret
  have C : gw_x K cX1_reset RX1 wsX1_reset (mo_ty cI cB cS cJ cF cG) (zs tt) := C
  subst hkl hkD
  refine gw_aload_n C 0 dX1_reset_0 rfl rfl ?_
  refine gw_get C 0 0 in_X1_reset_X1 dX1_reset_1 lk_X1_reset_12 rfl rfl (by decide) rfl rfl ?_
  refine gw_callVV (n := 0) (wr := [(ca 0, .inr (1, [.ref (ca 1), .ref (ca 4)])), (ca 4, .inr (5, [iN (12), iN (2), .ref (ca 5), .ref (ca 6), .ref (tt 1), .ref (tt 3)])), (ca 5, .inl (cI, 12, .inl (fun j => nI (ep j)))), (ca 6, .inl (cI, 12, .inl (fun j => nI (eo j))))]) C (c_reset (kl K) (kD K) cI cB cS cJ cF cG (zs tt) (zs_ok tt) (ca 1) (ca 2) (ca 3) (tt 0) (tt 2) 8 3 cp co (by decide)) 0 rfl rfl rfl gX1_reset_X7_reset rfl (by decide +kernel) dX1_reset_4 (by rw [hkR]; decide) (by rw [hkR]; decide) [1, 2, 3] [0, 4, 5, 6] rfl rfl rfl rfl (by decide) rfl (Nat.le_of_ble_eq_true rfl) rfl (fun u hu => ?_)
  subst hu
  refine gw_aload_n C 0 dX1_reset_7 rfl rfl ?_
  refine gw_get C 0 1 in_X1_reset_X1 dX1_reset_8 lk_X1_reset_18 rfl rfl (by decide) rfl rfl ?_
  refine gw_callVV (n := 0) (wr := [(ca 0, .inr (1, [.ref (ca 1), .ref (ca 4)])), (ca 1, .inr (5, [iN (8), iN (3), .ref (ca 2), .ref (ca 3), .ref (tt 0), .ref (tt 2)])), (ca 2, .inl (cI, 8, .inl (fun j => nI ((rs_P cp 8) j)))), (ca 3, .inl (cI, 8, .inl (fun j => nI ((rs_M co 8) j))))]) C (c_reset (kl K) (kD K) cI cB cS cJ cF cG (zs tt) (zs_ok tt) (ca 4) (ca 5) (ca 6) (tt 1) (tt 3) 12 2 ep eo (by decide)) 0 rfl rfl rfl gX1_reset_X7_reset rfl (by decide +kernel) dX1_reset_11 (by rw [hkR]; decide) (by rw [hkR]; decide) [1, 2, 3] [0, 4, 5, 6] rfl rfl rfl rfl (by decide) rfl (Nat.le_of_ble_eq_true rfl) rfl (fun v hv => ?_)
  subst hv
  exact ret () dX1_reset_14 trivial rfl (Nat.le_refl 0) (Nat.le_refl 0)
def mk_cp (fc : Nat) (cp : Nat → Nat) : Nat → Nat → Nat
  | 0 => cp
  | i + 1 => qtP cu_cr (4 * fc) (mk_cp fc cp i)
def mk_co (fc : Nat) (co : Nat → Nat) : Nat → Nat → Nat
  | 0 => co
  | i + 1 => qtM cu_cr cu_tg 3 (4 * fc) (mk_co fc co i)
def mk_ep (fc : Nat) (ep : Nat → Nat) : Nat → Nat → Nat
  | 0 => ep
  | i + 1 => qtP cu_er (4 * fc) (mk_ep fc ep i)
def mk_eo (fc : Nat) (eo : Nat → Nat) : Nat → Nat → Nat
  | 0 => eo
  | i + 1 => qtM cu_er cu_fg 2 (4 * fc) (mk_eo fc eo i)
theorem qtM_lt (R Gn : Nat → Nat) {k n : Nat} (a : Nat) (hk : 0 < k) {M : Nat → Nat} (h : ∀ j, j < n → M j < k) : ∀ j, j < n → qtM R Gn k a M j < k := by
  intro j hj
  unfold qtM
  simp only [up1]
  split
  · exact Nat.mod_lt _ hk
  · exact qt_M_lt R Gn a hk h 3 j hj
theorem mk_co_lt (fc : Nat) {co : Nat → Nat} (h : ∀ j, j < 8 → co j < 3) : ∀ i j, j < 8 → mk_co fc co i j < 3
  | 0 => h
  | i + 1 => qtM_lt _ _ _ (by decide) (mk_co_lt fc h i)
theorem mk_eo_lt (fc : Nat) {eo : Nat → Nat} (h : ∀ j, j < 12 → eo j < 2) : ∀ i j, j < 12 → mk_eo fc eo i j < 2
  | 0 => h
  | i + 1 => qtM_lt _ _ _ (by decide) (mk_eo_lt fc h i)
set_option maxHeartbeats 4000000 in
set_option maxRecDepth 100000 in
theorem c_cmake (l : Launch) (D : va_G) (cI cB cS cJ cF cG : ClassId) (tt : Nat → Nat) (ca : Nat → Nat) (cp co ep eo : Nat → Nat) (t : Nat) (ht : t < 18) (hco : ∀ j, j < 8 → co j < 3) (heo : ∀ j, j < 12 → eo j < 2) : gw_CV (S := Unit) l yX1_make wsX1_make 1 26 0 0 D (mo_ty cI cB cS cJ cF cG) (zs tt) (cb_ws cI tt ca cp co ep eo) [.ref (ca 0), iN t] (fun _ => True) (fun _ => cb_ws cI tt ca (mk_cp (t / 3) cp (t % 3 + 1)) (mk_co (t / 3) co (t % 3 + 1)) (mk_ep (t / 3) ep (t % 3 + 1)) (mk_eo (t / 3) eo (t % 3 + 1))) := by
  refine gw_CV.of (cc := cX1_make) (maxL := 5) (zs_ok tt) (by decide) rfl (Nat.le_of_ble_eq_true rfl) ?_
  intro K C hkl hkn hkR hkD hmn ret
  have C : gw_x K cX1_make RX1 wsX1_make (mo_ty cI cB cS cJ cF cG) (zs tt) := C
  subst hkl hkD
  refine gw_iload_n C 1 dX1_make_0 rfl rfl ?_
  refine gw_iconst C 3 dX1_make_1 (by decide) ?_
  refine gw_idiv C dX1_make_2 (by omega) (by omega) (by omega) ?_
  refine gw_istore_n C (lv2 := [(2, iN ((t) / (3))), (0, .ref (ca 0)), (1, iN (t))]) dX1_make_3 rfl (by omega) rfl ?_
  refine gw_iload_n C 2 dX1_make_4 rfl rfl ?_
  refine gw_iconst C 3 dX1_make_5 (by decide) ?_
  refine gw_irem C dX1_make_6 (by omega) (by omega) (by omega) ?_
  refine gw_iconst C 1 dX1_make_7 (by decide) ?_
  refine gw_iadd C dX1_make_8 ?_
  refine gw_istore_n C (lv2 := [(3, iN (((t) % (3)) + (1))), (2, iN ((t) / (3))), (0, .ref (ca 0)), (1, iN (t))]) dX1_make_9 rfl (by omega) rfl ?_
  refine gw_iconst C 0 dX1_make_10 (by decide) ?_
  refine gw_istore C (lv2 := [(4, iN (0)), (3, iN (((t) % (3)) + (1))), (2, iN ((t) / (3))), (0, .ref (ca 0)), (1, iN (t))]) dX1_make_11 (by omega) rfl ?_
  have lp : ∀ ni i : Nat, i + ni = (t % 3 + 1) → gw_G K ([(ca 0, .inr (1, [.ref (ca 1), .ref (ca 4)])), (ca 1, .inr (5, [iN (8), iN (3), .ref (ca 2), .ref (ca 3), .ref (tt 0), .ref (tt 2)])), (ca 2, .inl (cI, 8, .inl (fun j => nI ((mk_cp (t / 3) cp (i)) j)))), (ca 3, .inl (cI, 8, .inl (fun j => nI ((mk_co (t / 3) co (i)) j)))), (ca 4, .inr (5, [iN (12), iN (2), .ref (ca 5), .ref (ca 6), .ref (tt 1), .ref (tt 3)])), (ca 5, .inl (cI, 12, .inl (fun j => nI ((mk_ep (t / 3) ep (i)) j)))), (ca 6, .inl (cI, 12, .inl (fun j => nI ((mk_eo (t / 3) eo (i)) j))))]) 0 0 13 [(4, iN (i)), (3, iN (((t) % (3)) + (1))), (2, iN ((t) / (3))), (0, .ref (ca 0)), (1, iN (t))] [] := by
    intro ni
    induction ni with
    | zero =>
      intro i hii
      refine gw_iload C 0 dX1_make_13 rfl ?_
      refine gw_iload_n C 1 dX1_make_15 rfl rfl ?_
      refine gw_icmp_ge C 41 dX1_make_16 (by decide) (by omega) (by omega) (fun h61 => ?_) (fun h61 => ?_)
      ·
        exact ret () dX1_make_41 trivial (by rw [show i = t % 3 + 1 by omega]; rfl) (Nat.le_refl 0) (Nat.le_refl 0)
      ·
        exact absurd h61 (by omega)
    | succ ni ihi =>
      intro i hii
      refine gw_iload C 0 dX1_make_13 rfl ?_
      refine gw_iload_n C 1 dX1_make_15 rfl rfl ?_
      refine gw_icmp_ge C 41 dX1_make_16 (by decide) (by omega) (by omega) (fun h62 => ?_) (fun h62 => ?_)
      ·
        exact absurd h62 (by omega)
      ·
        refine gw_aload_n C 3 dX1_make_19 rfl rfl ?_
        refine gw_get C 0 0 in_X1_make_X1 dX1_make_20 lk_X1_make_12 rfl rfl (by decide) rfl rfl ?_
        refine gw_iload_n C 2 dX1_make_23 rfl rfl ?_
        refine gw_callVV (n := 1) (wr := [(ca 0, .inr (1, [.ref (ca 1), .ref (ca 4)])), (ca 4, .inr (5, [iN (12), iN (2), .ref (ca 5), .ref (ca 6), .ref (tt 1), .ref (tt 3)])), (ca 5, .inl (cI, 12, .inl (fun j => nI ((mk_ep (t / 3) ep (i)) j)))), (ca 6, .inl (cI, 12, .inl (fun j => nI ((mk_eo (t / 3) eo (i)) j))))]) C (c_quarterC (kl K) (kD K) cI cB cS cJ cF cG tt (ca 1) (ca 2) (ca 3) (mk_cp (t / 3) cp (i)) (mk_co (t / 3) co (i)) (t / 3) (by omega) (mk_co_lt (t / 3) hco i)) 0 rfl rfl rfl gX1_make_X7_quarter rfl (by decide +kernel) dX1_make_24 (by rw [hkR]; decide) (by rw [hkR]; decide) [1, 2, 3] [0, 4, 5, 6] rfl rfl rfl rfl (by decide) rfl (Nat.le_of_ble_eq_true rfl) rfl (fun u hu => ?_)
        subst hu
        refine gw_aload_n C 3 dX1_make_27 rfl rfl ?_
        refine gw_get C 0 1 in_X1_make_X1 dX1_make_28 lk_X1_make_18 rfl rfl (by decide) rfl rfl ?_
        refine gw_iload_n C 2 dX1_make_31 rfl rfl ?_
        refine gw_callVV (n := 1) (wr := [(ca 0, .inr (1, [.ref (ca 1), .ref (ca 4)])), (ca 1, .inr (5, [iN (8), iN (3), .ref (ca 2), .ref (ca 3), .ref (tt 0), .ref (tt 2)])), (ca 2, .inl (cI, 8, .inl (fun j => nI ((mk_cp (t / 3) cp (i + 1)) j)))), (ca 3, .inl (cI, 8, .inl (fun j => nI ((mk_co (t / 3) co (i + 1)) j))))]) C (c_quarterE (kl K) (kD K) cI cB cS cJ cF cG tt (ca 4) (ca 5) (ca 6) (mk_ep (t / 3) ep (i)) (mk_eo (t / 3) eo (i)) (t / 3) (by omega) (mk_eo_lt (t / 3) heo i)) 0 rfl rfl rfl gX1_make_X7_quarter rfl (by decide +kernel) dX1_make_32 (by rw [hkR]; decide) (by rw [hkR]; decide) [1, 2, 3] [0, 4, 5, 6] rfl rfl rfl rfl (by decide) rfl (Nat.le_of_ble_eq_true rfl) rfl (fun v hv => ?_)
        subst hv
        refine gw_iinc C (v := nI (i + 1)) (lv2 := [(4, iN (i + 1)), (3, iN (((t) % (3)) + (1))), (2, iN ((t) / (3))), (0, .ref (ca 0)), (1, iN (t))]) 0 dX1_make_35 rfl (nI_add _ _) (by omega) rfl ?_
        refine gw_goto C 13 dX1_make_38 (by decide) ?_
        refine gw_lv (lv2 := [(4, iN (i + 1)), (3, iN (((t) % (3)) + (1))), (2, iN ((t) / (3))), (0, .ref (ca 0)), (1, iN (t))]) [0, 1, 2, 3, 4] rfl ?_
        exact ihi (i + 1) (by omega)
  refine gw_lv (lv2 := [(4, iN (0)), (3, iN (((t) % (3)) + (1))), (2, iN ((t) / (3))), (0, .ref (ca 0)), (1, iN (t))]) [0, 1, 2, 3, 4] rfl ?_
  exact lp ((t % 3 + 1) - 0) 0 (by omega)
set_option maxHeartbeats 4000000 in
set_option maxRecDepth 100000 in
theorem c_ccopy (l : Launch) (D : va_G) (cI cB cS cJ cF cG : ClassId) (tt : Nat → Nat) (ca : Nat → Nat) (cp co ep eo : Nat → Nat) (cb : Nat → Nat) (cp2 co2 ep2 eo2 : Nat → Nat) : gw_CV (S := Unit) l yX1_copyFrom wsX1_copyFrom 1 22 0 0 D (mo_ty cI cB cS cJ cF cG) (zs tt) (cb_ws cI tt ca cp co ep eo ++ cb_ws cI tt cb cp2 co2 ep2 eo2) [.ref (ca 0), .ref (cb 0)] (fun _ => True) (fun _ => cb_ws cI tt ca (cp_ cp cp2 8) (cp_ co co2 8) (cp_ ep ep2 12) (cp_ eo eo2 12) ++ cb_ws cI tt cb cp2 co2 ep2 eo2) := by
  refine gw_CV.of (cc := cX1_copyFrom) (maxL := 2) (zs_ok tt) (by decide) rfl (Nat.le_of_ble_eq_true rfl) ?_
  intro K C hkl hkn hkR hkD hmn ret
  have C : gw_x K cX1_copyFrom RX1 wsX1_copyFrom (mo_ty cI cB cS cJ cF cG) (zs tt) := C
  subst hkl hkD
  refine gw_aload_n C 0 dX1_copyFrom_0 rfl rfl ?_
  refine gw_get C 0 0 in_X1_copyFrom_X1 dX1_copyFrom_1 lk_X1_copyFrom_12 rfl rfl (by decide) rfl rfl ?_
  refine gw_aload_n C 1 dX1_copyFrom_4 rfl rfl ?_
  refine gw_get C 7 0 in_X1_copyFrom_X1 dX1_copyFrom_5 lk_X1_copyFrom_12 rfl rfl (by decide) rfl rfl ?_
  refine gw_callVV (n := 1) (wr := [(ca 0, .inr (1, [.ref (ca 1), .ref (ca 4)])), (ca 4, .inr (5, [iN (12), iN (2), .ref (ca 5), .ref (ca 6), .ref (tt 1), .ref (tt 3)])), (ca 5, .inl (cI, 12, .inl (fun j => nI (ep j)))), (ca 6, .inl (cI, 12, .inl (fun j => nI (eo j)))), (cb 0, .inr (1, [.ref (cb 1), .ref (cb 4)])), (cb 4, .inr (5, [iN (12), iN (2), .ref (cb 5), .ref (cb 6), .ref (tt 1), .ref (tt 3)])), (cb 5, .inl (cI, 12, .inl (fun j => nI (ep2 j)))), (cb 6, .inl (cI, 12, .inl (fun j => nI (eo2 j))))]) C (c_pcopy (kl K) (kD K) cI cB cS cJ cF cG (zs tt) (zs_ok tt) (ca 1) (ca 2) (ca 3) (tt 0) (tt 2) 8 3 cp co (cb 1) (cb 2) (cb 3) (tt 0) (tt 2) 3 cp2 co2 (by decide)) 0 rfl rfl rfl gX1_copyFrom_X7_copyFrom rfl (by decide +kernel) dX1_copyFrom_8 (by rw [hkR]; decide) (by rw [hkR]; decide) [1, 2, 3, 8, 9, 10] [0, 4, 5, 6, 7, 11, 12, 13] rfl rfl rfl rfl (by decide) rfl (Nat.le_of_ble_eq_true rfl) rfl (fun u hu => ?_)
  subst hu
  refine gw_aload_n C 0 dX1_copyFrom_11 rfl rfl ?_
  refine gw_get C 0 1 in_X1_copyFrom_X1 dX1_copyFrom_12 lk_X1_copyFrom_18 rfl rfl (by decide) rfl rfl ?_
  refine gw_aload_n C 1 dX1_copyFrom_15 rfl rfl ?_
  refine gw_get C 4 1 in_X1_copyFrom_X1 dX1_copyFrom_16 lk_X1_copyFrom_18 rfl rfl (by decide) rfl rfl ?_
  refine gw_callVV (n := 1) (wr := [(ca 0, .inr (1, [.ref (ca 1), .ref (ca 4)])), (cb 0, .inr (1, [.ref (cb 1), .ref (cb 4)])), (ca 1, .inr (5, [iN (8), iN (3), .ref (ca 2), .ref (ca 3), .ref (tt 0), .ref (tt 2)])), (ca 2, .inl (cI, 8, .inl (fun j => nI ((cp_ cp cp2 8) j)))), (ca 3, .inl (cI, 8, .inl (fun j => nI ((cp_ co co2 8) j)))), (cb 1, .inr (5, [iN (8), iN (3), .ref (cb 2), .ref (cb 3), .ref (tt 0), .ref (tt 2)])), (cb 2, .inl (cI, 8, .inl (fun j => nI (cp2 j)))), (cb 3, .inl (cI, 8, .inl (fun j => nI (co2 j))))]) C (c_pcopy (kl K) (kD K) cI cB cS cJ cF cG (zs tt) (zs_ok tt) (ca 4) (ca 5) (ca 6) (tt 1) (tt 3) 12 2 ep eo (cb 4) (cb 5) (cb 6) (tt 1) (tt 3) 2 ep2 eo2 (by decide)) 0 rfl rfl rfl gX1_copyFrom_X7_copyFrom rfl (by decide +kernel) dX1_copyFrom_19 (by rw [hkR]; decide) (by rw [hkR]; decide) [1, 2, 3, 5, 6, 7] [0, 4, 8, 9, 10, 11, 12, 13] rfl rfl rfl rfl (by decide) rfl (Nat.le_of_ble_eq_true rfl) rfl (fun v hv => ?_)
  subst hv
  refine gw_perm (ws2 := (cb_ws cI tt ca (cp_ cp cp2 8) (cp_ co co2 8) (cp_ ep ep2 12) (cp_ eo eo2 12) ++ cb_ws cI tt cb cp2 co2 ep2 eo2)) [0, 2, 3, 4, 8, 9, 10, 1, 5, 6, 7, 11, 12, 13] rfl (by decide) (by decide) ?_
  exact ret () dX1_copyFrom_22 trivial rfl (Nat.le_refl 0) (Nat.le_refl 0)
