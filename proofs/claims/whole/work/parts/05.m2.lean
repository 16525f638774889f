def mo_lkS (p : Nat) (N : Nat → Nat → Nat) : Nat → Nat → Nat := if p < 8 then mo_up (mo_up (mo_up (mo_up N 6 p (N 2 p)) 7 p (N 3 p)) 4 p (N 0 p)) 5 p (N 1 p) else mo_up (mo_up N 6 p (N 2 p)) 7 p (N 3 p)
def mo_lk : Nat → (Nat → Nat → Nat) → Nat → Nat → Nat
  | 0, N => N
  | p + 1, N => mo_lkS p (mo_lk p N)
def mo_t1 : Nat → (Nat → Nat → Nat) → Nat → Nat → Nat
  | 0, N => N
  | p + 1, N => mo_up (mo_up (mo_t1 p N) 8 p (mo_t1 p N 4 p)) 9 p (mo_t1 p N 5 p)
def mo_t2 (t : Nat) : Nat → (Nat → Nat → Nat) → Nat → Nat → Nat
  | 0, N => N
  | p + 1, N => mo_up (mo_up (mo_t2 t p N) 4 p (mo_t2 t p N 8 (mo_t2 t p N 10 (8 * t + p)))) 5 p ((mo_t2 t p N 9 (mo_t2 t p N 10 (8 * t + p)) + mo_t2 t p N 11 (8 * t + p)) % 3)
def mo_t3 : Nat → (Nat → Nat → Nat) → Nat → Nat → Nat
  | 0, N => N
  | p + 1, N => mo_up (mo_up (mo_t3 p N) 8 p (mo_t3 p N 6 p)) 9 p (mo_t3 p N 7 p)
def mo_t4 (t : Nat) : Nat → (Nat → Nat → Nat) → Nat → Nat → Nat
  | 0, N => N
  | p + 1, N => mo_up (mo_up (mo_t4 t p N) 6 p (mo_t4 t p N 8 (mo_t4 t p N 12 (12 * t + p)))) 7 p (mo_t4 t p N 9 (mo_t4 t p N 12 (12 * t + p)) ^^^ mo_t4 t p N 13 (12 * t + p))
def mo_turn (t : Nat) (N : Nat → Nat → Nat) : Nat → Nat → Nat := mo_t4 t 12 (mo_t3 12 (mo_t2 t 8 (mo_t1 8 N)))
/-- an iteration that never writes the array k -/
theorem mo_lk_k {k : Nat} (h4 : k ≠ 4) (h5 : k ≠ 5) (h6 : k ≠ 6) (h7 : k ≠ 7) (N : Nat → Nat → Nat) : ∀ p, mo_lk p N k = N k := by
  intro p
  induction p with
  | zero => rfl
  | succ p ih => funext j; rw [mo_lk, mo_lkS]; split <;> simp [mo_up, h4, h5, h6, h7, ih]
theorem mo_t1_k {k : Nat} (h8 : k ≠ 8) (h9 : k ≠ 9) (N : Nat → Nat → Nat) : ∀ p, mo_t1 p N k = N k := by
  intro p
  induction p with
  | zero => rfl
  | succ p ih => funext j; simp [mo_t1, mo_up, h8, h9, ih]
theorem mo_t2_k {k t : Nat} (h8 : k ≠ 4) (h9 : k ≠ 5) (N : Nat → Nat → Nat) : ∀ p, mo_t2 t p N k = N k := by
  intro p
  induction p with
  | zero => rfl
  | succ p ih => funext j; simp [mo_t2, mo_up, h8, h9, ih]
theorem mo_t3_k {k : Nat} (h8 : k ≠ 8) (h9 : k ≠ 9) (N : Nat → Nat → Nat) : ∀ p, mo_t3 p N k = N k := by
  intro p
  induction p with
  | zero => rfl
  | succ p ih => funext j; simp [mo_t3, mo_up, h8, h9, ih]
theorem mo_t4_k {k t : Nat} (h8 : k ≠ 6) (h9 : k ≠ 7) (N : Nat → Nat → Nat) : ∀ p, mo_t4 t p N k = N k := by
  intro p
  induction p with
  | zero => rfl
  | succ p ih => funext j; simp [mo_t4, mo_up, h8, h9, ih]
theorem mo_t1_9 (N : Nat → Nat → Nat) : ∀ p j, j < p → mo_t1 p N 9 j = N 5 j := by
  intro p
  induction p with
  | zero => intro j h; omega
  | succ p ih =>
    intro j h
    rw [mo_t1]
    by_cases e : j = p
    · subst e; simp [mo_up, mo_t1_k (k := 5) (by decide) (by decide)]
    · simp [mo_up, e, ih j (by omega)]
theorem in_X11_look : ∀ w ∈ wsX110, w ∈ wsX11_look := fun _ h => List.mem_cons_of_mem _ (List.mem_append_right _ h)
theorem lk_X11_look_7 : Cond.fieldLink RX11 7 "StageCubeModel" "corners" "[I" ∈ wsX11_look := by decide +kernel
theorem lk_X11_look_13 : Cond.fieldLink RX11 13 "StageCubeModel" "twists" "[I" ∈ wsX11_look := by decide +kernel
theorem lk_X11_look_16 : Cond.fieldLink RX11 16 "StageCubeModel" "edges" "[I" ∈ wsX11_look := by decide +kernel
theorem lk_X11_look_19 : Cond.fieldLink RX11 19 "StageCubeModel" "flips" "[I" ∈ wsX11_look := by decide +kernel
theorem lk_X11_look_22 : Cond.fieldLink RX11 22 "StageCubeModel" "c" "[I" ∈ wsX11_look := by decide +kernel
theorem lk_X11_look_25 : Cond.fieldLink RX11 25 "StageCubeModel" "tw" "[I" ∈ wsX11_look := by decide +kernel
theorem lk_X11_look_28 : Cond.fieldLink RX11 28 "StageCubeModel" "e" "[I" ∈ wsX11_look := by decide +kernel
theorem lk_X11_look_31 : Cond.fieldLink RX11 31 "StageCubeModel" "fl" "[I" ∈ wsX11_look := by decide +kernel
set_option maxHeartbeats 4000000 in
set_option maxRecDepth 100000 in
theorem c_look (l : Launch) (D : va_G) (cI cB cS cJ cF cG : ClassId) (zz : (Nat → Prop) → State → Heap → Prop) (hz : gw_zT zz) (o : Nat) (ad : Nat → Nat) (N : Nat → Nat → Nat) : gw_CV l yX11_look wsX11_look 0 0 0 0 D (mo_ty cI cB cS cJ cF cG) zz (mo_ws o ad cI cB cS N) [.ref o] (fun N' => N' = mo_lk 12 N) (fun N' => mo_ws o ad cI cB cS N') := by
  refine gw_CV.of (cc := cX11_look) (maxL := 2) hz (by decide) rfl (Nat.le_of_ble_eq_true rfl) ?_
  intro K C hkl hkn hkR hkD hmn ret
  have C : gw_x K cX11_look RX11 wsX11_look (mo_ty cI cB cS cJ cF cG) zz := C
  refine gw_iconst C 0 dX11_look_0 (by decide) ?_
  refine gw_istore_n C (lv2 := [(1, iN (0)), (0, .ref (o))]) dX11_look_1 rfl (by omega) rfl ?_
  have lp : ∀ ni i : Nat, i + ni = 12 → gw_G K (mo_ws o ad cI cB cS (mo_lk i N)) 0 0 2 [(1, iN (i)), (0, .ref (o))] [] := by
    intro ni
    induction ni with
    | zero =>
      intro i hii
      refine gw_iload_n C 0 dX11_look_2 rfl rfl ?_
      refine gw_bipush C 12 dX11_look_3 (by decide) ?_
      refine gw_icmp_ge C 68 dX11_look_5 (by decide) (by omega) (by omega) (fun h1 => ?_) (fun h1 => ?_)
      ·
        exact ret (mo_lk 12 N) dX11_look_68 rfl (by rw [show i = 12 by omega]) (Nat.le_refl 0) (Nat.le_refl 0)
      ·
        exact absurd h1 (by omega)
    | succ ni ihi =>
      intro i hii
      refine gw_iload_n C 0 dX11_look_2 rfl rfl ?_
      refine gw_bipush C 12 dX11_look_3 (by decide) ?_
      refine gw_icmp_ge C 68 dX11_look_5 (by decide) (by omega) (by omega) (fun h2 => ?_) (fun h2 => ?_)
      ·
        exact absurd h2 (by omega)
      ·
        refine gw_aload_n C 1 dX11_look_8 rfl rfl ?_
        refine gw_get C 0 6 in_X11_look dX11_look_9 lk_X11_look_28 rfl rfl (by decide) rfl rfl ?_
        refine gw_iload_n C 0 dX11_look_12 rfl rfl ?_
        refine gw_aload_n C 1 dX11_look_13 rfl rfl ?_
        refine gw_get C 0 2 in_X11_look dX11_look_14 lk_X11_look_16 rfl rfl (by decide) rfl rfl ?_
        refine gw_iload_n C 0 dX11_look_17 rfl rfl ?_
        refine gw_ild C (v := nI ((mo_lk i N) 2 (i))) 3 0 dX11_look_18 rfl rfl (by decide) (by omega) (by first | rfl | simp [mo_up]) ?_
        refine gw_ist C 7 0 dX11_look_19 rfl rfl (by decide) (by omega) mo_st6 ?_
        refine gw_aload_n C 1 dX11_look_20 rfl rfl ?_
        refine gw_get C 0 7 in_X11_look dX11_look_21 lk_X11_look_31 rfl rfl (by decide) rfl rfl ?_
        refine gw_iload_n C 0 dX11_look_24 rfl rfl ?_
        refine gw_aload_n C 1 dX11_look_25 rfl rfl ?_
        refine gw_get C 0 3 in_X11_look dX11_look_26 lk_X11_look_19 rfl rfl (by decide) rfl rfl ?_
        refine gw_iload_n C 0 dX11_look_29 rfl rfl ?_
        refine gw_ild C (v := nI ((mo_lk i N) 3 (i))) 4 0 dX11_look_30 rfl rfl (by decide) (by omega) (by first | rfl | simp [mo_up]) ?_
        refine gw_ist C 8 0 dX11_look_31 rfl rfl (by decide) (by omega) mo_st7 ?_
        refine gw_iload_n C 0 dX11_look_32 rfl rfl ?_
        refine gw_bipush C 8 dX11_look_33 (by decide) ?_
        refine gw_icmp_ge C 62 dX11_look_35 (by decide) (by omega) (by omega) (fun h3 => ?_) (fun h3 => ?_)
        ·
          refine gw_iinc C (v := nI (i + 1)) (lv2 := [(1, iN (i + 1)), (0, .ref (o))]) 0 dX11_look_62 rfl (nI_add _ _) (by omega) rfl ?_
          refine gw_goto C 2 dX11_look_65 (by decide) ?_
          refine gw_lv (lv2 := [(1, iN (i + 1)), (0, .ref (o))]) [0, 1] rfl ?_
          exact gw_ws (congrArg (mo_ws o ad cI cB cS) (by rw [mo_lk, mo_lkS, if_neg (by omega)])) (ihi (i + 1) (by omega))
        ·
          refine gw_aload_n C 1 dX11_look_38 rfl rfl ?_
          refine gw_get C 0 4 in_X11_look dX11_look_39 lk_X11_look_22 rfl rfl (by decide) rfl rfl ?_
          refine gw_iload_n C 0 dX11_look_42 rfl rfl ?_
          refine gw_aload_n C 1 dX11_look_43 rfl rfl ?_
          refine gw_get C 0 0 in_X11_look dX11_look_44 lk_X11_look_7 rfl rfl (by decide) rfl rfl ?_
          refine gw_iload_n C 0 dX11_look_47 rfl rfl ?_
          refine gw_ild C (v := nI ((mo_lk i N) 0 (i))) 1 0 dX11_look_48 rfl rfl (by decide) (by omega) (by first | rfl | simp [mo_up]) ?_
          refine gw_ist C 5 0 dX11_look_49 rfl rfl (by decide) (by omega) mo_st4 ?_
          refine gw_aload_n C 1 dX11_look_50 rfl rfl ?_
          refine gw_get C 0 5 in_X11_look dX11_look_51 lk_X11_look_25 rfl rfl (by decide) rfl rfl ?_
          refine gw_iload_n C 0 dX11_look_54 rfl rfl ?_
          refine gw_aload_n C 1 dX11_look_55 rfl rfl ?_
          refine gw_get C 0 1 in_X11_look dX11_look_56 lk_X11_look_13 rfl rfl (by decide) rfl rfl ?_
          refine gw_iload_n C 0 dX11_look_59 rfl rfl ?_
          refine gw_ild C (v := nI ((mo_lk i N) 1 (i))) 2 0 dX11_look_60 rfl rfl (by decide) (by omega) (by first | rfl | simp [mo_up]) ?_
          refine gw_ist C 6 0 dX11_look_61 rfl rfl (by decide) (by omega) mo_st5 ?_
          refine gw_iinc C (v := nI (i + 1)) (lv2 := [(1, iN (i + 1)), (0, .ref (o))]) 0 dX11_look_62 rfl (nI_add _ _) (by omega) rfl ?_
          refine gw_goto C 2 dX11_look_65 (by decide) ?_
          refine gw_lv (lv2 := [(1, iN (i + 1)), (0, .ref (o))]) [0, 1] rfl ?_
          exact gw_ws (congrArg (mo_ws o ad cI cB cS) (by rw [mo_lk, mo_lkS, if_pos (by omega)])) (ihi (i + 1) (by omega))
  refine gw_lv (lv2 := [(1, iN (0)), (0, .ref (o))]) [0, 1] rfl ?_
  exact lp (12 - 0) 0 (by omega)
theorem in_X11_turnIt : ∀ w ∈ wsX110, w ∈ wsX11_turnIt := fun _ h => List.mem_cons_of_mem _ (List.mem_append_right _ h)
theorem lk_X11_turnIt_22 : Cond.fieldLink RX11 22 "StageCubeModel" "c" "[I" ∈ wsX11_turnIt := by decide +kernel
theorem lk_X11_turnIt_25 : Cond.fieldLink RX11 25 "StageCubeModel" "tw" "[I" ∈ wsX11_turnIt := by decide +kernel
theorem lk_X11_turnIt_28 : Cond.fieldLink RX11 28 "StageCubeModel" "e" "[I" ∈ wsX11_turnIt := by decide +kernel
theorem lk_X11_turnIt_31 : Cond.fieldLink RX11 31 "StageCubeModel" "fl" "[I" ∈ wsX11_turnIt := by decide +kernel
theorem lk_X11_turnIt_34 : Cond.fieldLink RX11 34 "StageCubeModel" "old" "[I" ∈ wsX11_turnIt := by decide +kernel
theorem lk_X11_turnIt_37 : Cond.fieldLink RX11 37 "StageCubeModel" "oldMore" "[I" ∈ wsX11_turnIt := by decide +kernel
theorem lk_X11_turnIt_40 : Cond.fieldLink RX11 40 "StageCubeModel" "cornerFrom" "[I" ∈ wsX11_turnIt := by decide +kernel
theorem lk_X11_turnIt_43 : Cond.fieldLink RX11 43 "StageCubeModel" "cornerMore" "[I" ∈ wsX11_turnIt := by decide +kernel
theorem lk_X11_turnIt_46 : Cond.fieldLink RX11 46 "StageCubeModel" "edgeFrom" "[I" ∈ wsX11_turnIt := by decide +kernel
theorem lk_X11_turnIt_49 : Cond.fieldLink RX11 49 "StageCubeModel" "edgeMore" "[I" ∈ wsX11_turnIt := by decide +kernel
set_option maxHeartbeats 4000000 in
set_option maxRecDepth 100000 in
theorem c_turnIt (l : Launch) (D : va_G) (cI cB cS cJ cF cG : ClassId) (zz : (Nat → Prop) → State → Heap → Prop) (hz : gw_zT zz) (o : Nat) (ad : Nat → Nat) (N : Nat → Nat → Nat) (turn : Nat) (ht : turn < 18) (h9 : ∀ j, j < 8 → N 5 j < 3) (hf : ∀ j, j < 144 → N 10 j < 8) (hm : ∀ j, j < 144 → N 11 j < 3) (hg : ∀ j, j < 216 → N 12 j < 12) : gw_CV l yX11_turnIt wsX11_turnIt 0 0 0 0 D (mo_ty cI cB cS cJ cF cG) zz (mo_ws o ad cI cB cS N) [.ref o, iN turn] (fun N' => N' = mo_turn turn N) (fun N' => mo_ws o ad cI cB cS N') := by
  refine gw_CV.of (cc := cX11_turnIt) (maxL := 4) hz (by decide) rfl (Nat.le_of_ble_eq_true rfl) ?_
  intro K C hkl hkn hkR hkD hmn ret
  have C : gw_x K cX11_turnIt RX11 wsX11_turnIt (mo_ty cI cB cS cJ cF cG) zz := C
  refine gw_iconst C 0 dX11_turnIt_0 (by decide) ?_
  refine gw_istore_n C (lv2 := [(2, iN (0)), (0, .ref (o)), (1, iN (turn))]) dX11_turnIt_1 rfl (by omega) rfl ?_
  have lp : ∀ ni i : Nat, i + ni = 8 → gw_G K (mo_ws o ad cI cB cS (mo_t1 i N)) 0 0 2 [(2, iN (i)), (0, .ref (o)), (1, iN (turn))] [] := by
    intro ni
    induction ni with
    | zero =>
      intro i hii
      refine gw_iload_n C 0 dX11_turnIt_2 rfl rfl ?_
      refine gw_bipush C 8 dX11_turnIt_3 (by decide) ?_
      refine gw_icmp_ge C 38 dX11_turnIt_5 (by decide) (by omega) (by omega) (fun h4 => ?_) (fun h4 => ?_)
      ·
        refine gw_iconst C 0 dX11_turnIt_38 (by decide) ?_
        refine gw_istore_n C (lv2 := [(2, iN (0)), (0, .ref (o)), (1, iN (turn))]) dX11_turnIt_39 rfl (by omega) rfl ?_
        have b10 : ∀ j, j < 144 → (mo_t1 8 N) 10 j < 8 := fun j hj => by rw [mo_t1_k (by decide) (by decide)]; exact hf j hj
        have b11 : ∀ j, j < 144 → (mo_t1 8 N) 11 j < 3 := fun j hj => by rw [mo_t1_k (by decide) (by decide)]; exact hm j hj
        have b9 : ∀ j, j < 8 → (mo_t1 8 N) 9 j < 3 := fun j hj => by rw [mo_t1_9 _ _ _ hj]; exact h9 j hj
        rw [show i = 8 by omega]
        have lp2 : ∀ nk k : Nat, k + nk = 8 → gw_G K (mo_ws o ad cI cB cS (mo_t2 turn k (mo_t1 8 N))) 0 0 40 [(2, iN (k)), (0, .ref (o)), (1, iN (turn))] [] := by
          intro nk
          induction nk with
          | zero =>
            intro k hik
            refine gw_iload_n C 0 dX11_turnIt_40 rfl rfl ?_
            refine gw_bipush C 8 dX11_turnIt_41 (by decide) ?_
            refine gw_icmp_ge C 102 dX11_turnIt_43 (by decide) (by omega) (by omega) (fun h5 => ?_) (fun h5 => ?_)
            ·
              rw [show k = 8 by omega]
              refine gw_iconst C 0 dX11_turnIt_102 (by decide) ?_
              refine gw_istore_n C (lv2 := [(2, iN (0)), (0, .ref (o)), (1, iN (turn))]) dX11_turnIt_103 rfl (by omega) rfl ?_
              have lp3 : ∀ nu u : Nat, u + nu = 12 → gw_G K (mo_ws o ad cI cB cS (mo_t3 u (mo_t2 turn 8 (mo_t1 8 N)))) 0 0 104 [(2, iN (u)), (0, .ref (o)), (1, iN (turn))] [] := by
                intro nu
                induction nu with
                | zero =>
                  intro u hiu
                  refine gw_iload_n C 0 dX11_turnIt_104 rfl rfl ?_
                  refine gw_bipush C 12 dX11_turnIt_105 (by decide) ?_
                  refine gw_icmp_ge C 140 dX11_turnIt_107 (by decide) (by omega) (by omega) (fun h6 => ?_) (fun h6 => ?_)
                  ·
                    rw [show u = 12 by omega]
                    have b12 : ∀ j, j < 216 → (mo_t3 12 (mo_t2 turn 8 (mo_t1 8 N))) 12 j < 12 := fun j hj => by rw [mo_t3_k (by decide) (by decide), mo_t2_k (by decide) (by decide), mo_t1_k (by decide) (by decide)]; exact hg j hj
                    refine gw_iconst C 0 dX11_turnIt_140 (by decide) ?_
                    refine gw_istore_n C (lv2 := [(2, iN (0)), (0, .ref (o)), (1, iN (turn))]) dX11_turnIt_141 rfl (by omega) rfl ?_
                    have lp4 : ∀ nv v : Nat, v + nv = 12 → gw_G K (mo_ws o ad cI cB cS (mo_t4 turn v (mo_t3 12 (mo_t2 turn 8 (mo_t1 8 N))))) 0 0 142 [(2, iN (v)), (0, .ref (o)), (1, iN (turn))] [] := by
                      intro nv
                      induction nv with
                      | zero =>
                        intro v hiv
                        refine gw_iload_n C 0 dX11_turnIt_142 rfl rfl ?_
                        refine gw_bipush C 12 dX11_turnIt_143 (by decide) ?_
                        refine gw_icmp_ge C 202 dX11_turnIt_145 (by decide) (by omega) (by omega) (fun h7 => ?_) (fun h7 => ?_)
                        ·
                          exact ret (mo_turn turn N) dX11_turnIt_202 rfl (by rw [show v = 12 by omega]; rfl) (Nat.le_refl 0) (Nat.le_refl 0)
                        ·
                          exact absurd h7 (by omega)
                      | succ nv ihv =>
                        intro v hiv
                        refine gw_iload_n C 0 dX11_turnIt_142 rfl rfl ?_
                        refine gw_bipush C 12 dX11_turnIt_143 (by decide) ?_
                        refine gw_icmp_ge C 202 dX11_turnIt_145 (by decide) (by omega) (by omega) (fun h8 => ?_) (fun h8 => ?_)
                        ·
                          exact absurd h8 (by omega)
                        ·
                          have c0 := b12 (12 * turn + v) (by omega)
                          have q12 : (mo_t4 turn v (mo_t3 12 (mo_t2 turn 8 (mo_t1 8 N)))) 12 (12 * turn + v) = (mo_t3 12 (mo_t2 turn 8 (mo_t1 8 N))) 12 (12 * turn + v) := by rw [mo_t4_k (by decide) (by decide)]
                          rw [← q12] at c0
                          refine gw_aload_n C 1 dX11_turnIt_148 rfl rfl ?_
                          refine gw_get C 0 12 in_X11_turnIt dX11_turnIt_149 lk_X11_turnIt_46 rfl rfl (by decide) rfl rfl ?_
                          refine gw_bipush C 12 dX11_turnIt_152 (by decide) ?_
                          refine gw_iload_n C 2 dX11_turnIt_154 rfl rfl ?_
                          refine gw_imul C dX11_turnIt_155 ?_
                          refine gw_iload_n C 0 dX11_turnIt_156 rfl rfl ?_
                          refine gw_iadd C dX11_turnIt_157 ?_
                          refine gw_ild C (v := nI ((mo_t4 turn v (mo_t3 12 (mo_t2 turn 8 (mo_t1 8 N)))) 12 (((12) * (turn)) + (v)))) 13 0 dX11_turnIt_158 rfl rfl (by decide) (by omega) (by first | rfl | simp [mo_up]) ?_
                          refine gw_istore_n C (lv2 := [(3, iN ((mo_t4 turn v (mo_t3 12 (mo_t2 turn 8 (mo_t1 8 N)))) 12 (((12) * (turn)) + (v)))), (2, iN (v)), (0, .ref (o)), (1, iN (turn))]) dX11_turnIt_159 rfl (by omega) rfl ?_
                          refine gw_aload_n C 2 dX11_turnIt_160 rfl rfl ?_
                          refine gw_get C 0 6 in_X11_turnIt dX11_turnIt_161 lk_X11_turnIt_28 rfl rfl (by decide) rfl rfl ?_
                          refine gw_iload_n C 1 dX11_turnIt_164 rfl rfl ?_
                          refine gw_aload_n C 2 dX11_turnIt_165 rfl rfl ?_
                          refine gw_get C 0 8 in_X11_turnIt dX11_turnIt_166 lk_X11_turnIt_34 rfl rfl (by decide) rfl rfl ?_
                          refine gw_iload_n C 0 dX11_turnIt_169 rfl rfl ?_
                          refine gw_ild C (v := nI ((mo_t4 turn v (mo_t3 12 (mo_t2 turn 8 (mo_t1 8 N)))) 8 ((mo_t4 turn v (mo_t3 12 (mo_t2 turn 8 (mo_t1 8 N)))) 12 (((12) * (turn)) + (v))))) 9 0 dX11_turnIt_170 rfl rfl (by decide) (by omega) (by first | rfl | simp [mo_up]) ?_
                          refine gw_ist C 7 0 dX11_turnIt_171 rfl rfl (by decide) (by omega) mo_st6 ?_
                          refine gw_aload_n C 2 dX11_turnIt_172 rfl rfl ?_
                          refine gw_get C 0 7 in_X11_turnIt dX11_turnIt_173 lk_X11_turnIt_31 rfl rfl (by decide) rfl rfl ?_
                          refine gw_iload_n C 1 dX11_turnIt_176 rfl rfl ?_
                          refine gw_aload_n C 2 dX11_turnIt_177 rfl rfl ?_
                          refine gw_get C 0 9 in_X11_turnIt dX11_turnIt_178 lk_X11_turnIt_37 rfl rfl (by decide) rfl rfl ?_
                          refine gw_iload_n C 0 dX11_turnIt_181 rfl rfl ?_
                          refine gw_ild C (v := nI ((mo_t4 turn v (mo_t3 12 (mo_t2 turn 8 (mo_t1 8 N)))) 9 ((mo_t4 turn v (mo_t3 12 (mo_t2 turn 8 (mo_t1 8 N)))) 12 (((12) * (turn)) + (v))))) 10 0 dX11_turnIt_182 rfl rfl (by decide) (by omega) (by first | rfl | simp [mo_up]) ?_
                          refine gw_aload_n C 2 dX11_turnIt_183 rfl rfl ?_
                          refine gw_get C 0 13 in_X11_turnIt dX11_turnIt_184 lk_X11_turnIt_49 rfl rfl (by decide) rfl rfl ?_
                          refine gw_bipush C 12 dX11_turnIt_187 (by decide) ?_
                          refine gw_iload_n C 3 dX11_turnIt_189 rfl rfl ?_
                          refine gw_imul C dX11_turnIt_190 ?_
                          refine gw_iload_n C 1 dX11_turnIt_191 rfl rfl ?_
                          refine gw_iadd C dX11_turnIt_192 ?_
                          refine gw_ild C (v := nI ((mo_t4 turn v (mo_t3 12 (mo_t2 turn 8 (mo_t1 8 N)))) 13 (((12) * (turn)) + (v)))) 14 0 dX11_turnIt_193 rfl rfl (by decide) (by omega) (by first | rfl | simp [mo_up]) ?_
                          refine gw_ixor C dX11_turnIt_194 ?_
                          refine gw_ist C 8 0 dX11_turnIt_195 rfl rfl (by decide) (by omega) mo_st7 ?_
                          refine gw_iinc C (v := nI (v + 1)) (lv2 := [(2, iN (v + 1)), (3, iN ((mo_t4 turn v (mo_t3 12 (mo_t2 turn 8 (mo_t1 8 N)))) 12 (((12) * (turn)) + (v)))), (0, .ref (o)), (1, iN (turn))]) 1 dX11_turnIt_196 rfl (nI_add _ _) (by omega) rfl ?_
                          refine gw_goto C 142 dX11_turnIt_199 (by decide) ?_
                          refine gw_lv (lv2 := [(2, iN (v + 1)), (0, .ref (o)), (1, iN (turn))]) [0, 2, 3] rfl ?_
                          exact gw_ws (congrArg (mo_ws o ad cI cB cS) (by rfl)) (ihv (v + 1) (by omega))
                    refine gw_lv (lv2 := [(2, iN (0)), (0, .ref (o)), (1, iN (turn))]) [0, 1, 2] rfl ?_
                    exact lp4 (12 - 0) 0 (by omega)
                  ·
                    exact absurd h6 (by omega)
                | succ nu ihu =>
                  intro u hiu
                  refine gw_iload_n C 0 dX11_turnIt_104 rfl rfl ?_
                  refine gw_bipush C 12 dX11_turnIt_105 (by decide) ?_
                  refine gw_icmp_ge C 140 dX11_turnIt_107 (by decide) (by omega) (by omega) (fun h9 => ?_) (fun h9 => ?_)
                  ·
                    exact absurd h9 (by omega)
                  ·
                    refine gw_aload_n C 1 dX11_turnIt_110 rfl rfl ?_
                    refine gw_get C 0 8 in_X11_turnIt dX11_turnIt_111 lk_X11_turnIt_34 rfl rfl (by decide) rfl rfl ?_
                    refine gw_iload_n C 0 dX11_turnIt_114 rfl rfl ?_
                    refine gw_aload_n C 1 dX11_turnIt_115 rfl rfl ?_
                    refine gw_get C 0 6 in_X11_turnIt dX11_turnIt_116 lk_X11_turnIt_28 rfl rfl (by decide) rfl rfl ?_
                    refine gw_iload_n C 0 dX11_turnIt_119 rfl rfl ?_
                    refine gw_ild C (v := nI ((mo_t3 u (mo_t2 turn 8 (mo_t1 8 N))) 6 (u))) 7 0 dX11_turnIt_120 rfl rfl (by decide) (by omega) (by first | rfl | simp [mo_up]) ?_
                    refine gw_ist C 9 0 dX11_turnIt_121 rfl rfl (by decide) (by omega) mo_st8 ?_
                    refine gw_aload_n C 1 dX11_turnIt_122 rfl rfl ?_
                    refine gw_get C 0 9 in_X11_turnIt dX11_turnIt_123 lk_X11_turnIt_37 rfl rfl (by decide) rfl rfl ?_
                    refine gw_iload_n C 0 dX11_turnIt_126 rfl rfl ?_
                    refine gw_aload_n C 1 dX11_turnIt_127 rfl rfl ?_
                    refine gw_get C 0 7 in_X11_turnIt dX11_turnIt_128 lk_X11_turnIt_31 rfl rfl (by decide) rfl rfl ?_
                    refine gw_iload_n C 0 dX11_turnIt_131 rfl rfl ?_
                    refine gw_ild C (v := nI ((mo_t3 u (mo_t2 turn 8 (mo_t1 8 N))) 7 (u))) 8 0 dX11_turnIt_132 rfl rfl (by decide) (by omega) (by first | rfl | simp [mo_up]) ?_
                    refine gw_ist C 10 0 dX11_turnIt_133 rfl rfl (by decide) (by omega) mo_st9 ?_
                    refine gw_iinc C (v := nI (u + 1)) (lv2 := [(2, iN (u + 1)), (0, .ref (o)), (1, iN (turn))]) 0 dX11_turnIt_134 rfl (nI_add _ _) (by omega) rfl ?_
                    refine gw_goto C 104 dX11_turnIt_137 (by decide) ?_
                    refine gw_lv (lv2 := [(2, iN (u + 1)), (0, .ref (o)), (1, iN (turn))]) [0, 1, 2] rfl ?_
                    exact gw_ws (congrArg (mo_ws o ad cI cB cS) (by rfl)) (ihu (u + 1) (by omega))
              refine gw_lv (lv2 := [(2, iN (0)), (0, .ref (o)), (1, iN (turn))]) [0, 1, 2] rfl ?_
              exact lp3 (12 - 0) 0 (by omega)
            ·
              exact absurd h5 (by omega)
          | succ nk ihk =>
            intro k hik
            refine gw_iload_n C 0 dX11_turnIt_40 rfl rfl ?_
            refine gw_bipush C 8 dX11_turnIt_41 (by decide) ?_
            refine gw_icmp_ge C 102 dX11_turnIt_43 (by decide) (by omega) (by omega) (fun h10 => ?_) (fun h10 => ?_)
            ·
              exact absurd h10 (by omega)
            ·
              have c0 := b10 (8 * turn + k) (by omega)
              have c1 := b11 (8 * turn + k) (by omega)
              have c9 := b9 ((mo_t1 8 N) 10 (8 * turn + k)) c0
              have q10 : (mo_t2 turn k (mo_t1 8 N)) 10 (8 * turn + k) = (mo_t1 8 N) 10 (8 * turn + k) := by rw [mo_t2_k (by decide) (by decide)]
              have q11 : (mo_t2 turn k (mo_t1 8 N)) 11 (8 * turn + k) = (mo_t1 8 N) 11 (8 * turn + k) := by rw [mo_t2_k (by decide) (by decide)]
              have q9 : (mo_t2 turn k (mo_t1 8 N)) 9 ((mo_t2 turn k (mo_t1 8 N)) 10 (8 * turn + k)) < 3 := by rw [q10, mo_t2_k (by decide) (by decide)]; exact c9
              rw [← q10] at c0
              rw [← q11] at c1
              refine gw_aload_n C 1 dX11_turnIt_46 rfl rfl ?_
              refine gw_get C 0 10 in_X11_turnIt dX11_turnIt_47 lk_X11_turnIt_40 rfl rfl (by decide) rfl rfl ?_
              refine gw_bipush C 8 dX11_turnIt_50 (by decide) ?_
              refine gw_iload_n C 2 dX11_turnIt_52 rfl rfl ?_
              refine gw_imul C dX11_turnIt_53 ?_
              refine gw_iload_n C 0 dX11_turnIt_54 rfl rfl ?_
              refine gw_iadd C dX11_turnIt_55 ?_
              refine gw_ild C (v := nI ((mo_t2 turn k (mo_t1 8 N)) 10 (((8) * (turn)) + (k)))) 11 0 dX11_turnIt_56 rfl rfl (by decide) (by omega) (by first | rfl | simp [mo_up]) ?_
              refine gw_istore_n C (lv2 := [(3, iN ((mo_t2 turn k (mo_t1 8 N)) 10 (((8) * (turn)) + (k)))), (2, iN (k)), (0, .ref (o)), (1, iN (turn))]) dX11_turnIt_57 rfl (by omega) rfl ?_
              refine gw_aload_n C 2 dX11_turnIt_58 rfl rfl ?_
              refine gw_get C 0 4 in_X11_turnIt dX11_turnIt_59 lk_X11_turnIt_22 rfl rfl (by decide) rfl rfl ?_
              refine gw_iload_n C 1 dX11_turnIt_62 rfl rfl ?_
              refine gw_aload_n C 2 dX11_turnIt_63 rfl rfl ?_
              refine gw_get C 0 8 in_X11_turnIt dX11_turnIt_64 lk_X11_turnIt_34 rfl rfl (by decide) rfl rfl ?_
              refine gw_iload_n C 0 dX11_turnIt_67 rfl rfl ?_
              refine gw_ild C (v := nI ((mo_t2 turn k (mo_t1 8 N)) 8 ((mo_t2 turn k (mo_t1 8 N)) 10 (((8) * (turn)) + (k))))) 9 0 dX11_turnIt_68 rfl rfl (by decide) (by omega) (by first | rfl | simp [mo_up]) ?_
              refine gw_ist C 5 0 dX11_turnIt_69 rfl rfl (by decide) (by omega) mo_st4 ?_
              refine gw_aload_n C 2 dX11_turnIt_70 rfl rfl ?_
              refine gw_get C 0 5 in_X11_turnIt dX11_turnIt_71 lk_X11_turnIt_25 rfl rfl (by decide) rfl rfl ?_
              refine gw_iload_n C 1 dX11_turnIt_74 rfl rfl ?_
              refine gw_aload_n C 2 dX11_turnIt_75 rfl rfl ?_
              refine gw_get C 0 9 in_X11_turnIt dX11_turnIt_76 lk_X11_turnIt_37 rfl rfl (by decide) rfl rfl ?_
              refine gw_iload_n C 0 dX11_turnIt_79 rfl rfl ?_
              refine gw_ild C (v := nI ((mo_t2 turn k (mo_t1 8 N)) 9 ((mo_t2 turn k (mo_t1 8 N)) 10 (((8) * (turn)) + (k))))) 10 0 dX11_turnIt_80 rfl rfl (by decide) (by omega) (by first | rfl | simp [mo_up]) ?_
              refine gw_aload_n C 2 dX11_turnIt_81 rfl rfl ?_
              refine gw_get C 0 11 in_X11_turnIt dX11_turnIt_82 lk_X11_turnIt_43 rfl rfl (by decide) rfl rfl ?_
              refine gw_bipush C 8 dX11_turnIt_85 (by decide) ?_
              refine gw_iload_n C 3 dX11_turnIt_87 rfl rfl ?_
              refine gw_imul C dX11_turnIt_88 ?_
              refine gw_iload_n C 1 dX11_turnIt_89 rfl rfl ?_
              refine gw_iadd C dX11_turnIt_90 ?_
              refine gw_ild C (v := nI ((mo_t2 turn k (mo_t1 8 N)) 11 (((8) * (turn)) + (k)))) 12 0 dX11_turnIt_91 rfl rfl (by decide) (by omega) (by first | rfl | simp [mo_up]) ?_
              refine gw_iadd C dX11_turnIt_92 ?_
              refine gw_iconst C 3 dX11_turnIt_93 (by decide) ?_
              refine gw_irem C dX11_turnIt_94 (by omega) (by omega) (by omega) ?_
              refine gw_ist C 6 0 dX11_turnIt_95 rfl rfl (by decide) (by omega) mo_st5 ?_
              refine gw_iinc C (v := nI (k + 1)) (lv2 := [(2, iN (k + 1)), (3, iN ((mo_t2 turn k (mo_t1 8 N)) 10 (((8) * (turn)) + (k)))), (0, .ref (o)), (1, iN (turn))]) 1 dX11_turnIt_96 rfl (nI_add _ _) (by omega) rfl ?_
              refine gw_goto C 40 dX11_turnIt_99 (by decide) ?_
              refine gw_lv (lv2 := [(2, iN (k + 1)), (0, .ref (o)), (1, iN (turn))]) [0, 2, 3] rfl ?_
              exact gw_ws (congrArg (mo_ws o ad cI cB cS) (by rfl)) (ihk (k + 1) (by omega))
        refine gw_lv (lv2 := [(2, iN (0)), (0, .ref (o)), (1, iN (turn))]) [0, 1, 2] rfl ?_
        exact lp2 (8 - 0) 0 (by omega)
      ·
        exact absurd h4 (by omega)
    | succ ni ihi =>
      intro i hii
      refine gw_iload_n C 0 dX11_turnIt_2 rfl rfl ?_
      refine gw_bipush C 8 dX11_turnIt_3 (by decide) ?_
      refine gw_icmp_ge C 38 dX11_turnIt_5 (by decide) (by omega) (by omega) (fun h11 => ?_) (fun h11 => ?_)
      ·
        exact absurd h11 (by omega)
      ·
        refine gw_aload_n C 1 dX11_turnIt_8 rfl rfl ?_
        refine gw_get C 0 8 in_X11_turnIt dX11_turnIt_9 lk_X11_turnIt_34 rfl rfl (by decide) rfl rfl ?_
        refine gw_iload_n C 0 dX11_turnIt_12 rfl rfl ?_
        refine gw_aload_n C 1 dX11_turnIt_13 rfl rfl ?_
        refine gw_get C 0 4 in_X11_turnIt dX11_turnIt_14 lk_X11_turnIt_22 rfl rfl (by decide) rfl rfl ?_
        refine gw_iload_n C 0 dX11_turnIt_17 rfl rfl ?_
        refine gw_ild C (v := nI ((mo_t1 i N) 4 (i))) 5 0 dX11_turnIt_18 rfl rfl (by decide) (by omega) (by first | rfl | simp [mo_up]) ?_
        refine gw_ist C 9 0 dX11_turnIt_19 rfl rfl (by decide) (by omega) mo_st8 ?_
        refine gw_aload_n C 1 dX11_turnIt_20 rfl rfl ?_
        refine gw_get C 0 9 in_X11_turnIt dX11_turnIt_21 lk_X11_turnIt_37 rfl rfl (by decide) rfl rfl ?_
        refine gw_iload_n C 0 dX11_turnIt_24 rfl rfl ?_
        refine gw_aload_n C 1 dX11_turnIt_25 rfl rfl ?_
        refine gw_get C 0 5 in_X11_turnIt dX11_turnIt_26 lk_X11_turnIt_25 rfl rfl (by decide) rfl rfl ?_
        refine gw_iload_n C 0 dX11_turnIt_29 rfl rfl ?_
        refine gw_ild C (v := nI ((mo_t1 i N) 5 (i))) 6 0 dX11_turnIt_30 rfl rfl (by decide) (by omega) (by first | rfl | simp [mo_up]) ?_
        refine gw_ist C 10 0 dX11_turnIt_31 rfl rfl (by decide) (by omega) mo_st9 ?_
        refine gw_iinc C (v := nI (i + 1)) (lv2 := [(2, iN (i + 1)), (0, .ref (o)), (1, iN (turn))]) 0 dX11_turnIt_32 rfl (nI_add _ _) (by omega) rfl ?_
        refine gw_goto C 2 dX11_turnIt_35 (by decide) ?_
        refine gw_lv (lv2 := [(2, iN (i + 1)), (0, .ref (o)), (1, iN (turn))]) [0, 1, 2] rfl ?_
        exact gw_ws (congrArg (mo_ws o ad cI cB cS) (by rfl)) (ihi (i + 1) (by omega))
  refine gw_lv (lv2 := [(2, iN (0)), (0, .ref (o)), (1, iN (turn))]) [0, 1, 2] rfl ?_
  exact lp (8 - 0) 0 (by omega)
