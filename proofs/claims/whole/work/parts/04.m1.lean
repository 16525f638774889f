def mo_bhS (p : Nat) (N : Nat → Nat → Nat) : Nat → Nat → Nat := if p < 8 then mo_up (mo_up (mo_up (mo_up N 2 p p) 3 p 0) 0 p p) 1 p 0 else mo_up (mo_up N 2 p p) 3 p 0
def mo_bh : Nat → (Nat → Nat → Nat) → Nat → Nat → Nat
  | 0, N => N
  | p + 1, N => mo_bhS p (mo_bh p N)
theorem in_X11_bringHome : ∀ w ∈ wsX110, w ∈ wsX11_bringHome := fun _ h => List.mem_cons_of_mem _ (List.mem_append_right _ h)
theorem lk_X11_bringHome_7 : Cond.fieldLink RX11 7 "StageCubeModel" "corners" "[I" ∈ wsX11_bringHome := by decide +kernel
theorem lk_X11_bringHome_13 : Cond.fieldLink RX11 13 "StageCubeModel" "twists" "[I" ∈ wsX11_bringHome := by decide +kernel
theorem lk_X11_bringHome_16 : Cond.fieldLink RX11 16 "StageCubeModel" "edges" "[I" ∈ wsX11_bringHome := by decide +kernel
theorem lk_X11_bringHome_19 : Cond.fieldLink RX11 19 "StageCubeModel" "flips" "[I" ∈ wsX11_bringHome := by decide +kernel
set_option maxHeartbeats 4000000 in
set_option maxRecDepth 100000 in
theorem c_bringHome (l : Launch) (D : va_G) (cI cB cS cJ cF cG : ClassId) (zz : (Nat → Prop) → State → Heap → Prop) (hz : gw_zT zz) (o : Nat) (ad : Nat → Nat) (N : Nat → Nat → Nat) : gw_CV l yX11_bringHome wsX11_bringHome 0 0 0 0 D (mo_ty cI cB cS cJ cF cG) zz (mo_ws o ad cI cB cS N) [.ref o] (fun N' => N' = mo_bh 12 N) (fun N' => mo_ws o ad cI cB cS N') := by
  refine gw_CV.of (cc := cX11_bringHome) (maxL := 2) hz (by decide) rfl (Nat.le_of_ble_eq_true rfl) ?_
  intro K C hkl hkn hkR hkD hmn ret
  have C : gw_x K cX11_bringHome RX11 wsX11_bringHome (mo_ty cI cB cS cJ cF cG) zz := C
  have lp : ∀ n i : Nat, i + n = 12 → gw_G K (mo_ws o ad cI cB cS (mo_bh i N)) 0 0 2 [(1, iN i), (0, .ref o)] [] := by
    intro n
    induction n with
    | zero =>
      intro i hi
      refine gw_iload_n C 0 dX11_bringHome_2 rfl rfl ?_
      refine gw_bipush C 12 dX11_bringHome_3 (by decide) ?_
      refine gw_icmp_ge C 48 dX11_bringHome_5 (by decide) (by omega) (by omega) (fun h1 => ?_) (fun h1 => ?_)
      ·
        exact ret (mo_bh 12 N) dX11_bringHome_48 rfl (by rw [show i = 12 by omega]) (Nat.le_refl 0) (Nat.le_refl 0)
      ·
        exact absurd h1 (by omega)
    | succ n ih =>
      intro i hi
      refine gw_iload_n C 0 dX11_bringHome_2 rfl rfl ?_
      refine gw_bipush C 12 dX11_bringHome_3 (by decide) ?_
      refine gw_icmp_ge C 48 dX11_bringHome_5 (by decide) (by omega) (by omega) (fun h2 => ?_) (fun h2 => ?_)
      ·
        exact absurd h2 (by omega)
      ·
        refine gw_aload_n C 1 dX11_bringHome_8 rfl rfl ?_
        refine gw_get C 0 2 in_X11_bringHome dX11_bringHome_9 lk_X11_bringHome_16 rfl rfl (by decide) rfl rfl ?_
        refine gw_iload_n C 0 dX11_bringHome_12 rfl rfl ?_
        refine gw_iload_n C 0 dX11_bringHome_13 rfl rfl ?_
        refine gw_ist C 3 0 dX11_bringHome_14 rfl rfl (by decide) (by omega) mo_st2 ?_
        refine gw_aload_n C 1 dX11_bringHome_15 rfl rfl ?_
        refine gw_get C 0 3 in_X11_bringHome dX11_bringHome_16 lk_X11_bringHome_19 rfl rfl (by decide) rfl rfl ?_
        refine gw_iload_n C 0 dX11_bringHome_19 rfl rfl ?_
        refine gw_iconst C 0 dX11_bringHome_20 (by decide) ?_
        refine gw_ist C 4 0 dX11_bringHome_21 rfl rfl (by decide) (by omega) mo_st3 ?_
        refine gw_iload_n C 0 dX11_bringHome_22 rfl rfl ?_
        refine gw_bipush C 8 dX11_bringHome_23 (by decide) ?_
        refine gw_icmp_ge C 42 dX11_bringHome_25 (by decide) (by omega) (by omega) (fun h3 => ?_) (fun h3 => ?_)
        ·
          refine gw_iinc C (v := nI (i + 1)) (lv2 := [(1, iN (i + 1)), (0, .ref (o))]) 0 dX11_bringHome_42 rfl (nI_add _ _) (by omega) rfl ?_
          refine gw_goto C 2 dX11_bringHome_45 (by decide) ?_
          refine gw_lv (lv2 := [(1, iN (i + 1)), (0, .ref (o))]) [0, 1] rfl ?_
          exact gw_ws (by rw [mo_bh, mo_bhS, if_neg (by omega)]) (ih (i + 1) (by omega))
        ·
          refine gw_aload_n C 1 dX11_bringHome_28 rfl rfl ?_
          refine gw_get C 0 0 in_X11_bringHome dX11_bringHome_29 lk_X11_bringHome_7 rfl rfl (by decide) rfl rfl ?_
          refine gw_iload_n C 0 dX11_bringHome_32 rfl rfl ?_
          refine gw_iload_n C 0 dX11_bringHome_33 rfl rfl ?_
          refine gw_ist C 1 0 dX11_bringHome_34 rfl rfl (by decide) (by omega) mo_st0 ?_
          refine gw_aload_n C 1 dX11_bringHome_35 rfl rfl ?_
          refine gw_get C 0 1 in_X11_bringHome dX11_bringHome_36 lk_X11_bringHome_13 rfl rfl (by decide) rfl rfl ?_
          refine gw_iload_n C 0 dX11_bringHome_39 rfl rfl ?_
          refine gw_iconst C 0 dX11_bringHome_40 (by decide) ?_
          refine gw_ist C 2 0 dX11_bringHome_41 rfl rfl (by decide) (by omega) mo_st1 ?_
          refine gw_iinc C (v := nI (i + 1)) (lv2 := [(1, iN (i + 1)), (0, .ref (o))]) 0 dX11_bringHome_42 rfl (nI_add _ _) (by omega) rfl ?_
          refine gw_goto C 2 dX11_bringHome_45 (by decide) ?_
          refine gw_lv (lv2 := [(1, iN (i + 1)), (0, .ref (o))]) [0, 1] rfl ?_
          exact gw_ws (by rw [mo_bh, mo_bhS, if_pos (by omega)]) (ih (i + 1) (by omega))
  refine gw_iconst C 0 dX11_bringHome_0 (by decide) ?_
  refine gw_istore_n C (lv2 := [(1, iN (0)), (0, .ref (o))]) dX11_bringHome_1 rfl (by omega) rfl ?_
  exact lp 12 0 rfl
