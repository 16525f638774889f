section GWC
variable {K : gw_K} {cc : ByteArray} {own : String} {Ts : List Cond} {tys : List (ClassId × FieldType)} {zz : (Nat → Prop) → State → Heap → Prop} {ws : va_W} {cells slots pc : Nat} {lv lv' : List (Nat × Value)} {st : List Value}
theorem nI_up1 (f : Nat → Nat) (i v : Nat) : upd (fun j => nI (f j)) i (nI v) = fun j => nI (up1 f i v j) := by
  funext j
  simp only [upd, up1]
  split <;> rfl
theorem gw_istN (C : gw_x K cc own Ts tys zz) {cA : ClassId} {n a i v : Nat} {f : Nat → Nat} {ws2 : va_W} (q0 t0 : Nat) (hd : decode cc pc = .ok (.iastore, 1)) (ha : ws[q0]? = some (a, .inl (cA, n, .inl (fun j => nI (f j))))) (ht : tys[t0]? = some (cA, .int)) (hn : n ≤ 2147483647) (hi : i < n) (hw : ws.set q0 (a, .inl (cA, n, .inl (fun j => nI (up1 f i v j)))) = ws2) (k : gw_G K ws2 cells slots (pc + 1) lv st) : gw_G K ws cells slots pc lv (iN v :: iN i :: .ref a :: st) := gw_ist C q0 t0 hd ha ht hn hi (by rw [nI_up1]; exact hw) k
end GWC
/-- the cells of a Pieces object -/
def pc_ws (cI : ClassId) (p pa ma rt gt nn kk : Nat) (P M : Nat → Nat) : va_W := [(p, .inr (5, [iN nn, iN kk, .ref pa, .ref ma, .ref rt, .ref gt])), (pa, .inl (cI, nn, .inl (fun j => nI (P j)))), (ma, .inl (cI, nn, .inl (fun j => nI (M j))))]
theorem in_X7_quarter_X7 : ∀ w ∈ wsX70, w ∈ wsX7_quarter := fun _ h => List.mem_cons_of_mem _ (List.mem_append_right _ (h))
theorem in_X7_reset_X7 : ∀ w ∈ wsX70, w ∈ wsX7_reset := fun _ h => List.mem_cons_of_mem _ (List.mem_append_right _ (h))
theorem lk_X7_quarter_15 : Cond.fieldLink RX7 15 "StageCube$Pieces" "marks" "I" ∈ wsX7_quarter := by decide +kernel
theorem lk_X7_quarter_25 : Cond.fieldLink RX7 25 "StageCube$Pieces" "round" "[I" ∈ wsX7_quarter := by decide +kernel
theorem lk_X7_quarter_34 : Cond.fieldLink RX7 34 "StageCube$Pieces" "gain" "[I" ∈ wsX7_quarter := by decide +kernel
theorem lk_X7_quarter_37 : Cond.fieldLink RX7 37 "StageCube$Pieces" "piece" "[I" ∈ wsX7_quarter := by decide +kernel
theorem lk_X7_quarter_40 : Cond.fieldLink RX7 40 "StageCube$Pieces" "mark" "[I" ∈ wsX7_quarter := by decide +kernel
theorem lk_X7_reset_9 : Cond.fieldLink RX7 9 "StageCube$Pieces" "count" "I" ∈ wsX7_reset := by decide +kernel
theorem lk_X7_reset_37 : Cond.fieldLink RX7 37 "StageCube$Pieces" "piece" "[I" ∈ wsX7_reset := by decide +kernel
theorem lk_X7_reset_40 : Cond.fieldLink RX7 40 "StageCube$Pieces" "mark" "[I" ∈ wsX7_reset := by decide +kernel
def cu_isn (x lim : Nat) : Nat := if x < lim then 1 else 0
set_option maxHeartbeats 4000000 in
theorem c_isNumber (l : Launch) (D : va_G) (tys : List (ClassId × FieldType)) (zz : (Nat → Prop) → State → Heap → Prop) (hz : gw_zT zz) (w0 : va_W) (x lim : Nat) (hx : x < 2 ^ 32) (hl : lim < 2 ^ 31) : gw_CI l yX7_isNumber wsX7_isNumber 0 0 0 0 D tys zz w0 [iN x, iN lim] (fun r _ => r = nI (cu_isn x lim)) (fun _ : Unit => w0) := by
  refine gw_CI.of (cc := cX7_isNumber) (maxL := 2) (rt := .boolean) hz (by decide) rfl (Nat.le_of_ble_eq_true rfl) ?_
  intro K C hkl hkn hkR hkD hmn ret
  have C : gw_x K cX7_isNumber RX7 wsX7_isNumber tys zz := C
  refine gw_iload_n C 0 dX7_isNumber_0 rfl rfl ?_
  refine gw_if_lt32 C 13 dX7_isNumber_1 (by decide) (by omega) (fun h55 => ?_) (fun h55 => ?_)
  ·
    refine gw_iconst C 0 dX7_isNumber_13 (by decide) ?_
    exact ret () dX7_isNumber_14 rfl (by rw [cu_isn, if_neg (by omega)]) rfl (Nat.le_refl 0) (Nat.le_refl 0)
  ·
    refine gw_iload_n C 0 dX7_isNumber_4 rfl rfl ?_
    refine gw_iload_n C 1 dX7_isNumber_5 rfl rfl ?_
    refine gw_icmp_ge C 13 dX7_isNumber_6 (by decide) (by omega) (by omega) (fun h56 => ?_) (fun h56 => ?_)
    ·
      refine gw_iconst C 0 dX7_isNumber_13 (by decide) ?_
      exact ret () dX7_isNumber_14 rfl (by rw [cu_isn, if_neg (by omega)]) rfl (Nat.le_refl 0) (Nat.le_refl 0)
    ·
      refine gw_iconst C 1 dX7_isNumber_9 (by decide) ?_
      refine gw_goto C 14 dX7_isNumber_10 (by decide) ?_
      exact ret () dX7_isNumber_14 rfl (by rw [cu_isn, if_pos (by omega)]) rfl (Nat.le_refl 0) (Nat.le_refl 0)
def rs_P (P : Nat → Nat) : Nat → Nat → Nat
  | 0 => P
  | i + 1 => up1 (rs_P P i) i i
def rs_M (M : Nat → Nat) : Nat → Nat → Nat
  | 0 => M
  | i + 1 => up1 (rs_M M i) i 0
set_option maxHeartbeats 4000000 in
set_option maxRecDepth 100000 in
theorem c_reset (l : Launch) (D : va_G) (cI cB cS cJ cF cG : ClassId) (zz : (Nat → Prop) → State → Heap → Prop) (hz : gw_zT zz) (p pa ma rt gt nn kk : Nat) (P M : Nat → Nat) (hn : nn ≤ 12) : gw_CV (S := (Nat → Nat) × (Nat → Nat)) l yX7_reset wsX7_reset 0 0 0 0 D (mo_ty cI cB cS cJ cF cG) zz (pc_ws cI p pa ma rt gt nn kk (P) (M)) [.ref p] (fun u => u = (rs_P P nn, rs_M M nn)) (fun u => pc_ws cI p pa ma rt gt nn kk (u.1) (u.2)) := by
  refine gw_CV.of (cc := cX7_reset) (maxL := 2) hz (by decide) rfl (Nat.le_of_ble_eq_true rfl) ?_
  intro K C hkl hkn hkR hkD hmn ret
  have C : gw_x K cX7_reset RX7 wsX7_reset (mo_ty cI cB cS cJ cF cG) zz := C
  subst hkl hkD
  refine gw_iconst C 0 dX7_reset_0 (by decide) ?_
  refine gw_istore_n C (lv2 := [(1, iN (0)), (0, .ref (p))]) dX7_reset_1 rfl (by omega) rfl ?_
  have lp : ∀ ni i : Nat, i + ni = nn → gw_G K ([(p, .inr (5, [iN (nn), iN (kk), .ref (pa), .ref (ma), .ref (rt), .ref (gt)])), (pa, .inl (cI, nn, .inl (fun j => nI ((rs_P P i) j)))), (ma, .inl (cI, nn, .inl (fun j => nI ((rs_M M i) j))))]) 0 0 2 [(1, iN (i)), (0, .ref (p))] [] := by
    intro ni
    induction ni with
    | zero =>
      intro i hii
      refine gw_iload_n C 0 dX7_reset_2 rfl rfl ?_
      refine gw_aload_n C 1 dX7_reset_3 rfl rfl ?_
      refine gw_get C 0 0 in_X7_reset_X7 dX7_reset_4 lk_X7_reset_9 rfl rfl (by decide) rfl rfl ?_
      refine gw_icmp_ge C 30 dX7_reset_7 (by decide) (by omega) (by omega) (fun h57 => ?_) (fun h57 => ?_)
      ·
        exact ret (rs_P P nn, rs_M M nn) dX7_reset_30 rfl (by rw [show i = nn by omega]; rfl) (Nat.le_refl 0) (Nat.le_refl 0)
      ·
        exact absurd h57 (by omega)
    | succ ni ihi =>
      intro i hii
      refine gw_iload_n C 0 dX7_reset_2 rfl rfl ?_
      refine gw_aload_n C 1 dX7_reset_3 rfl rfl ?_
      refine gw_get C 0 0 in_X7_reset_X7 dX7_reset_4 lk_X7_reset_9 rfl rfl (by decide) rfl rfl ?_
      refine gw_icmp_ge C 30 dX7_reset_7 (by decide) (by omega) (by omega) (fun h58 => ?_) (fun h58 => ?_)
      ·
        exact absurd h58 (by omega)
      ·
        refine gw_aload_n C 1 dX7_reset_10 rfl rfl ?_
        refine gw_get C 0 2 in_X7_reset_X7 dX7_reset_11 lk_X7_reset_37 rfl rfl (by decide) rfl rfl ?_
        refine gw_iload_n C 0 dX7_reset_14 rfl rfl ?_
        refine gw_iload_n C 0 dX7_reset_15 rfl rfl ?_
        refine gw_istN C (ws2 := [(p, .inr (5, [iN (nn), iN (kk), .ref (pa), .ref (ma), .ref (rt), .ref (gt)])), (pa, .inl (cI, nn, .inl (fun j => nI ((up1 (rs_P P i) (i) (i)) j)))), (ma, .inl (cI, nn, .inl (fun j => nI ((rs_M M i) j))))]) 1 0 dX7_reset_16 rfl rfl (by first | decide | omega) (by omega) rfl ?_
        refine gw_aload_n C 1 dX7_reset_17 rfl rfl ?_
        refine gw_get C 0 3 in_X7_reset_X7 dX7_reset_18 lk_X7_reset_40 rfl rfl (by decide) rfl rfl ?_
        refine gw_iload_n C 0 dX7_reset_21 rfl rfl ?_
        refine gw_iconst C 0 dX7_reset_22 (by decide) ?_
        refine gw_istN C (ws2 := [(p, .inr (5, [iN (nn), iN (kk), .ref (pa), .ref (ma), .ref (rt), .ref (gt)])), (pa, .inl (cI, nn, .inl (fun j => nI ((up1 (rs_P P i) (i) (i)) j)))), (ma, .inl (cI, nn, .inl (fun j => nI ((up1 (rs_M M i) (i) (0)) j))))]) 2 0 dX7_reset_23 rfl rfl (by first | decide | omega) (by omega) rfl ?_
        refine gw_iinc C (v := nI (i + 1)) (lv2 := [(1, iN (i + 1)), (0, .ref (p))]) 0 dX7_reset_24 rfl (nI_add _ _) (by omega) rfl ?_
        refine gw_goto C 2 dX7_reset_27 (by decide) ?_
        refine gw_lv (lv2 := [(1, iN (i + 1)), (0, .ref (p))]) [0, 1] rfl ?_
        exact ihi (i + 1) (by omega)
  refine gw_lv (lv2 := [(1, iN (0)), (0, .ref (p))]) [0, 1] rfl ?_
  exact lp (nn - 0) 0 (by omega)
def qt_P (R : Nat → Nat) (a : Nat) (P : Nat → Nat) : Nat → Nat → Nat
  | 0 => P
  | t + 1 => up1 (qt_P R a P t) (R (a + 3 - t)) (qt_P R a P t (R (a + 3 - t - 1)))
def qt_M (R Gn : Nat → Nat) (k a : Nat) (M : Nat → Nat) : Nat → Nat → Nat
  | 0 => M
  | t + 1 => up1 (qt_M R Gn k a M t) (R (a + 3 - t)) ((qt_M R Gn k a M t (R (a + 3 - t - 1)) + Gn (a + 3 - t - 1)) % k)
def qtP (R : Nat → Nat) (a : Nat) (P : Nat → Nat) : Nat → Nat := up1 (qt_P R a P 3) (R a) (P (R (a + 3)))
def qtM (R Gn : Nat → Nat) (k a : Nat) (M : Nat → Nat) : Nat → Nat := up1 (qt_M R Gn k a M 3) (R a) ((M (R (a + 3)) + Gn (a + 3)) % k)
theorem qt_M_lt (R Gn : Nat → Nat) {k n : Nat} (a : Nat) (hk : 0 < k) {M : Nat → Nat} (h : ∀ j, j < n → M j < k) : ∀ t j, j < n → qt_M R Gn k a M t j < k := by
  intro t
  induction t with
  | zero => exact h
  | succ t ih =>
    intro j hj
    rw [qt_M]
    simp only [up1]
    split
    · exact Nat.mod_lt _ hk
    · exact ih j hj
set_option maxHeartbeats 4000000 in
set_option maxRecDepth 100000 in
theorem c_quarter (l : Launch) (D : va_G) (cI cB cS cJ cF cG : ClassId) (zz : (Nat → Prop) → State → Heap → Prop) (hz : gw_zT zz) (p pa ma rt gt nn kk : Nat) (P M : Nat → Nat) (fc : Nat) (hf : fc < 6) (hn : nn ≤ 12) (hk : 2 ≤ kk) (hk3 : kk ≤ 3) (hM : ∀ j, j < nn → M j < kk) (R Gn : Nat → Nat) (hzR : ∀ A U H, zz A U H → va_T .int rt 24 (fun j => iN (R j)) A U H) (hzG : ∀ A U H, zz A U H → va_T .int gt 24 (fun j => iN (Gn j)) A U H) (hR : ∀ j, j < 24 → R j < nn) (hG : ∀ j, j < 24 → Gn j < 3) : gw_CV (S := (Nat → Nat) × (Nat → Nat)) l yX7_quarter wsX7_quarter 0 0 0 0 D (mo_ty cI cB cS cJ cF cG) zz (pc_ws cI p pa ma rt gt nn kk (P) (M)) [.ref p, iN fc] (fun u => u = (qtP R (4 * fc) P, qtM R Gn kk (4 * fc) M)) (fun u => pc_ws cI p pa ma rt gt nn kk (u.1) (u.2)) := by
  refine gw_CV.of (cc := cX7_quarter) (maxL := 7) hz (by decide) rfl (Nat.le_of_ble_eq_true rfl) ?_
  intro K C hkl hkn hkR hkD hmn ret
  have C : gw_x K cX7_quarter RX7 wsX7_quarter (mo_ty cI cB cS cJ cF cG) zz := C
  subst hkl hkD
  have tR := hzR _ _ _ C.2.2.2.1
  have tG := hzG _ _ _ C.2.2.2.1
  obtain ⟨a, ea⟩ : ∃ a, a = 4 * fc := ⟨_, rfl⟩
  have r3 := hR (a + 3) (by omega)
  have r0 := hR a (by omega)
  refine gw_iconst C 4 dX7_quarter_0 (by decide) ?_
  refine gw_iload_n C 1 dX7_quarter_1 rfl rfl ?_
  refine gw_imul C dX7_quarter_2 ?_
  refine gw_istore_n C (lv2 := [(2, iN ((4) * (fc))), (0, .ref (p)), (1, iN (fc))]) dX7_quarter_3 rfl (by omega) rfl ?_
  rw [← ea]
  refine gw_iload_n C 0 dX7_quarter_4 rfl rfl ?_
  refine gw_iconst C 3 dX7_quarter_5 (by decide) ?_
  refine gw_iadd C dX7_quarter_6 ?_
  refine gw_istore_n C (lv2 := [(3, iN ((a) + (3))), (2, iN (a)), (0, .ref (p)), (1, iN (fc))]) dX7_quarter_7 rfl (by omega) rfl ?_
  refine gw_aload_n C 2 dX7_quarter_8 rfl rfl ?_
  refine gw_get C 0 2 in_X7_quarter_X7 dX7_quarter_9 lk_X7_quarter_37 rfl rfl (by decide) rfl rfl ?_
  refine gw_aload_n C 2 dX7_quarter_12 rfl rfl ?_
  refine gw_get C 0 4 in_X7_quarter_X7 dX7_quarter_13 lk_X7_quarter_25 rfl rfl (by decide) rfl rfl ?_
  refine gw_iload_n C 0 dX7_quarter_16 rfl rfl ?_
  refine gw_tld C tR dX7_quarter_17 (by decide) (by omega) rfl ?_
  refine gw_ild C (v := nI (P (R ((a) + (3))))) 1 0 dX7_quarter_18 rfl rfl (by first | decide | omega) (by omega) rfl ?_
  refine gw_istore C (lv2 := [(4, iN (P (R ((a) + (3))))), (3, iN ((a) + (3))), (2, iN (a)), (0, .ref (p)), (1, iN (fc))]) dX7_quarter_19 (by omega) rfl ?_
  refine gw_aload_n C 3 dX7_quarter_21 rfl rfl ?_
  refine gw_get C 0 3 in_X7_quarter_X7 dX7_quarter_22 lk_X7_quarter_40 rfl rfl (by decide) rfl rfl ?_
  refine gw_aload_n C 3 dX7_quarter_25 rfl rfl ?_
  refine gw_get C 0 4 in_X7_quarter_X7 dX7_quarter_26 lk_X7_quarter_25 rfl rfl (by decide) rfl rfl ?_
  refine gw_iload_n C 1 dX7_quarter_29 rfl rfl ?_
  refine gw_tld C tR dX7_quarter_30 (by decide) (by omega) rfl ?_
  refine gw_ild C (v := nI (M (R ((a) + (3))))) 2 0 dX7_quarter_31 rfl rfl (by first | decide | omega) (by omega) rfl ?_
  refine gw_istore C (lv2 := [(5, iN (M (R ((a) + (3))))), (4, iN (P (R ((a) + (3))))), (3, iN ((a) + (3))), (2, iN (a)), (0, .ref (p)), (1, iN (fc))]) dX7_quarter_32 (by omega) rfl ?_
  refine gw_iload_n C 2 dX7_quarter_34 rfl rfl ?_
  refine gw_istore C (lv2 := [(6, iN ((a) + (3))), (5, iN (M (R ((a) + (3))))), (4, iN (P (R ((a) + (3))))), (3, iN ((a) + (3))), (2, iN (a)), (0, .ref (p)), (1, iN (fc))]) dX7_quarter_35 (by omega) rfl ?_
  refine gw_lv (lv2 := [(6, iN (a + 3 - 0)), (5, iN (M (R (a + 3)))), (4, iN (P (R (a + 3)))), (3, iN (a + 3)), (2, iN a), (0, .ref p)]) [0, 1, 2, 3, 4, 5] rfl ?_
  have lp : ∀ nt t : Nat, t + nt = 3 → gw_G K ([(p, .inr (5, [iN (nn), iN (kk), .ref (pa), .ref (ma), .ref (rt), .ref (gt)])), (pa, .inl (cI, nn, .inl (fun j => nI ((qt_P R a P t) j)))), (ma, .inl (cI, nn, .inl (fun j => nI ((qt_M R Gn kk a M t) j))))]) 0 0 37 [(6, iN (a + 3 - t)), (5, iN (M (R (a + 3)))), (4, iN (P (R (a + 3)))), (3, iN (a + 3)), (2, iN (a)), (0, .ref (p))] [] := by
    intro nt
    induction nt with
    | zero =>
      intro t hit
      refine gw_iload C 0 dX7_quarter_37 rfl ?_
      refine gw_iload_n C 4 dX7_quarter_39 rfl rfl ?_
      refine gw_icmp_le C 116 dX7_quarter_40 (by decide) (by omega) (by omega) (fun h59 => ?_) (fun h59 => ?_)
      ·
        rw [show t = 3 by omega]
        have g3 := hG (a + 3) (by omega)
        have m3 := hM _ r3
        refine gw_aload_n C 5 dX7_quarter_116 rfl rfl ?_
        refine gw_get C 0 2 in_X7_quarter_X7 dX7_quarter_117 lk_X7_quarter_37 rfl rfl (by decide) rfl rfl ?_
        refine gw_aload_n C 5 dX7_quarter_120 rfl rfl ?_
        refine gw_get C 0 4 in_X7_quarter_X7 dX7_quarter_121 lk_X7_quarter_25 rfl rfl (by decide) rfl rfl ?_
        refine gw_iload_n C 4 dX7_quarter_124 rfl rfl ?_
        refine gw_tld C tR dX7_quarter_125 (by decide) (by omega) rfl ?_
        refine gw_iload C 2 dX7_quarter_126 rfl ?_
        refine gw_istN C (ws2 := [(p, .inr (5, [iN (nn), iN (kk), .ref (pa), .ref (ma), .ref (rt), .ref (gt)])), (pa, .inl (cI, nn, .inl (fun j => nI ((up1 (qt_P R a P 3) (R (a)) (P (R (a + 3)))) j)))), (ma, .inl (cI, nn, .inl (fun j => nI ((qt_M R Gn kk a M 3) j))))]) 1 0 dX7_quarter_128 rfl rfl (by first | decide | omega) (by omega) rfl ?_
        refine gw_aload_n C 5 dX7_quarter_129 rfl rfl ?_
        refine gw_get C 0 3 in_X7_quarter_X7 dX7_quarter_130 lk_X7_quarter_40 rfl rfl (by decide) rfl rfl ?_
        refine gw_aload_n C 5 dX7_quarter_133 rfl rfl ?_
        refine gw_get C 0 4 in_X7_quarter_X7 dX7_quarter_134 lk_X7_quarter_25 rfl rfl (by decide) rfl rfl ?_
        refine gw_iload_n C 4 dX7_quarter_137 rfl rfl ?_
        refine gw_tld C tR dX7_quarter_138 (by decide) (by omega) rfl ?_
        refine gw_iload C 1 dX7_quarter_139 rfl ?_
        refine gw_aload_n C 5 dX7_quarter_141 rfl rfl ?_
        refine gw_get C 0 5 in_X7_quarter_X7 dX7_quarter_142 lk_X7_quarter_34 rfl rfl (by decide) rfl rfl ?_
        refine gw_iload_n C 3 dX7_quarter_145 rfl rfl ?_
        refine gw_tld C tG dX7_quarter_146 (by decide) (by omega) rfl ?_
        refine gw_iadd C dX7_quarter_147 ?_
        refine gw_aload_n C 5 dX7_quarter_148 rfl rfl ?_
        refine gw_get C 0 1 in_X7_quarter_X7 dX7_quarter_149 lk_X7_quarter_15 rfl rfl (by decide) rfl rfl ?_
        refine gw_irem C dX7_quarter_152 (by omega) (by omega) (by omega) ?_
        refine gw_istN C (ws2 := [(p, .inr (5, [iN (nn), iN (kk), .ref (pa), .ref (ma), .ref (rt), .ref (gt)])), (pa, .inl (cI, nn, .inl (fun j => nI ((up1 (qt_P R a P 3) (R (a)) (P (R (a + 3)))) j)))), (ma, .inl (cI, nn, .inl (fun j => nI ((up1 (qt_M R Gn kk a M 3) (R (a)) (((M (R (a + 3))) + (Gn (a + 3))) % (kk))) j))))]) 2 0 dX7_quarter_153 rfl rfl (by first | decide | omega) (by omega) rfl ?_
        exact ret (qtP R (4 * fc) P, qtM R Gn kk (4 * fc) M) dX7_quarter_154 rfl (by rw [← ea]; rfl) (Nat.le_refl 0) (Nat.le_refl 0)
      ·
        exact absurd h59 (by omega)
    | succ nt iht =>
      intro t hit
      refine gw_iload C 0 dX7_quarter_37 rfl ?_
      refine gw_iload_n C 4 dX7_quarter_39 rfl rfl ?_
      refine gw_icmp_le C 116 dX7_quarter_40 (by decide) (by omega) (by omega) (fun h60 => ?_) (fun h60 => ?_)
      ·
        exact absurd h60 (by omega)
      ·
        have r1 := hR (a + 3 - t) (by omega)
        have r2 := hR (a + 3 - t - 1) (by omega)
        have g2 := hG (a + 3 - t - 1) (by omega)
        have m2 := qt_M_lt R Gn a (show 0 < kk by omega) hM t _ r2
        refine gw_aload_n C 5 dX7_quarter_43 rfl rfl ?_
        refine gw_get C 0 2 in_X7_quarter_X7 dX7_quarter_44 lk_X7_quarter_37 rfl rfl (by decide) rfl rfl ?_
        refine gw_aload_n C 5 dX7_quarter_47 rfl rfl ?_
        refine gw_get C 0 4 in_X7_quarter_X7 dX7_quarter_48 lk_X7_quarter_25 rfl rfl (by decide) rfl rfl ?_
        refine gw_iload C 0 dX7_quarter_51 rfl ?_
        refine gw_tld C tR dX7_quarter_53 (by decide) (by omega) rfl ?_
        refine gw_aload_n C 5 dX7_quarter_54 rfl rfl ?_
        refine gw_get C 0 2 in_X7_quarter_X7 dX7_quarter_55 lk_X7_quarter_37 rfl rfl (by decide) rfl rfl ?_
        refine gw_aload_n C 5 dX7_quarter_58 rfl rfl ?_
        refine gw_get C 0 4 in_X7_quarter_X7 dX7_quarter_59 lk_X7_quarter_25 rfl rfl (by decide) rfl rfl ?_
        refine gw_iload C 0 dX7_quarter_62 rfl ?_
        refine gw_iconst C 1 dX7_quarter_64 (by decide) ?_
        refine gw_isub C dX7_quarter_65 (by omega) ?_
        refine gw_tld C tR dX7_quarter_66 (by decide) (by omega) rfl ?_
        refine gw_ild C (v := nI ((qt_P R a P t) (R ((a + 3 - t) - (1))))) 1 0 dX7_quarter_67 rfl rfl (by first | decide | omega) (by omega) rfl ?_
        refine gw_istN C (ws2 := [(p, .inr (5, [iN (nn), iN (kk), .ref (pa), .ref (ma), .ref (rt), .ref (gt)])), (pa, .inl (cI, nn, .inl (fun j => nI ((up1 (qt_P R a P t) (R (a + 3 - t)) ((qt_P R a P t) (R ((a + 3 - t) - (1))))) j)))), (ma, .inl (cI, nn, .inl (fun j => nI ((qt_M R Gn kk a M t) j))))]) 1 0 dX7_quarter_68 rfl rfl (by first | decide | omega) (by omega) rfl ?_
        refine gw_aload_n C 5 dX7_quarter_69 rfl rfl ?_
        refine gw_get C 0 3 in_X7_quarter_X7 dX7_quarter_70 lk_X7_quarter_40 rfl rfl (by decide) rfl rfl ?_
        refine gw_aload_n C 5 dX7_quarter_73 rfl rfl ?_
        refine gw_get C 0 4 in_X7_quarter_X7 dX7_quarter_74 lk_X7_quarter_25 rfl rfl (by decide) rfl rfl ?_
        refine gw_iload C 0 dX7_quarter_77 rfl ?_
        refine gw_tld C tR dX7_quarter_79 (by decide) (by omega) rfl ?_
        refine gw_aload_n C 5 dX7_quarter_80 rfl rfl ?_
        refine gw_get C 0 3 in_X7_quarter_X7 dX7_quarter_81 lk_X7_quarter_40 rfl rfl (by decide) rfl rfl ?_
        refine gw_aload_n C 5 dX7_quarter_84 rfl rfl ?_
        refine gw_get C 0 4 in_X7_quarter_X7 dX7_quarter_85 lk_X7_quarter_25 rfl rfl (by decide) rfl rfl ?_
        refine gw_iload C 0 dX7_quarter_88 rfl ?_
        refine gw_iconst C 1 dX7_quarter_90 (by decide) ?_
        refine gw_isub C dX7_quarter_91 (by omega) ?_
        refine gw_tld C tR dX7_quarter_92 (by decide) (by omega) rfl ?_
        refine gw_ild C (v := nI ((qt_M R Gn kk a M t) (R ((a + 3 - t) - (1))))) 2 0 dX7_quarter_93 rfl rfl (by first | decide | omega) (by omega) rfl ?_
        refine gw_aload_n C 5 dX7_quarter_94 rfl rfl ?_
        refine gw_get C 0 5 in_X7_quarter_X7 dX7_quarter_95 lk_X7_quarter_34 rfl rfl (by decide) rfl rfl ?_
        refine gw_iload C 0 dX7_quarter_98 rfl ?_
        refine gw_iconst C 1 dX7_quarter_100 (by decide) ?_
        refine gw_isub C dX7_quarter_101 (by omega) ?_
        refine gw_tld C tG dX7_quarter_102 (by decide) (by omega) rfl ?_
        refine gw_iadd C dX7_quarter_103 ?_
        refine gw_aload_n C 5 dX7_quarter_104 rfl rfl ?_
        refine gw_get C 0 1 in_X7_quarter_X7 dX7_quarter_105 lk_X7_quarter_15 rfl rfl (by decide) rfl rfl ?_
        refine gw_irem C dX7_quarter_108 (by omega) (by omega) (by omega) ?_
        refine gw_istN C (ws2 := [(p, .inr (5, [iN (nn), iN (kk), .ref (pa), .ref (ma), .ref (rt), .ref (gt)])), (pa, .inl (cI, nn, .inl (fun j => nI ((up1 (qt_P R a P t) (R (a + 3 - t)) ((qt_P R a P t) (R ((a + 3 - t) - (1))))) j)))), (ma, .inl (cI, nn, .inl (fun j => nI ((up1 (qt_M R Gn kk a M t) (R (a + 3 - t)) ((((qt_M R Gn kk a M t) (R ((a + 3 - t) - (1)))) + (Gn ((a + 3 - t) - (1)))) % (kk))) j))))]) 2 0 dX7_quarter_109 rfl rfl (by first | decide | omega) (by omega) rfl ?_
        refine gw_iinc C (v := nI (a + 3 - (t + 1))) (lv2 := [(6, iN (a + 3 - (t + 1))), (5, iN (M (R (a + 3)))), (4, iN (P (R (a + 3)))), (3, iN (a + 3)), (2, iN (a)), (0, .ref (p))]) 0 dX7_quarter_110 rfl (by rw [gw_dec1 (by omega)]; rfl) (by omega) rfl ?_
        refine gw_goto C 37 dX7_quarter_113 (by decide) ?_
        refine gw_lv (lv2 := [(6, iN (a + 3 - (t + 1))), (5, iN (M (R (a + 3)))), (4, iN (P (R (a + 3)))), (3, iN (a + 3)), (2, iN (a)), (0, .ref (p))]) [0, 1, 2, 3, 4, 5] rfl ?_
        exact iht (t + 1) (by omega)
  refine gw_lv (lv2 := [(6, iN (a + 3 - 0)), (5, iN (M (R (a + 3)))), (4, iN (P (R (a + 3)))), (3, iN (a + 3)), (2, iN (a)), (0, .ref (p))]) [0, 1, 2, 3, 4, 5] rfl ?_
  exact lp (3 - 0) 0 (by omega)
