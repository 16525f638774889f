theorem in_X10_flips_X10 : ∀ w ∈ wsX100, w ∈ wsX10_flips := fun _ h => List.mem_cons_of_mem _ (List.mem_append_left _ (List.mem_append_left _ (List.mem_append_left _ (List.mem_append_left _ (List.mem_append_left _ (List.mem_append_left _ (List.mem_append_left _ (List.mem_append_left _ (List.mem_append_right _ (h))))))))))
theorem in_X10_solve_X10 : ∀ w ∈ wsX100, w ∈ wsX10_solve := fun _ h => List.mem_cons_of_mem _ (List.mem_append_left _ (List.mem_append_left _ (List.mem_append_left _ (List.mem_append_left _ (List.mem_append_left _ (List.mem_append_left _ (List.mem_append_left _ (List.mem_append_left _ (List.mem_append_right _ (h))))))))))
theorem lk_X10_flips_10 : Cond.fieldLink RX10 10 "StageCube" "cube" "LStageCube$Cube;" ∈ wsX10_flips := by decide +kernel
theorem lk_X10_solve_10 : Cond.fieldLink RX10 10 "StageCube" "cube" "LStageCube$Cube;" ∈ wsX10_solve := by decide +kernel
theorem lk_X10_solve_16 : Cond.fieldLink RX10 16 "StageCube" "walker" "LStageCube$Cube;" ∈ wsX10_solve := by decide +kernel
theorem lk_X10_solve_32 : Cond.fieldLink RX10 32 "StageCube" "stepCount" "I" ∈ wsX10_solve := by decide +kernel
theorem Slw_lt (cp co ep eo : Nat → Nat) : Slw_ cp co ep eo < 2 ^ 32 := by
  rw [Slw_]
  repeat' split
  all_goals decide
def SlwQ (q : Q4) : Nat := Slw_ q.1 q.2.1 q.2.2.1 q.2.2.2
def cpQ (w q : Q4) : Q4 := (cp_ w.1 q.1 8, cp_ w.2.1 q.2.1 8, cp_ w.2.2.1 q.2.2.1 12, cp_ w.2.2.2 q.2.2.2 12)
def mtA (NX : Nat → Nat → Nat → Nat) (EE : Nat → Nat) : Prop := mt0 (NX 0) (EE 0) ∧ mt1 (NX 1) (EE 1) ∧ mt2 (NX 2) (EE 2) ∧ mt3 (NX 3) (EE 3)
set_option maxHeartbeats 4000000 in
set_option maxRecDepth 100000 in
theorem c_SsolveN (l : Launch) (D : va_G) (cI cB cS cJ cF cG : ClassId) (tt : Nat → Nat) (oa ca : Nat → Nat) (w : Nat) (sg : Nat → Option Nat) (Ln St : Nat → Nat) (cnt th : Nat) (q : Q4) (hqb : QB q) (hl : SlwQ q ≠ 1) : gw_CI (S := Unit) l yX10_solve wsX10_solve 20 496 0 0 D (mo_ty cI cB cS cJ cF cG) (zs tt) (ob_ws cI cG oa (ca 0) (w) (sg) (Ln) (St) (cnt) (th) ++ cq_ws cI tt ca q) [.ref (oa 0)] (fun r _ => r = nI (SlwQ q)) (fun _ => ob_ws cI cG oa (ca 0) (w) (sg) (fg_ Ln 4) (St) (0) (th) ++ cq_ws cI tt ca q) := by
  refine gw_CI.of (cc := cX10_solve) (maxL := 3) (rt := .int) (zs_ok tt) (by decide) rfl (Nat.le_of_ble_eq_true rfl) ?_
  intro K C hkl hkn hkR hkD hmn ret
  have C : gw_x K cX10_solve RX10 wsX10_solve (mo_ty cI cB cS cJ cF cG) (zs tt) := C
  subst hkl hkD
  have hrc : (kR K).cells = 0 := by rw [hkR]
  have hrs : (kR K).slots = 0 := by rw [hkR]
  refine gw_aload_n C 0 dX10_solve_0 rfl rfl ?_
  refine gw_appVV (n := 0) C (c_Sforget (kl K) (kD K) cI cB cS cJ cF cG tt oa ca w sg Ln St cnt th) 0 rfl rfl rfl gX10_solve_X10_forgetWay rfl (by decide +kernel) dX10_solve_1 (by rw [hkR]; dsimp only; decide) (by rw [hrc, hrs]; omega) rfl (Nat.le_of_ble_eq_true rfl) rfl (fun z hz => ?_)
  refine gw_aload_n C 0 dX10_solve_4 rfl rfl ?_
  refine gw_ws (ws2 := (ob_ws cI cG oa (ca 0) (w) (sg) ((fg_ Ln 4)) (St) (0) (th) ++ cq_ws cI tt ca q) ++ []) (by rw [List.append_nil]) ?_
  refine gw_appVI (n := 0) C (c_Slawful (kl K) (kD K) cI cB cS cJ cF cG tt oa ca w sg (fg_ Ln 4) St 0 th q.1 q.2.1 q.2.2.1 q.2.2.2 hqb.1 hqb.2.1 hqb.2.2.1 hqb.2.2.2) 0 rfl rfl rfl gX10_solve_X10_lawful rfl (by decide +kernel) dX10_solve_5 (by rw [hkR]; dsimp only; decide) (by rw [hrc, hrs]; omega) rfl (Nat.le_of_ble_eq_true rfl) rfl (fun rv v hv => ?_)
  change rv = nI (SlwQ q) at hv
  subst hv
  have hlt : SlwQ q < 2 ^ 32 := Slw_lt _ _ _ _
  refine gw_ws (ws2 := (ob_ws cI cG oa (ca 0) (w) (sg) ((fg_ Ln 4)) (St) (0) (th) ++ cq_ws cI tt ca q) ++ ([])) rfl ?_
  refine gw_istore_n C (lv2 := [(1, iN (SlwQ q)), (0, .ref (oa 0))]) dX10_solve_8 rfl (by omega) rfl ?_
  refine gw_iload_n C 0 dX10_solve_9 rfl rfl ?_
  refine gw_iconst C 1 dX10_solve_10 (by decide) ?_
  refine gw_icmp_eq32 C 16 dX10_solve_11 (by decide) (by omega) (by omega) (fun h121 => ?_) (fun h121 => ?_)
  ·
    exact absurd h121 hl
  ·
    refine gw_iload_n C 0 dX10_solve_14 rfl rfl ?_
    exact ret () dX10_solve_15 rfl rfl (by rw [List.append_nil]) (Nat.le_refl 0) (Nat.le_refl 0)
set_option maxHeartbeats 4000000 in
set_option maxRecDepth 100000 in
theorem c_SflipsN (l : Launch) (D : va_G) (cI cB cS cJ cF cG : ClassId) (tt : Nat → Nat) (oa ca : Nat → Nat) (w : Nat) (sg : Nat → Option Nat) (Ln St : Nat → Nat) (cnt th : Nat) (q : Q4) (hqb : QB q) (hl : SlwQ q ≠ 1) : gw_CI (S := Unit) l yX10_flips wsX10_flips 19 472 0 0 D (mo_ty cI cB cS cJ cF cG) (zs tt) (ob_ws cI cG oa (ca 0) (w) (sg) (Ln) (St) (cnt) (th) ++ cq_ws cI tt ca q) [.ref (oa 0)] (fun r _ => r = nI (SlwQ q)) (fun _ => ob_ws cI cG oa (ca 0) (w) (sg) (Ln) (St) (cnt) (th) ++ cq_ws cI tt ca q) := by
  refine gw_CI.of (cc := cX10_flips) (maxL := 2) (rt := .int) (zs_ok tt) (by decide) rfl (Nat.le_of_ble_eq_true rfl) ?_
  intro K C hkl hkn hkR hkD hmn ret
  have C : gw_x K cX10_flips RX10 wsX10_flips (mo_ty cI cB cS cJ cF cG) (zs tt) := C
  subst hkl hkD
  have hrc : (kR K).cells = 0 := by rw [hkR]
  have hrs : (kR K).slots = 0 := by rw [hkR]
  refine gw_aload_n C 0 dX10_flips_0 rfl rfl ?_
  refine gw_ws (ws2 := (ob_ws cI cG oa (ca 0) (w) (sg) (Ln) (St) (cnt) (th) ++ cq_ws cI tt ca q) ++ []) (by rw [List.append_nil]) ?_
  refine gw_appVI (n := 0) C (c_Slawful (kl K) (kD K) cI cB cS cJ cF cG tt oa ca w sg Ln St cnt th q.1 q.2.1 q.2.2.1 q.2.2.2 hqb.1 hqb.2.1 hqb.2.2.1 hqb.2.2.2) 0 rfl rfl rfl gX10_flips_X10_lawful rfl (by decide +kernel) dX10_flips_1 (by rw [hkR]; dsimp only; decide) (by rw [hrc, hrs]; omega) rfl (Nat.le_of_ble_eq_true rfl) rfl (fun rv v hv => ?_)
  change rv = nI (SlwQ q) at hv
  subst hv
  have hlt : SlwQ q < 2 ^ 32 := Slw_lt _ _ _ _
  refine gw_ws (ws2 := (ob_ws cI cG oa (ca 0) (w) (sg) (Ln) (St) (cnt) (th) ++ cq_ws cI tt ca q) ++ ([])) rfl ?_
  refine gw_istore_n C (lv2 := [(1, iN (SlwQ q)), (0, .ref (oa 0))]) dX10_flips_4 rfl (by omega) rfl ?_
  refine gw_iload_n C 0 dX10_flips_5 rfl rfl ?_
  refine gw_iconst C 1 dX10_flips_6 (by decide) ?_
  refine gw_icmp_ne32 C 25 dX10_flips_7 (by decide) (by omega) (by omega) (fun h122 => ?_) (fun h122 => ?_)
  ·
    refine gw_iload_n C 0 dX10_flips_25 rfl rfl ?_
    exact ret () dX10_flips_26 rfl rfl (by rw [List.append_nil]) (Nat.le_refl 0) (Nat.le_refl 0)
  ·
    exact absurd h122 hl
set_option maxHeartbeats 4000000 in
set_option maxRecDepth 100000 in
theorem c_Sflips (l : Launch) (D : va_G) (cI cB cS cJ cF cG : ClassId) (tt : Nat → Nat) (oa ca : Nat → Nat) (w : Nat) (sg : Nat → Option Nat) (Ln St : Nat → Nat) (cnt th : Nat) (q : Q4) (NX : Nat → Nat → Nat → Nat) (EE : Nat → Nat) (s : Option (Bool × S4)) (hl : SlwQ q = 1) (hok : ok0q q) (hmt : mt0 (NX 0) (EE 0)) (hsg : sg 0 = s.map (fun s => s.2.1 0)) (hsc : ∀ x, s = some x → sc_ok 0 x.2.2.1) : gw_CI (S := S4) l yX10_flips wsX10_flips 19 472 (knc s 5 + fdc (knb s) (sv0q q) 6) (knc s 42 + fdc (knb s) (sv0q q) 14494) D (mo_ty cI cB cS cJ cF cG) (zs tt) (ob_ws cI cG oa (ca 0) (w) (sg) (Ln) (St) (cnt) (th) ++ (cq_ws cI tt ca q ++ st0_ws cI cJ cF (NX 0) (EE 0) (s))) [.ref (oa 0)] (fun r u => r = nI (fd0q (NX 0) (EE 0) q).1 ∧ sc_ok 0 u.2.1) (fun u => ob_ws cI cG oa (ca 0) (w) (va_up sg 0 (some (u.1 0))) (Ln) (St) (cnt) (th) ++ (cq_ws cI tt ca q ++ ss0_ws cI cJ cF (NX 0) (EE 0) (fdb (knb s) (sv0q q)) u)) := by
  refine gw_CI.of (cc := cX10_flips) (maxL := 2) (rt := .int) (zs_ok tt) (by decide) rfl (Nat.le_of_ble_eq_true rfl) ?_
  intro K C hkl hkn hkR hkD hmn ret
  have C : gw_x K cX10_flips RX10 wsX10_flips (mo_ty cI cB cS cJ cF cG) (zs tt) := C
  subst hkl hkD
  have hrc : (kR K).cells = (knc s 5 + fdc (knb s) (sv0q q) 6) := by rw [hkR]
  have hrs : (kR K).slots = (knc s 42 + fdc (knb s) (sv0q q) 14494) := by rw [hkR]
  have hqb := hok.1
  refine gw_aload_n C 0 dX10_flips_0 rfl rfl ?_
  refine gw_ws (ws2 := (ob_ws cI cG oa (ca 0) (w) (sg) (Ln) (St) (cnt) (th) ++ cq_ws cI tt ca q) ++ (st0_ws cI cJ cF (NX 0) (EE 0) (s))) (by rw [List.append_assoc]) ?_
  refine gw_appVI (n := 0) C (c_Slawful (kl K) (kD K) cI cB cS cJ cF cG tt oa ca w sg Ln St cnt th q.1 q.2.1 q.2.2.1 q.2.2.2 hqb.1 hqb.2.1 hqb.2.2.1 hqb.2.2.2) 0 rfl rfl rfl gX10_flips_X10_lawful rfl (by decide +kernel) dX10_flips_1 (by rw [hkR]; dsimp only; decide) (by rw [hrc, hrs]; omega) rfl (Nat.le_of_ble_eq_true rfl) rfl (fun rv v hv => ?_)
  change rv = nI (SlwQ q) at hv
  subst hv
  have hlt : SlwQ q < 2 ^ 32 := Slw_lt _ _ _ _
  refine gw_ws (ws2 := (ob_ws cI cG oa (ca 0) (w) (sg) (Ln) (St) (cnt) (th) ++ cq_ws cI tt ca q) ++ (st0_ws cI cJ cF (NX 0) (EE 0) (s))) rfl ?_
  refine gw_istore_n C (lv2 := [(1, iN (SlwQ q)), (0, .ref (oa 0))]) dX10_flips_4 rfl (by omega) rfl ?_
  refine gw_iload_n C 0 dX10_flips_5 rfl rfl ?_
  refine gw_iconst C 1 dX10_flips_6 (by decide) ?_
  refine gw_icmp_ne32 C 25 dX10_flips_7 (by decide) (by omega) (by omega) (fun h123 => ?_) (fun h123 => ?_)
  ·
    exact absurd hl h123
  ·
    refine gw_aload_n C 1 dX10_flips_10 rfl rfl ?_
    refine gw_iconst C 0 dX10_flips_11 (by decide) ?_
    refine gw_permL (ws2 := (ob_ws cI cG oa (ca 0) (w) (sg) (Ln) (St) (cnt) (th) ++ st0_ws cI cJ cF (NX 0) (EE 0) (s)) ++ cq_ws cI tt ca q) (l := []) (apm (fun _ _ x => by simp only [List.count_append]; omega)) ?_
    refine gw_appVR2 (n := 1) C (c_known0 (kl K) (kD K) cI cB cS cJ cF cG tt oa (ca 0) w sg Ln St cnt th (NX 0) (EE 0) s hsg hsc) 0 rfl rfl rfl gX10_flips_X10_knownStage rfl (by decide +kernel) dX10_flips_12 (by rw [hkR]; dsimp only; decide) (by rw [hrc, hrs]; omega) rfl (Nat.le_of_ble_eq_true rfl) rfl (fun u r hu => ?_)
    obtain ⟨hu0, hu1⟩ := hu
    subst hu0
    refine gw_aload_n C 1 dX10_flips_15 rfl rfl ?_
    refine gw_get C 0 0 in_X10_flips_X10 dX10_flips_16 lk_X10_flips_10 rfl rfl (by decide) rfl rfl ?_
    refine gw_ws (ws2 := ob_ws cI cG oa (ca 0) (w) (va_up sg 0 (some (u.1 0))) (Ln) (St) (cnt) (th) ++ (ss0_ws cI cJ cF (NX 0) (EE 0) (knb s) u ++ cq_ws cI tt ca q)) (by rw [← List.append_assoc]) ?_
    refine gw_swap ?_
    refine gw_appVI (n := 1) C (c_findq0 (kl K) (kD K) cI cB cS cJ cF cG tt (knb s) u (NX 0) (EE 0) ca q hu1 hok hmt) 0 (ss0_hd cI cJ cF (NX 0) (EE 0) (knb s) u _) rfl rfl gX10_flips_X9_find rfl (by decide +kernel) dX10_flips_19 (by rw [hkR]; dsimp only; decide) (by rw [hrc, hrs]; exact ⟨by rw [Nat.zero_add]; exact Nat.le_refl _, by rw [Nat.zero_add]; exact Nat.le_refl _⟩) rfl (Nat.le_of_ble_eq_true rfl) rfl (fun rv v hv => ?_)
    obtain ⟨hv0, hv1, hv2, hv3⟩ := hv
    subst hv0
    rw [← hv2]
    refine gw_goto C 26 dX10_flips_22 (by decide) ?_
    refine gw_permL (ws2 := ob_ws cI cG oa (ca 0) (w) (va_up sg 0 (some (v.1 0))) (Ln) (St) (cnt) (th) ++ (cq_ws cI tt ca q ++ ss0_ws cI cJ cF (NX 0) (EE 0) (fdb (knb s) (sv0q q)) v)) (l := []) (apm (fun _ _ x => by show List.count x ((ss0_ws cI cJ cF (NX 0) (EE 0) (fdb (knb s) (sv0q q)) v ++ cq_ws cI tt ca q) ++ ob_ws cI cG oa (ca 0) (w) (va_up sg 0 (some (v.1 0))) (Ln) (St) (cnt) (th)) = _; simp only [List.count_append]; omega)) ?_
    exact ret v dX10_flips_26 rfl ⟨rfl, hv3⟩ rfl (by rw [Nat.zero_add]; exact Nat.le_refl _) (by rw [Nat.zero_add]; exact Nat.le_refl _)
def so_q (NX : Nat → Nat → Nat → Nat) (EE : Nat → Nat) (q0 : Q4) : Nat → Q4
  | 0 => q0
  | 1 => af0q (NX 0) (EE 0) q0
  | 2 => af1q (NX 1) (EE 1) (af0q (NX 0) (EE 0) q0)
  | 3 => af2q (NX 2) (EE 2) (af1q (NX 1) (EE 1) (af0q (NX 0) (EE 0) q0))
  | _ => af3q (NX 3) (EE 3) (af2q (NX 2) (EE 2) (af1q (NX 1) (EE 1) (af0q (NX 0) (EE 0) q0)))
def so_f (NX : Nat → Nat → Nat → Nat) (EE : Nat → Nat) (q0 : Q4) : Nat → Nat × List Nat
  | 0 => fd0q (NX 0) (EE 0) (so_q NX EE q0 0)
  | 1 => fd1q (NX 1) (EE 1) (so_q NX EE q0 1)
  | 2 => fd2q (NX 2) (EE 2) (so_q NX EE q0 2)
  | _ => fd3q (NX 3) (EE 3) (so_q NX EE q0 3)
def so_v (NX : Nat → Nat → Nat → Nat) (EE : Nat → Nat) (q0 : Q4) : Nat → Nat
  | 0 => sv0q (so_q NX EE q0 0)
  | 1 => sv1q (so_q NX EE q0 1)
  | 2 => sv2q (so_q NX EE q0 2)
  | _ => sv3q (so_q NX EE q0 3)
def so_n (f : Nat → Nat × List Nat) : Nat → Nat
  | 0 => 0
  | k + 1 => so_n f k + (f k).1
def so_S (f : Nat → Nat × List Nat) (St : Nat → Nat) : Nat → Nat → Nat
  | 0 => St
  | k + 1 => stS (f k).2 (so_S f St k) (so_n f k) (f k).1
def so_L (f : Nat → Nat × List Nat) (Ln : Nat → Nat) : Nat → Nat → Nat
  | 0 => fg_ Ln 4
  | k + 1 => up1 (so_L f Ln k) k (f k).1
def so_g (u : Nat → S4) (sg : Nat → Option Nat) : Nat → Nat → Option Nat
  | 0 => sg
  | k + 1 => va_up (so_g u sg k) k (some ((u k).1 0))
def so_ok (NX : Nat → Nat → Nat → Nat) (EE : Nat → Nat) (q0 : Q4) : Prop := ok0q (so_q NX EE q0 0) ∧ ok1q (so_q NX EE q0 1) ∧ ok2q (so_q NX EE q0 2) ∧ ok3q (so_q NX EE q0 3)
theorem fd0q_le (nx : Nat → Nat → Nat) (E : Nat) (q : Q4) : (fd0q nx E q).1 ≤ 15 := (fd_p nx sz0 1 7 6 (sf_ nx sz0 1 6 7 2048 E).1 (rv0 q.1 q.2.1 q.2.2.1 q.2.2.2 (fun _ _ => 0))).1
theorem fd1q_le (nx : Nat → Nat → Nat) (E : Nat) (q : Q4) : (fd1q nx E q).1 ≤ 15 := (fd_p nx sz1 2 5 4 (sf_ nx sz1 2 4 5 2048 E).1 (rv1 q.1 q.2.1 q.2.2.1 q.2.2.2 (fun _ _ => 0))).1
theorem fd2q_le (nx : Nat → Nat → Nat) (E : Nat) (q : Q4) : (fd2q nx E q).1 ≤ 15 := (fd_p nx sz2 2 7 2 (sf_ nx sz2 2 2 7 4096 E).1 (rv2 q.1 q.2.1 q.2.2.1 q.2.2.2 (fun _ _ => 0))).1
theorem fd3q_le (nx : Nat → Nat → Nat) (E : Nat) (q : Q4) : (fd3q nx E q).1 ≤ 15 := (fd_p nx sz3 4 7 0 (sf_ nx sz3 4 0 7 10240 E).1 (rv3 q.1 q.2.1 q.2.2.1 q.2.2.2 (fun _ _ => 0))).1
theorem so_f_le (NX : Nat → Nat → Nat → Nat) (EE : Nat → Nat) (q0 : Q4) (k : Nat) : (so_f NX EE q0 k).1 ≤ 15 := by
  match k with
  | 0 => exact fd0q_le _ _ _
  | 1 => exact fd1q_le _ _ _
  | 2 => exact fd2q_le _ _ _
  | _ + 3 => exact fd3q_le _ _ _
set_option maxHeartbeats 4000000 in
set_option maxRecDepth 100000 in
theorem c_SsolveG (l : Launch) (D : va_G) (cI cB cS cJ cF cG : ClassId) (tt : Nat → Nat) (oa ca cw : Nat → Nat) (sg : Nat → Option Nat) (Ln St : Nat → Nat) (cnt th : Nat) (q qw : Q4) (f : Nat → Nat × List Nat) (qq : Nat → Q4) (T : Nat → va_W) (SSf : Nat → S4 → va_W) (okk : Nat → S4 → Prop) (mcs mss : Nat → Nat) (hqb : QB q) (hl : SlwQ q = 1) (hq0 : qq 0 = cpQ qw q) (hW : ∀ (k : Nat) (u : Nat → S4), k < 4 → gw_CV (S := S4) l yX10_walkStage wsX10_walkStage 19 472 (mcs k) (mss k) D (mo_ty cI cB cS cJ cF cG) (zs tt) (ob_ws cI cG oa (ca 0) (cw 0) (so_g u sg k) (so_L f Ln k) (so_S f St k) (so_n f k) th ++ (T k ++ cq_ws cI tt cw (qq k))) [.ref (oa 0), iN k] (okk k) (fun s => ob_ws cI cG oa (ca 0) (cw 0) (va_up (so_g u sg k) k (some (s.1 0))) (up1 (so_L f Ln k) k (f k).1) (stS (f k).2 (so_S f St k) (so_n f k) (f k).1) (so_n f k + (f k).1) th ++ (SSf k s ++ cq_ws cI tt cw (qq (k + 1))))) : gw_CI (S := Nat → S4) l yX10_solve wsX10_solve 20 496 (mcs 0 + mcs 1 + mcs 2 + mcs 3) (mss 0 + mss 1 + mss 2 + mss 3) D (mo_ty cI cB cS cJ cF cG) (zs tt) (ob_ws cI cG oa (ca 0) (cw 0) (sg) (Ln) (St) (cnt) (th) ++ (cq_ws cI tt ca q ++ (cq_ws cI tt cw qw ++ (T 0 ++ (T 1 ++ (T 2 ++ T 3)))))) [.ref (oa 0)] (fun r u => r = nI (so_n f 4) ∧ okk 0 (u 0) ∧ okk 1 (u 1) ∧ okk 2 (u 2) ∧ okk 3 (u 3)) (fun u => ob_ws cI cG oa (ca 0) (cw 0) (so_g u sg 4) (so_L f Ln 4) (so_S f St 4) (so_n f 4) th ++ (cq_ws cI tt ca q ++ (cq_ws cI tt cw (qq 4) ++ (SSf 0 (u 0) ++ (SSf 1 (u 1) ++ (SSf 2 (u 2) ++ SSf 3 (u 3))))))) := by
  refine gw_CI.of (cc := cX10_solve) (maxL := 3) (rt := .int) (zs_ok tt) (by decide) rfl (Nat.le_of_ble_eq_true rfl) ?_
  intro K C hkl hkn hkR hkD hmn ret
  have C : gw_x K cX10_solve RX10 wsX10_solve (mo_ty cI cB cS cJ cF cG) (zs tt) := C
  subst hkl hkD
  have hrc : (kR K).cells = (mcs 0 + mcs 1 + mcs 2 + mcs 3) := by rw [hkR]
  have hrs : (kR K).slots = (mss 0 + mss 1 + mss 2 + mss 3) := by rw [hkR]
  refine gw_aload_n C 0 dX10_solve_0 rfl rfl ?_
  refine gw_appVV (n := 0) C (c_Sforget (kl K) (kD K) cI cB cS cJ cF cG tt oa ca (cw 0) sg Ln St cnt th) 0 rfl rfl rfl gX10_solve_X10_forgetWay rfl (by decide +kernel) dX10_solve_1 (by rw [hkR]; dsimp only; decide) (by rw [hrc, hrs]; omega) rfl (Nat.le_of_ble_eq_true rfl) rfl (fun z hz => ?_)
  refine gw_aload_n C 0 dX10_solve_4 rfl rfl ?_
  refine gw_ws (ws2 := (ob_ws cI cG oa (ca 0) ((cw 0)) (sg) ((fg_ Ln 4)) (St) (0) (th) ++ cq_ws cI tt ca q) ++ (cq_ws cI tt cw qw ++ (T 0 ++ (T 1 ++ (T 2 ++ T 3))))) (by rw [List.append_assoc]) ?_
  refine gw_appVI (n := 0) C (c_Slawful (kl K) (kD K) cI cB cS cJ cF cG tt oa ca (cw 0) sg (fg_ Ln 4) St 0 th q.1 q.2.1 q.2.2.1 q.2.2.2 hqb.1 hqb.2.1 hqb.2.2.1 hqb.2.2.2) 0 rfl rfl rfl gX10_solve_X10_lawful rfl (by decide +kernel) dX10_solve_5 (by rw [hkR]; dsimp only; decide) (by rw [hrc, hrs]; omega) rfl (Nat.le_of_ble_eq_true rfl) rfl (fun rv v hv => ?_)
  change rv = nI (SlwQ q) at hv
  subst hv
  have hlt : SlwQ q < 2 ^ 32 := Slw_lt _ _ _ _
  refine gw_ws (ws2 := (ob_ws cI cG oa (ca 0) ((cw 0)) (sg) ((fg_ Ln 4)) (St) (0) (th) ++ cq_ws cI tt ca q) ++ (cq_ws cI tt cw qw ++ (T 0 ++ (T 1 ++ (T 2 ++ T 3))))) rfl ?_
  refine gw_istore_n C (lv2 := [(1, iN (SlwQ q)), (0, .ref (oa 0))]) dX10_solve_8 rfl (by omega) rfl ?_
  refine gw_iload_n C 0 dX10_solve_9 rfl rfl ?_
  refine gw_iconst C 1 dX10_solve_10 (by decide) ?_
  refine gw_icmp_eq32 C 16 dX10_solve_11 (by decide) (by omega) (by omega) (fun h124 => ?_) (fun h124 => ?_)
  rotate_left
  · exact absurd hl h124
  refine gw_aload_n C 1 dX10_solve_16 rfl rfl ?_
  refine gw_get C 0 1 in_X10_solve_X10 dX10_solve_17 lk_X10_solve_16 rfl rfl (by decide) rfl rfl ?_
  refine gw_aload_n C 1 dX10_solve_20 rfl rfl ?_
  refine gw_get C 0 0 in_X10_solve_X10 dX10_solve_21 lk_X10_solve_10 rfl rfl (by decide) rfl rfl ?_
  refine gw_permL (ws2 := (cq_ws cI tt cw qw ++ cq_ws cI tt ca q) ++ (ob_ws cI cG oa (ca 0) ((cw 0)) (sg) (fg_ Ln 4) (St) (0) (th) ++ (T 0 ++ (T 1 ++ (T 2 ++ T 3))))) (l := []) (apm (fun _ _ x => by simp only [List.count_append]; omega)) ?_
  refine gw_appVV (n := 1) C (c_ccopy (kl K) (kD K) cI cB cS cJ cF cG tt cw qw.1 qw.2.1 qw.2.2.1 qw.2.2.2 ca q.1 q.2.1 q.2.2.1 q.2.2.2) 0 rfl rfl rfl gX10_solve_X1_copyFrom rfl (by decide +kernel) dX10_solve_24 (by rw [hkR]; dsimp only; decide) (by rw [hrc, hrs]; omega) rfl (Nat.le_of_ble_eq_true rfl) rfl (fun z2 hz2 => ?_)
  refine gw_ws (ws2 := (cq_ws cI tt cw (qq 0) ++ cq_ws cI tt ca q) ++ (ob_ws cI cG oa (ca 0) (cw 0) (so_g (fun _ => ((fun _ => 0), (fun _ _ => 0), (fun _ => 0), (fun _ => 0))) sg 0) (so_L f Ln 0) (so_S f St 0) (so_n f 0) th ++ (T 0 ++ (T 1 ++ (T 2 ++ T 3))))) (by rw [hq0]; rfl) ?_
  refine gw_iconst C 0 dX10_solve_27 (by decide) ?_
  refine gw_istore_n C (lv2 := [(2, iN (0)), (1, iN (SlwQ q)), (0, .ref (oa 0))]) dX10_solve_28 rfl (by omega) rfl ?_
  refine gw_iload_n C 0 dX10_solve_29 rfl rfl ?_
  refine gw_iconst C 4 dX10_solve_30 (by decide) ?_
  refine gw_icmp_ge C 45 dX10_solve_31 (by decide) (by omega) (by omega) (fun h125 => ?_) (fun h125 => ?_)
  · exact absurd h125 (by decide)
  refine gw_aload_n C 2 dX10_solve_34 rfl rfl ?_
  refine gw_iload_n C 0 dX10_solve_35 rfl rfl ?_
  refine gw_permL (ws2 := (ob_ws cI cG oa (ca 0) (cw 0) (so_g (fun _ => ((fun _ => 0), (fun _ _ => 0), (fun _ => 0), (fun _ => 0))) sg 0) (so_L f Ln 0) (so_S f St 0) (so_n f 0) th ++ (T 0 ++ cq_ws cI tt cw (qq 0))) ++ (cq_ws cI tt ca q ++ (T 1 ++ (T 2 ++ T 3)))) (l := []) (apm (fun _ _ x => by simp only [List.count_append]; omega)) ?_
  refine gw_appVV (n := 1) C (hW 0 (fun _ => ((fun _ => 0), (fun _ _ => 0), (fun _ => 0), (fun _ => 0))) (by decide)) 0 rfl rfl rfl gX10_solve_X10_walkStage rfl (by decide +kernel) dX10_solve_36 (by rw [hkR]; dsimp only; decide) (by rw [hrc, hrs]; omega) rfl (Nat.le_of_ble_eq_true rfl) rfl (fun u0 hu0 => ?_)
  refine gw_ws (ws2 := (ob_ws cI cG oa (ca 0) (cw 0) (so_g (fun j => u0) sg 1) (so_L f Ln 1) (so_S f St 1) (so_n f 1) th ++ (SSf 0 ((fun j => u0) 0) ++ cq_ws cI tt cw (qq 1))) ++ (cq_ws cI tt ca q ++ (T 1 ++ (T 2 ++ T 3)))) rfl ?_
  refine gw_iinc C (v := nI (1)) (lv2 := [(2, iN (1)), (1, iN (SlwQ q)), (0, .ref (oa 0))]) 0 dX10_solve_39 rfl (by decide) (by omega) rfl ?_
  refine gw_goto C 29 dX10_solve_42 (by decide) ?_
  refine gw_iload_n C 0 dX10_solve_29 rfl rfl ?_
  refine gw_iconst C 4 dX10_solve_30 (by decide) ?_
  refine gw_icmp_ge C 45 dX10_solve_31 (by decide) (by omega) (by omega) (fun h126 => ?_) (fun h126 => ?_)
  · exact absurd h126 (by decide)
  refine gw_aload_n C 2 dX10_solve_34 rfl rfl ?_
  refine gw_iload_n C 0 dX10_solve_35 rfl rfl ?_
  refine gw_permL (ws2 := (ob_ws cI cG oa (ca 0) (cw 0) (so_g (fun j => u0) sg 1) (so_L f Ln 1) (so_S f St 1) (so_n f 1) th ++ (T 1 ++ cq_ws cI tt cw (qq 1))) ++ (cq_ws cI tt ca q ++ (SSf 0 ((fun j => u0) 0) ++ (T 2 ++ T 3)))) (l := []) (apm (fun _ _ x => by simp only [List.count_append]; omega)) ?_
  refine gw_appVV (n := 1) C (hW 1 (fun j => u0) (by decide)) 0 rfl rfl rfl gX10_solve_X10_walkStage rfl (by decide +kernel) dX10_solve_36 (by rw [hkR]; dsimp only; decide) (by rw [hrc, hrs]; omega) rfl (Nat.le_of_ble_eq_true rfl) rfl (fun u1 hu1 => ?_)
  refine gw_ws (ws2 := (ob_ws cI cG oa (ca 0) (cw 0) (so_g (fun j => if j = 0 then u0 else u1) sg 2) (so_L f Ln 2) (so_S f St 2) (so_n f 2) th ++ (SSf 1 ((fun j => if j = 0 then u0 else u1) 1) ++ cq_ws cI tt cw (qq 2))) ++ (cq_ws cI tt ca q ++ (SSf 0 ((fun j => if j = 0 then u0 else u1) 0) ++ (T 2 ++ T 3)))) rfl ?_
  refine gw_iinc C (v := nI (2)) (lv2 := [(2, iN (2)), (1, iN (SlwQ q)), (0, .ref (oa 0))]) 0 dX10_solve_39 rfl (by decide) (by omega) rfl ?_
  refine gw_goto C 29 dX10_solve_42 (by decide) ?_
  refine gw_iload_n C 0 dX10_solve_29 rfl rfl ?_
  refine gw_iconst C 4 dX10_solve_30 (by decide) ?_
  refine gw_icmp_ge C 45 dX10_solve_31 (by decide) (by omega) (by omega) (fun h127 => ?_) (fun h127 => ?_)
  · exact absurd h127 (by decide)
  refine gw_aload_n C 2 dX10_solve_34 rfl rfl ?_
  refine gw_iload_n C 0 dX10_solve_35 rfl rfl ?_
  refine gw_permL (ws2 := (ob_ws cI cG oa (ca 0) (cw 0) (so_g (fun j => if j = 0 then u0 else u1) sg 2) (so_L f Ln 2) (so_S f St 2) (so_n f 2) th ++ (T 2 ++ cq_ws cI tt cw (qq 2))) ++ (cq_ws cI tt ca q ++ (SSf 0 ((fun j => if j = 0 then u0 else u1) 0) ++ (SSf 1 ((fun j => if j = 0 then u0 else u1) 1) ++ T 3)))) (l := []) (apm (fun _ _ x => by simp only [List.count_append]; omega)) ?_
  refine gw_appVV (n := 1) C (hW 2 (fun j => if j = 0 then u0 else u1) (by decide)) 0 rfl rfl rfl gX10_solve_X10_walkStage rfl (by decide +kernel) dX10_solve_36 (by rw [hkR]; dsimp only; decide) (by rw [hrc, hrs]; omega) rfl (Nat.le_of_ble_eq_true rfl) rfl (fun u2 hu2 => ?_)
  refine gw_ws (ws2 := (ob_ws cI cG oa (ca 0) (cw 0) (so_g (fun j => if j = 0 then u0 else if j = 1 then u1 else u2) sg 3) (so_L f Ln 3) (so_S f St 3) (so_n f 3) th ++ (SSf 2 ((fun j => if j = 0 then u0 else if j = 1 then u1 else u2) 2) ++ cq_ws cI tt cw (qq 3))) ++ (cq_ws cI tt ca q ++ (SSf 0 ((fun j => if j = 0 then u0 else if j = 1 then u1 else u2) 0) ++ (SSf 1 ((fun j => if j = 0 then u0 else if j = 1 then u1 else u2) 1) ++ T 3)))) rfl ?_
  refine gw_iinc C (v := nI (3)) (lv2 := [(2, iN (3)), (1, iN (SlwQ q)), (0, .ref (oa 0))]) 0 dX10_solve_39 rfl (by decide) (by omega) rfl ?_
  refine gw_goto C 29 dX10_solve_42 (by decide) ?_
  refine gw_iload_n C 0 dX10_solve_29 rfl rfl ?_
  refine gw_iconst C 4 dX10_solve_30 (by decide) ?_
  refine gw_icmp_ge C 45 dX10_solve_31 (by decide) (by omega) (by omega) (fun h128 => ?_) (fun h128 => ?_)
  · exact absurd h128 (by decide)
  refine gw_aload_n C 2 dX10_solve_34 rfl rfl ?_
  refine gw_iload_n C 0 dX10_solve_35 rfl rfl ?_
  refine gw_permL (ws2 := (ob_ws cI cG oa (ca 0) (cw 0) (so_g (fun j => if j = 0 then u0 else if j = 1 then u1 else u2) sg 3) (so_L f Ln 3) (so_S f St 3) (so_n f 3) th ++ (T 3 ++ cq_ws cI tt cw (qq 3))) ++ (cq_ws cI tt ca q ++ (SSf 0 ((fun j => if j = 0 then u0 else if j = 1 then u1 else u2) 0) ++ (SSf 1 ((fun j => if j = 0 then u0 else if j = 1 then u1 else u2) 1) ++ SSf 2 ((fun j => if j = 0 then u0 else if j = 1 then u1 else u2) 2))))) (l := []) (apm (fun _ _ x => by simp only [List.count_append]; omega)) ?_
  refine gw_appVV (n := 1) C (hW 3 (fun j => if j = 0 then u0 else if j = 1 then u1 else u2) (by decide)) 0 rfl rfl rfl gX10_solve_X10_walkStage rfl (by decide +kernel) dX10_solve_36 (by rw [hkR]; dsimp only; decide) (by rw [hrc, hrs]; omega) rfl (Nat.le_of_ble_eq_true rfl) rfl (fun u3 hu3 => ?_)
  refine gw_ws (ws2 := (ob_ws cI cG oa (ca 0) (cw 0) (so_g (fun j => if j = 0 then u0 else if j = 1 then u1 else if j = 2 then u2 else u3) sg 4) (so_L f Ln 4) (so_S f St 4) (so_n f 4) th ++ (SSf 3 ((fun j => if j = 0 then u0 else if j = 1 then u1 else if j = 2 then u2 else u3) 3) ++ cq_ws cI tt cw (qq 4))) ++ (cq_ws cI tt ca q ++ (SSf 0 ((fun j => if j = 0 then u0 else if j = 1 then u1 else if j = 2 then u2 else u3) 0) ++ (SSf 1 ((fun j => if j = 0 then u0 else if j = 1 then u1 else if j = 2 then u2 else u3) 1) ++ SSf 2 ((fun j => if j = 0 then u0 else if j = 1 then u1 else if j = 2 then u2 else u3) 2))))) rfl ?_
  refine gw_iinc C (v := nI (4)) (lv2 := [(2, iN (4)), (1, iN (SlwQ q)), (0, .ref (oa 0))]) 0 dX10_solve_39 rfl (by decide) (by omega) rfl ?_
  refine gw_goto C 29 dX10_solve_42 (by decide) ?_
  refine gw_iload_n C 0 dX10_solve_29 rfl rfl ?_
  refine gw_iconst C 4 dX10_solve_30 (by decide) ?_
  refine gw_icmp_ge C 45 dX10_solve_31 (by decide) (by omega) (by omega) (fun h129 => ?_) (fun h129 => ?_)
  rotate_left
  · exact absurd h129 (by decide)
  refine gw_aload_n C 2 dX10_solve_45 rfl rfl ?_
  refine gw_get C 0 5 in_X10_solve_X10 dX10_solve_46 lk_X10_solve_32 rfl rfl (by decide) rfl rfl ?_
  refine gw_permL (ws2 := ob_ws cI cG oa (ca 0) (cw 0) (so_g (fun j => if j = 0 then u0 else if j = 1 then u1 else if j = 2 then u2 else u3) sg 4) (so_L f Ln 4) (so_S f St 4) (so_n f 4) th ++ (cq_ws cI tt ca q ++ (cq_ws cI tt cw (qq 4) ++ (SSf 0 ((fun j => if j = 0 then u0 else if j = 1 then u1 else if j = 2 then u2 else u3) 0) ++ (SSf 1 ((fun j => if j = 0 then u0 else if j = 1 then u1 else if j = 2 then u2 else u3) 1) ++ (SSf 2 ((fun j => if j = 0 then u0 else if j = 1 then u1 else if j = 2 then u2 else u3) 2) ++ SSf 3 ((fun j => if j = 0 then u0 else if j = 1 then u1 else if j = 2 then u2 else u3) 3))))))) (l := []) (apm (fun _ _ x => by simp only [List.count_append]; omega)) ?_
  exact ret (fun j => if j = 0 then u0 else if j = 1 then u1 else if j = 2 then u2 else u3) dX10_solve_49 rfl ⟨rfl, hu0, hu1, hu2, hu3⟩ rfl (by omega) (by omega)
def stA (cI cJ cF : ClassId) (NX : Nat → Nat → Nat → Nat) (EE : Nat → Nat) (s : Nat → Option (Bool × S4)) : Nat → va_W
  | 0 => st0_ws cI cJ cF (NX 0) (EE 0) (s 0)
  | 1 => st1_ws cI cJ cF (NX 1) (EE 1) (s 1)
  | 2 => st2_ws cI cJ cF (NX 2) (EE 2) (s 2)
  | _ => st3_ws cI cJ cF (NX 3) (EE 3) (s 3)
def ssA (cI cJ cF : ClassId) (NX : Nat → Nat → Nat → Nat) (EE : Nat → Nat) (b : Nat → Bool) : Nat → S4 → va_W
  | 0, u => ss0_ws cI cJ cF (NX 0) (EE 0) (b 0) u
  | 1, u => ss1_ws cI cJ cF (NX 1) (EE 1) (b 1) u
  | 2, u => ss2_ws cI cJ cF (NX 2) (EE 2) (b 2) u
  | _, u => ss3_ws cI cJ cF (NX 3) (EE 3) (b 3) u
def ncC (k : Nat) : Nat := [5, 6, 9, 12].getD k 0
def ncS (k : Nat) : Nat := [42, 64, 87, 125].getD k 0
def fcC (k : Nat) : Nat := [6, 10, 10, 18].getD k 0
def fcS (k : Nat) : Nat := [14494, 85853, 8926, 94304].getD k 0
def soC (s : Nat → Option (Bool × S4)) (v : Nat → Nat) (k : Nat) : Nat := knc (s k) (ncC k) + fdc (knb (s k)) (v k) (fcC k)
def soD (s : Nat → Option (Bool × S4)) (v : Nat → Nat) (k : Nat) : Nat := knc (s k) (ncS k) + fdc (knb (s k)) (v k) (fcS k)
theorem so_n_le (f : Nat → Nat × List Nat) (h : ∀ k, (f k).1 ≤ 15) : ∀ k, so_n f k ≤ 15 * k
  | 0 => Nat.le_refl _
  | k + 1 => by have := so_n_le f h k; have := h k; rw [so_n]; omega
theorem so_g_ge (u : Nat → S4) (sg : Nat → Option Nat) : ∀ k j, k ≤ j → so_g u sg k j = sg j
  | 0, _, _ => rfl
  | k + 1, j, h => by rw [so_g]; show (if j = k then _ else _) = _; rw [if_neg (by omega)]; exact so_g_ge u sg k j (by omega)
set_option maxHeartbeats 4000000 in
theorem c_Ssolve (l : Launch) (D : va_G) (cI cB cS cJ cF cG : ClassId) (tt : Nat → Nat) (oa ca cw : Nat → Nat) (sg : Nat → Option Nat) (Ln St : Nat → Nat) (cnt th : Nat) (q qw : Q4) (NX : Nat → Nat → Nat → Nat) (EE : Nat → Nat) (s : Nat → Option (Bool × S4)) (hqb : QB q) (hl : SlwQ q = 1) (hok : so_ok NX EE (cpQ qw q)) (hmt : mtA NX EE) (hsg : ∀ k, k < 4 → sg k = (s k).map (fun s => s.2.1 0)) (hsc : ∀ k, k < 4 → ∀ x, s k = some x → sc_ok k x.2.2.1) : gw_CI (S := Nat → S4) l yX10_solve wsX10_solve 20 496 (soC s (so_v NX EE (cpQ qw q)) 0 + soC s (so_v NX EE (cpQ qw q)) 1 + soC s (so_v NX EE (cpQ qw q)) 2 + soC s (so_v NX EE (cpQ qw q)) 3) (soD s (so_v NX EE (cpQ qw q)) 0 + soD s (so_v NX EE (cpQ qw q)) 1 + soD s (so_v NX EE (cpQ qw q)) 2 + soD s (so_v NX EE (cpQ qw q)) 3) D (mo_ty cI cB cS cJ cF cG) (zs tt) (ob_ws cI cG oa (ca 0) (cw 0) (sg) (Ln) (St) (cnt) (th) ++ (cq_ws cI tt ca q ++ (cq_ws cI tt cw qw ++ (stA cI cJ cF NX EE s 0 ++ (stA cI cJ cF NX EE s 1 ++ (stA cI cJ cF NX EE s 2 ++ stA cI cJ cF NX EE s 3)))))) [.ref (oa 0)] (fun r u => r = nI (so_n (so_f NX EE (cpQ qw q)) 4) ∧ sc_ok 0 (u 0).2.1 ∧ sc_ok 1 (u 1).2.1 ∧ sc_ok 2 (u 2).2.1 ∧ sc_ok 3 (u 3).2.1) (fun u => ob_ws cI cG oa (ca 0) (cw 0) (so_g u sg 4) (so_L (so_f NX EE (cpQ qw q)) Ln 4) (so_S (so_f NX EE (cpQ qw q)) St 4) (so_n (so_f NX EE (cpQ qw q)) 4) th ++ (cq_ws cI tt ca q ++ (cq_ws cI tt cw ((so_q NX EE (cpQ qw q)) 4) ++ (ssA cI cJ cF NX EE (fun k => fdb (knb (s k)) ((so_v NX EE (cpQ qw q)) k)) 0 (u 0) ++ (ssA cI cJ cF NX EE (fun k => fdb (knb (s k)) ((so_v NX EE (cpQ qw q)) k)) 1 (u 1) ++ (ssA cI cJ cF NX EE (fun k => fdb (knb (s k)) ((so_v NX EE (cpQ qw q)) k)) 2 (u 2) ++ ssA cI cJ cF NX EE (fun k => fdb (knb (s k)) ((so_v NX EE (cpQ qw q)) k)) 3 (u 3))))))) := by
  refine c_SsolveG l D cI cB cS cJ cF cG tt oa ca cw sg Ln St cnt th q qw (so_f NX EE (cpQ qw q)) (so_q NX EE (cpQ qw q)) (stA cI cJ cF NX EE s) (ssA cI cJ cF NX EE (fun k => fdb (knb (s k)) ((so_v NX EE (cpQ qw q)) k))) (fun k u => sc_ok k u.2.1) (soC s (so_v NX EE (cpQ qw q))) (soD s (so_v NX EE (cpQ qw q))) hqb hl rfl ?_
  intro k u hk
  match k, hk with
  | 0, _ => exact c_walkS0 l D cI cB cS cJ cF cG tt oa cw (ca 0) (so_g u sg 0) (so_L (so_f NX EE (cpQ qw q)) Ln 0) (so_S (so_f NX EE (cpQ qw q)) St 0) (so_n (so_f NX EE (cpQ qw q)) 0) th (NX 0) (EE 0) (s 0) ((so_q NX EE (cpQ qw q)) 0) (by rw [so_g_ge u sg 0 0 (Nat.le_refl _)]; exact hsg 0 (by decide)) (hsc 0 (by decide)) hok.1 hmt.1 (so_n_le _ (so_f_le NX EE _) 0)
  | 1, _ => exact c_walkS1 l D cI cB cS cJ cF cG tt oa cw (ca 0) (so_g u sg 1) (so_L (so_f NX EE (cpQ qw q)) Ln 1) (so_S (so_f NX EE (cpQ qw q)) St 1) (so_n (so_f NX EE (cpQ qw q)) 1) th (NX 1) (EE 1) (s 1) ((so_q NX EE (cpQ qw q)) 1) (by rw [so_g_ge u sg 1 1 (Nat.le_refl _)]; exact hsg 1 (by decide)) (hsc 1 (by decide)) hok.2.1 hmt.2.1 (so_n_le _ (so_f_le NX EE _) 1)
  | 2, _ => exact c_walkS2 l D cI cB cS cJ cF cG tt oa cw (ca 0) (so_g u sg 2) (so_L (so_f NX EE (cpQ qw q)) Ln 2) (so_S (so_f NX EE (cpQ qw q)) St 2) (so_n (so_f NX EE (cpQ qw q)) 2) th (NX 2) (EE 2) (s 2) ((so_q NX EE (cpQ qw q)) 2) (by rw [so_g_ge u sg 2 2 (Nat.le_refl _)]; exact hsg 2 (by decide)) (hsc 2 (by decide)) hok.2.2.1 hmt.2.2.1 (so_n_le _ (so_f_le NX EE _) 2)
  | 3, _ => exact c_walkS3 l D cI cB cS cJ cF cG tt oa cw (ca 0) (so_g u sg 3) (so_L (so_f NX EE (cpQ qw q)) Ln 3) (so_S (so_f NX EE (cpQ qw q)) St 3) (so_n (so_f NX EE (cpQ qw q)) 3) th (NX 3) (EE 3) (s 3) ((so_q NX EE (cpQ qw q)) 3) (by rw [so_g_ge u sg 3 3 (Nat.le_refl _)]; exact hsg 3 (by decide)) (hsc 3 (by decide)) hok.2.2.2 hmt.2.2.2 (so_n_le _ (so_f_le NX EE _) 3)
