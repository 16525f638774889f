theorem mo_blank_ok : ∀ j, j < 38 → defaultValue (tyX11 j) = vp_V mo_blank j := gw_ls (gw_ls (gw_ls (gw_ls (gw_ls (gw_ls (gw_ls (gw_ls (gw_ls (gw_ls (gw_ls (gw_ls (gw_ls (gw_ls (gw_ls (gw_ls (gw_ls (gw_ls (gw_ls (gw_ls (gw_ls (gw_ls (gw_ls (gw_ls (gw_ls (gw_ls (gw_ls (gw_ls (gw_ls (gw_ls (gw_ls (gw_ls (gw_ls (gw_ls (gw_ls (gw_ls (gw_ls (gw_ls (gw_l0) rfl) rfl) rfl) rfl) rfl) rfl) rfl) rfl) rfl) rfl) rfl) rfl) rfl) rfl) rfl) rfl) rfl) rfl) rfl) rfl) rfl) rfl) rfl) rfl) rfl) rfl) rfl) rfl) rfl) rfl) rfl) rfl) rfl) rfl) rfl) rfl) rfl) rfl
theorem lt_sub4 {L i : Nat} (h : L < i + 4) (hi : i < 2 ^ 31) : nI L - nI 4 < nI i := by
  by_cases c : 4 ≤ L
  · rw [pk_sub c]; exact nI_lt (by omega) hi
  · have hz := nI_pos' hi
    rw [Int32.le_iff_toInt_le] at hz
    rw [Int32.lt_iff_toInt_lt]
    have key : ∀ l, l < 4 → (nI l - nI 4).toInt < (0 : Int32).toInt := by decide
    exact Int.lt_of_lt_of_le (key L (by omega)) hz
set_option maxHeartbeats 4000000 in
set_option maxRecDepth 100000 in
theorem law_next {K : gw_K} {cI cB cS cJ cF cG : ClassId} {tt oa ca cw : Nat → Nat} {o : Nat} {ad EE : Nat → Nat} {b L i : Nat} {xs : Nat → Int32} (X : lwX K cI cB cS cJ cF cG tt b L xs) (hkn : kn K = 4) (kk : lwI K cI cB cS cJ cF cG tt oa ca cw o ad EE b 18 (i + 4)) : lwI K cI cB cS cJ cF cG tt oa ca cw o ad EE b 345 i := by
  obtain ⟨C, hkR, hX, hbl, hbA, hL⟩ := X
  intro cells slots q qw s sg Ln St cnt th N hJ hg hs hc1 hc2
  refine gw_iinc C (v := nI (i + 4)) (lv2 := [(3, iN (i + 4)), (2, .ref o), (1, .ref (oa 0)), (0, .ref b)]) 0 dL_law_345 rfl (by rw [show Int32.ofInt 4 = nI 4 by decide, nI_add]) (by rw [hkn]; decide) rfl ?_
  refine gw_goto C 18 dL_law_348 (by decide) ?_
  exact kk _ _ _ _ _ _ _ _ _ _ _ hJ hg hs hc1 hc2
set_option maxHeartbeats 4000000 in
set_option maxRecDepth 100000 in
theorem law_exit {K : gw_K} {cI cB cS cJ cF cG : ClassId} {tt oa ca cw : Nat → Nat} {o : Nat} {ad EE : Nat → Nat} {b L i : Nat} {xs : Nat → Int32} (X : lwX K cI cB cS cJ cF cG tt b L xs) (hi : L < i + 4) (hi2 : i ≤ 4096) (hend : ∀ (ws : va_W) (cells slots : Nat) (lv : List (Nat × Value)), cells ≤ 182462 → slots ≤ 8554864 → gw_G K ws cells slots 352 lv [iN 1]) : lwI K cI cB cS cJ cF cG tt oa ca cw o ad EE b 18 i := by
  obtain ⟨C, hkR, hX, hbl, hbA, hL⟩ := X
  intro cells slots q qw s sg Ln St cnt th N hJ hg hs hc1 hc2
  refine gw_iload_n C 0 dL_law_18 rfl rfl ?_
  refine gw_aload_n C 3 dL_law_19 rfl rfl ?_
  refine gw_sclen C hX hbl hbA dL_law_20 ?_
  refine gw_iconst C 4 dL_law_21 (by decide) ?_
  refine gw_isub_r C dL_law_22 ?_
  refine gw_icmp_gt_r C 351 dL_law_23 (by decide) (fun _ => ?_) (fun w => absurd (lt_sub4 hi (by omega)) w)
  refine gw_iconst C 1 dL_law_351 (by decide) ?_
  exact hend _ _ _ _ (by omega) (by omega)
set_option maxHeartbeats 4000000 in
set_option maxRecDepth 100000 in
theorem law_loop {K : gw_K} {cI cB cS cJ cF cG : ClassId} {tt oa ca cw : Nat → Nat} {o : Nat} {ad EE : Nat → Nat} {b L : Nat} {xs : Nat → Int32} (X : lwX K cI cB cS cJ cF cG tt b L xs) (hkn : kn K = 4) (hend : ∀ (ws : va_W) (cells slots : Nat) (lv : List (Nat × Value)), cells ≤ 182462 → slots ≤ 8554864 → gw_G K ws cells slots 352 lv [iN 1]) (hmt : mtA mt_NX EE) (H0 : ∀ q, mt_Lw q → mt_Fnd mt_Lw mt_G0 6 q (fd0q (mt_NX 0) (EE 0) q)) (H1 : ∀ q, mt_C1 q → mt_Fnd mt_C1 mt_G1 4 q (fd1q (mt_NX 1) (EE 1) q)) (H2 : ∀ q, mt_C2 q → mt_Fnd mt_C2 mt_G2 2 q (fd2q (mt_NX 2) (EE 2) q)) (H3 : ∀ q, mt_C3 q → mt_Fnd mt_C3 mt_G3 0 q (fd3q (mt_NX 3) (EE 3) q)) : ∀ n i : Nat, L ≤ i + n → i ≤ 2052 → lwI K cI cB cS cJ cF cG tt oa ca cw o ad EE b 18 i := by
  intro n
  induction n with
  | zero => intro i h h2; exact law_exit X (by omega) (by omega) hend
  | succ n ih =>
    intro i h h2
    by_cases c4 : i + 4 ≤ L
    · have hL0 := X.2.2.2.2.2
      have kk : lwI K cI cB cS cJ cF cG tt oa ca cw o ad EE b 345 i := law_next X hkn (ih (i + 4) (by omega) (by omega))
      have X2 := X
      obtain ⟨C, hkR, hX, hbl, hbA, hL⟩ := X
      intro cells slots q qw s sg Ln St cnt th N hJ hg hs hc1 hc2
      obtain ⟨n0, hn0, en0⟩ := nI_ex (xs i)
      refine gw_iload_n C 0 dL_law_18 rfl rfl ?_
      refine gw_aload_n C 3 dL_law_19 rfl rfl ?_
      refine gw_sclen C hX hbl hbA dL_law_20 ?_
      refine gw_iconst C 4 dL_law_21 (by decide) ?_
      refine gw_isub C dL_law_22 (by omega) ?_
      refine gw_icmp_gt C 351 dL_law_23 (by decide) (by omega) (by omega) (fun w => absurd w (by omega)) (fun _ => ?_)
      refine gw_aload_n C 3 dL_law_26 rfl rfl ?_
      refine gw_iload_n C 0 dL_law_27 rfl rfl ?_
      refine gw_scld C hX hbl hbA (by omega) (by omega) dL_law_28 ?_
      rw [en0]
      refine gw_bipush C 15 dL_law_29 (by decide) ?_
      refine gw_iand C dL_law_31 ?_
      have hk : n0 &&& 15 < 16 := Nat.lt_of_le_of_lt Nat.and_le_right (by decide)
      generalize n0 &&& 15 = k at hk ⊢
      by_cases h10 : 10 < k
      · refine gw_tabO C 345 dL_law_32 (Or.inr (by rw [nI_toInt (by omega)]; omega)) (by decide) ?_
        exact kk _ _ _ _ _ _ _ _ _ _ _ hJ hg hs hc1 hc2
      · rcases (show k = 0 ∨ k = 1 ∨ k = 2 ∨ k = 3 ∨ k = 4 ∨ k = 5 ∨ k = 6 ∨ k = 7 ∨ k = 8 ∨ k = 9 ∨ k = 10 by omega) with e | e | e | e | e | e | e | e | e | e | e
        · subst e
          refine gw_tabI C 60 92 dL_law_32 (by rw [nI_toInt (by decide)]; decide) (by rw [nI_toInt (by decide)]; decide) (by rw [nI_toInt (by decide)]; rfl) (by decide) ?_
          exact law_corner X2 c4 kk _ _ _ _ _ _ _ _ _ _ _ hJ hg hs hc1 hc2
        · subst e
          refine gw_tabI C 103 135 dL_law_32 (by rw [nI_toInt (by decide)]; decide) (by rw [nI_toInt (by decide)]; decide) (by rw [nI_toInt (by decide)]; rfl) (by decide) ?_
          exact law_edge X2 c4 kk _ _ _ _ _ _ _ _ _ _ _ hJ hg hs hc1 hc2
        · subst e
          refine gw_tabI C 146 178 dL_law_32 (by rw [nI_toInt (by decide)]; decide) (by rw [nI_toInt (by decide)]; decide) (by rw [nI_toInt (by decide)]; rfl) (by decide) ?_
          exact law_at X2 c4 kk _ _ _ _ _ _ _ _ _ _ _ hJ hg hs hc1 hc2
        · subst e
          refine gw_tabI C 179 211 dL_law_32 (by rw [nI_toInt (by decide)]; decide) (by rw [nI_toInt (by decide)]; decide) (by rw [nI_toInt (by decide)]; rfl) (by decide) ?_
          exact law_lawful X2 c4 kk _ _ _ _ _ _ _ _ _ _ _ hJ hg hs hc1 hc2
        · subst e
          refine gw_tabI C 192 224 dL_law_32 (by rw [nI_toInt (by decide)]; decide) (by rw [nI_toInt (by decide)]; decide) (by rw [nI_toInt (by decide)]; rfl) (by decide) ?_
          exact law_turn X2 c4 kk _ _ _ _ _ _ _ _ _ _ _ hJ hg hs hc1 hc2
        · subst e
          refine gw_tabI C 215 247 dL_law_32 (by rw [nI_toInt (by decide)]; decide) (by rw [nI_toInt (by decide)]; decide) (by rw [nI_toInt (by decide)]; rfl) (by decide) ?_
          exact law_home X2 c4 kk _ _ _ _ _ _ _ _ _ _ _ hJ hg hs hc1 hc2
        · subst e
          refine gw_tabI C 228 260 dL_law_32 (by rw [nI_toInt (by decide)]; decide) (by rw [nI_toInt (by decide)]; decide) (by rw [nI_toInt (by decide)]; rfl) (by decide) ?_
          exact law_isHome X2 c4 kk _ _ _ _ _ _ _ _ _ _ _ hJ hg hs hc1 hc2
        · subst e
          refine gw_tabI C 241 273 dL_law_32 (by rw [nI_toInt (by decide)]; decide) (by rw [nI_toInt (by decide)]; decide) (by rw [nI_toInt (by decide)]; rfl) (by decide) ?_
          exact law_solve X2 c4 hmt H0 H1 H2 H3 kk _ _ _ _ _ _ _ _ _ _ _ hJ hg hs hc1 hc2
        · subst e
          refine gw_tabI C 254 286 dL_law_32 (by rw [nI_toInt (by decide)]; decide) (by rw [nI_toInt (by decide)]; decide) (by rw [nI_toInt (by decide)]; rfl) (by decide) ?_
          exact law_stage X2 c4 kk _ _ _ _ _ _ _ _ _ _ _ hJ hg hs hc1 hc2
        · subst e
          refine gw_tabI C 277 309 dL_law_32 (by rw [nI_toInt (by decide)]; decide) (by rw [nI_toInt (by decide)]; decide) (by rw [nI_toInt (by decide)]; rfl) (by decide) ?_
          exact law_step X2 c4 kk _ _ _ _ _ _ _ _ _ _ _ hJ hg hs hc1 hc2
        · subst e
          refine gw_tabI C 300 332 dL_law_32 (by rw [nI_toInt (by decide)]; decide) (by rw [nI_toInt (by decide)]; decide) (by rw [nI_toInt (by decide)]; rfl) (by decide) ?_
          exact law_flips X2 c4 hmt H0 H1 H2 H3 kk _ _ _ _ _ _ _ _ _ _ _ hJ hg hs hc1 hc2
    · exact law_exit X (by omega) (by omega) hend
set_option maxHeartbeats 4000000 in
set_option maxRecDepth 100000 in
theorem law_start {K : gw_K} {cI cB cS cJ cF cG : ClassId} {tt : Nat → Nat} {b L : Nat} {xs : Nat → Int32} (X : lwX K cI cB cS cJ cF cG tt b L xs) (hkn : kn K = 4) (hend : ∀ (ws : va_W) (cells slots : Nat) (lv : List (Nat × Value)), cells ≤ 182462 → slots ≤ 8554864 → gw_G K ws cells slots 352 lv [iN 1]) : gw_G K [] 0 0 0 [(0, .ref b)] [] := by
  obtain ⟨EE, hmt, H0, H1, H2, H3⟩ := stages
  have X2 := X
  obtain ⟨C, hkR, hX, hbl, hbA, hL⟩ := X
  have hrc : (kR K).cells = 182462 := by rw [hkR]
  have hrs : (kR K).slots = 8554864 := by rw [hkR]
  refine gw_new C (ci := 8) (fs := [.null, .null, .null, .null, .null, .int 0, .int 0]) tyX10 tyX10_ok inlX10 dL_law_0 (lw_law_r1 (List.mem_of_getElem? (i := 0) rfl)) (lw_law_r1 (List.mem_of_getElem? (i := 1) rfl)) (lw_law_r1 (List.mem_of_getElem? (i := 2) rfl)) rfl (fun j hj => by rcases (show j = 0 ∨ j = 1 ∨ j = 2 ∨ j = 3 ∨ j = 4 ∨ j = 5 ∨ j = 6 by omega) with rfl | rfl | rfl | rfl | rfl | rfl | rfl <;> rfl) (by rw [hrc]; decide) (by rw [hrs]; decide) (fun q0 => ?_)
  refine gw_ws (ws2 := [(q0, .inr (8, [.null, .null, .null, .null, .null, .int 0, .int 0]))] ++ []) rfl ?_
  refine gw_dup C dL_law_3 rfl ?_
  refine gw_appIV (n := 0) (As := []) (rest := [.ref q0]) C (c_Sinit (kl K) (kD K) cI cB cS cJ cF cG tt q0) gL_law_X10_init rfl (lw_law_r1 (List.mem_of_getElem? (i := 2) rfl)) (lw_law_r1 (List.mem_of_getElem? (i := 6) rfl)) (lw_law_r1 (List.mem_of_getElem? (i := 7) rfl)) rfl (by decide +kernel) dL_law_4 (by rw [hkR]; dsimp only; decide) (by rw [hrc, hrs]; decide) rfl (Nat.le_of_ble_eq_true rfl) rfl (fun u hu => ?_)
  have hu : u.1 0 = q0 := hu
  subst hu
  refine gw_ws (ws2 := ob_ws cI cG u.1 (u.2.1 0) (u.2.2 0) (fun _ => none) (fun _ => 0) (fun _ => 0) 0 0 ++ (cq_ws cI tt u.2.1 (mt_rsQ ((fun _ => 0), (fun _ => 0), (fun _ => 0), (fun _ => 0))) ++ (cq_ws cI tt u.2.2 (mt_rsQ ((fun _ => 0), (fun _ => 0), (fun _ => 0), (fun _ => 0))) ++ (stA cI cJ cF mt_NX EE (fun _ => none) 0 ++ (stA cI cJ cF mt_NX EE (fun _ => none) 1 ++ (stA cI cJ cF mt_NX EE (fun _ => none) 2 ++ stA cI cJ cF mt_NX EE (fun _ => none) 3)))))) rfl ?_
  refine gw_astore_n C (lv2 := [(1, .ref (u.1 0)), (0, .ref b)]) dL_law_7 rfl (by rw [hkn]; decide) rfl ?_
  refine gw_new C (ci := 9) (fs := mo_blank) tyX11 tyX11_ok inlX11 dL_law_8 (lw_law_r1 (List.mem_of_getElem? (i := 3) rfl)) (lw_law_r1 (List.mem_of_getElem? (i := 4) rfl)) (lw_law_r1 (List.mem_of_getElem? (i := 5) rfl)) rfl mo_blank_ok (by rw [hrc]; decide) (by rw [hrs]; decide) (fun q1 => ?_)
  refine gw_permL (ws2 := [(q1, .inr (9, mo_blank))] ++ (ob_ws cI cG u.1 (u.2.1 0) (u.2.2 0) (fun _ => none) (fun _ => 0) (fun _ => 0) 0 0 ++ (cq_ws cI tt u.2.1 (mt_rsQ ((fun _ => 0), (fun _ => 0), (fun _ => 0), (fun _ => 0))) ++ (cq_ws cI tt u.2.2 (mt_rsQ ((fun _ => 0), (fun _ => 0), (fun _ => 0), (fun _ => 0))) ++ (stA cI cJ cF mt_NX EE (fun _ => none) 0 ++ (stA cI cJ cF mt_NX EE (fun _ => none) 1 ++ (stA cI cJ cF mt_NX EE (fun _ => none) 2 ++ stA cI cJ cF mt_NX EE (fun _ => none) 3))))))) (l := []) (apm (fun _ _ x => by simp only [List.count_append] <;> omega)) ?_
  refine gw_dup C dL_law_11 rfl ?_
  refine gw_appIV (n := 0) (As := []) (rest := [.ref q1]) C (c_init (kl K) (kD K) cI cB cS cJ cF cG (zs tt) (zs_ok tt) q1) gL_law_X11_init rfl (lw_law_r1 (List.mem_of_getElem? (i := 5) rfl)) (lw_law_r3 (List.mem_of_getElem? (i := 3) rfl)) (lw_law_r3 (List.mem_of_getElem? (i := 4) rfl)) rfl (by decide +kernel) dL_law_12 (by rw [hkR]; dsimp only; decide) (by rw [hrc, hrs]; decide) rfl (Nat.le_of_ble_eq_true rfl) rfl (fun ad _ => ?_)
  refine gw_astore_n C (lv2 := [(2, .ref q1), (1, .ref (u.1 0)), (0, .ref b)]) dL_law_15 rfl (by rw [hkn]; decide) rfl ?_
  refine gw_iconst C 0 dL_law_16 (by decide) ?_
  refine gw_istore_n C (lv2 := [(3, iN 0), (2, .ref q1), (1, .ref (u.1 0)), (0, .ref b)]) dL_law_17 rfl (by rw [hkn]; decide) rfl ?_
  refine gw_permL (ws2 := lwW cI cB cS cJ cF cG tt u.1 u.2.1 u.2.2 q1 ad EE (mt_rsQ ((fun _ => 0), (fun _ => 0), (fun _ => 0), (fun _ => 0))) (mt_rsQ ((fun _ => 0), (fun _ => 0), (fun _ => 0), (fun _ => 0))) (fun _ => none) (fun _ => none) (fun _ => 0) (fun _ => 0) 0 0 mo_init) (l := []) (apm (fun _ _ x => by simp only [lwW, List.count_append] <;> omega)) ?_
  exact law_loop X2 hkn hend hmt H0 H1 H2 H3 L 0 (by omega) (by decide) _ _ _ _ _ _ _ _ _ _ _ (JW_init _) (fun _ _ => rfl) (fun _ _ _ h => by cases h) (by decide +kernel) (by decide +kernel)
