set_option maxHeartbeats 4000000 in
set_option maxRecDepth 100000 in
theorem law_solve {K : gw_K} {cI cB cS cJ cF cG : ClassId} {tt oa ca cw : Nat → Nat} {o : Nat} {ad EE : Nat → Nat} {b L i : Nat} {xs : Nat → Int32} (X : lwX K cI cB cS cJ cF cG tt b L xs) (hi : i + 4 ≤ L) (hmt : mtA mt_NX EE) (H0 : ∀ q, mt_Lw q → mt_Fnd mt_Lw mt_G0 6 q (fd0q (mt_NX 0) (EE 0) q)) (H1 : ∀ q, mt_C1 q → mt_Fnd mt_C1 mt_G1 4 q (fd1q (mt_NX 1) (EE 1) q)) (H2 : ∀ q, mt_C2 q → mt_Fnd mt_C2 mt_G2 2 q (fd2q (mt_NX 2) (EE 2) q)) (H3 : ∀ q, mt_C3 q → mt_Fnd mt_C3 mt_G3 0 q (fd3q (mt_NX 3) (EE 3) q)) (kk : lwI K cI cB cS cJ cF cG tt oa ca cw o ad EE b 345 i) : lwI K cI cB cS cJ cF cG tt oa ca cw o ad EE b 273 i := by
  obtain ⟨C, hkR, hX, hbl, hbA, hL⟩ := X
  intro cells slots q qw s sg Ln St cnt th N hJ hg hs hc1 hc2
  have hqb := hJ.2.1
  have hqm := JW_QM hJ
  by_cases hl : SlwQ q = 1
  · obtain ⟨_, _, _, _, hok⟩ := solves H0 H1 H2 H3 (cpQ_Lw qw hqb hl)
    obtain ⟨N2, r1, r2⟩ := JW_solve H0 H1 H2 H3 hJ hl qw
    have hc := c_Ssolve (kl K) (kD K) cI cB cS cJ cF cG tt oa ca cw sg Ln St cnt th q qw mt_NX EE s hqb hl hok hmt hg hs
    generalize so_v mt_NX EE (cpQ qw q) = v at hc
    generalize so_f mt_NX EE (cpQ qw q) = f at hc r1 r2
    generalize so_q mt_NX EE (cpQ qw q) 4 = qf at hc
    have e0 := fun u => po_step (s 0) (v 0) u 5 6
    have e1 := fun u => po_step (s 1) (v 1) u 6 10
    have e2 := fun u => po_step (s 2) (v 2) u 9 10
    have e3 := fun u => po_step (s 3) (v 3) u 12 18
    have f0 := fun u => po_step (s 0) (v 0) u 42 14494
    have f1 := fun u => po_step (s 1) (v 1) u 64 85853
    have f2 := fun u => po_step (s 2) (v 2) u 87 8926
    have f3 := fun u => po_step (s 3) (v 3) u 125 94304
    have d0 : soC s v 0 = knc (s 0) 5 + fdc (knb (s 0)) (v 0) 6 := rfl
    have d1 : soC s v 1 = knc (s 1) 6 + fdc (knb (s 1)) (v 1) 10 := rfl
    have d2 : soC s v 2 = knc (s 2) 9 + fdc (knb (s 2)) (v 2) 10 := rfl
    have d3 : soC s v 3 = knc (s 3) 12 + fdc (knb (s 3)) (v 3) 18 := rfl
    have g0 : soD s v 0 = knc (s 0) 42 + fdc (knb (s 0)) (v 0) 14494 := rfl
    have g1 : soD s v 1 = knc (s 1) 64 + fdc (knb (s 1)) (v 1) 85853 := rfl
    have g2 : soD s v 2 = knc (s 2) 87 + fdc (knb (s 2)) (v 2) 8926 := rfl
    have g3 : soD s v 3 = knc (s 3) 125 + fdc (knb (s 3)) (v 3) 94304 := rfl
    have pc0 : poC s = po1 (s 0) 5 6 + po1 (s 1) 6 10 + po1 (s 2) 9 10 + po1 (s 3) 12 18 := rfl
    have ps0 : poS s = po1 (s 0) 42 14494 + po1 (s 1) 64 85853 + po1 (s 2) 87 8926 + po1 (s 3) 125 94304 := rfl
    have room1 : cells + (soC s v 0 + soC s v 1 + soC s v 2 + soC s v 3) ≤ 182462 := by have := e0 ((fun _ => 0), (fun _ _ => 0), (fun _ => 0), (fun _ => 0)); have := e1 ((fun _ => 0), (fun _ _ => 0), (fun _ => 0), (fun _ => 0)); have := e2 ((fun _ => 0), (fun _ _ => 0), (fun _ => 0), (fun _ => 0)); have := e3 ((fun _ => 0), (fun _ _ => 0), (fun _ => 0), (fun _ => 0)); omega
    have room2 : slots + (soD s v 0 + soD s v 1 + soD s v 2 + soD s v 3) ≤ 8554864 := by have := f0 ((fun _ => 0), (fun _ _ => 0), (fun _ => 0), (fun _ => 0)); have := f1 ((fun _ => 0), (fun _ _ => 0), (fun _ => 0), (fun _ => 0)); have := f2 ((fun _ => 0), (fun _ _ => 0), (fun _ => 0), (fun _ => 0)); have := f3 ((fun _ => 0), (fun _ _ => 0), (fun _ => 0), (fun _ => 0)); omega
    refine gw_aload_n C 2 dL_law_273 rfl rfl ?_
    refine gw_permL (ws2 := (ob_ws cI cG oa (ca 0) (cw 0) (sg) (Ln) (St) (cnt) (th) ++ (cq_ws cI tt ca (q) ++ (cq_ws cI tt cw (qw) ++ (stA cI cJ cF mt_NX EE (s) 0 ++ (stA cI cJ cF mt_NX EE (s) 1 ++ (stA cI cJ cF mt_NX EE (s) 2 ++ stA cI cJ cF mt_NX EE (s) 3)))))) ++ mo_ws o ad cI cB cS (N)) (l := []) (apm (fun _ _ x => by simp only [lwW, List.count_append] <;> omega)) ?_
    refine gw_appVI (n := 0) (As := []) (rest := []) C hc 0 rfl rfl rfl gL_law_X10_solve rfl (by decide +kernel) dL_law_274 (by rw [hkR]; dsimp only; decide) (by rw [hkR]; exact ⟨room1, room2⟩) rfl (Nat.le_of_ble_eq_true rfl) rfl (fun rv u hv => ?_)
    obtain ⟨rfl, k0, k1, k2, k3⟩ := hv
    have ks : ∀ k, k < 4 → sc_ok k (u k).2.1 := fun k hk => match k, hk with | 0, _ => k0 | 1, _ => k1 | 2, _ => k2 | 3, _ => k3 | n + 4, h => absurd h (by omega)
    refine gw_ws (ws2 := (ob_ws cI cG oa (ca 0) (cw 0) (so_g u sg 4) (so_L f Ln 4) (so_S f St 4) (so_n f 4) (th) ++ (cq_ws cI tt ca (q) ++ (cq_ws cI tt cw qf ++ (stA cI cJ cF mt_NX EE ((fun k => some (fdb (knb (s k)) (v k), u k))) 0 ++ (stA cI cJ cF mt_NX EE ((fun k => some (fdb (knb (s k)) (v k), u k))) 1 ++ (stA cI cJ cF mt_NX EE ((fun k => some (fdb (knb (s k)) (v k), u k))) 2 ++ stA cI cJ cF mt_NX EE ((fun k => some (fdb (knb (s k)) (v k), u k))) 3)))))) ++ mo_ws o ad cI cB cS (N)) (by rw [ssA_0 (b := (fun k => fdb (knb (s k)) (v k))) (u := u 0) (s := (fun k => some (fdb (knb (s k)) (v k), u k))) rfl, ssA_1 (b := (fun k => fdb (knb (s k)) (v k))) (u := u 1) (s := (fun k => some (fdb (knb (s k)) (v k), u k))) rfl, ssA_2 (b := (fun k => fdb (knb (s k)) (v k))) (u := u 2) (s := (fun k => some (fdb (knb (s k)) (v k), u k))) rfl, ssA_3 (b := (fun k => fdb (knb (s k)) (v k))) (u := u 3) (s := (fun k => some (fdb (knb (s k)) (v k), u k))) rfl]) ?_
    refine gw_aload_n C 1 dL_law_277 rfl rfl ?_
    refine gw_permL (ws2 := mo_ws o ad cI cB cS (N) ++ (ob_ws cI cG oa (ca 0) (cw 0) (so_g u sg 4) (so_L f Ln 4) (so_S f St 4) (so_n f 4) (th) ++ (cq_ws cI tt ca (q) ++ (cq_ws cI tt cw qf ++ (stA cI cJ cF mt_NX EE ((fun k => some (fdb (knb (s k)) (v k), u k))) 0 ++ (stA cI cJ cF mt_NX EE ((fun k => some (fdb (knb (s k)) (v k), u k))) 1 ++ (stA cI cJ cF mt_NX EE ((fun k => some (fdb (knb (s k)) (v k), u k))) 2 ++ stA cI cJ cF mt_NX EE ((fun k => some (fdb (knb (s k)) (v k), u k))) 3))))))) (l := []) (apm (fun _ _ x => by simp only [List.count_append] <;> omega)) ?_
    refine gw_appVI (n := 0) (As := []) (rest := [.int (nI (so_n f 4))]) C (r1 (kl K) (kD K) cI cB cS cJ cF cG (zs tt) (zs_ok tt) o ad) 0 rfl rfl rfl gL_law_X11_solve rfl (by decide +kernel) dL_law_278 (by rw [hkR]; dsimp only; decide) (by rw [hkR]; exact ⟨room1, room2⟩) rfl (Nat.le_of_ble_eq_true rfl) rfl (fun rv2 M hv2 => ?_)
    obtain ⟨rfl, hM⟩ := hv2
    have hM : M = N2 := hM
    rw [hM]
    refine gw_permL (ws2 := lwW cI cB cS cJ cF cG tt oa ca cw o ad EE q qf (fun k => some (fdb (knb (s k)) (v k), u k)) (so_g u sg 4) (so_L f Ln 4) (so_S f St 4) (so_n f 4) th N2) (l := []) (apm (fun _ _ x => by simp only [lwW, List.count_append] <;> omega)) ?_
    refine gw_icmp_eq_r C 345 dL_law_281 (by decide) (fun _ => ?_) (fun w => absurd rfl w)
    have pc1 : poC (fun k => some (fdb (knb (s k)) (v k), u k)) = po1 (some (fdb (knb (s 0)) (v 0), u 0)) 5 6 + po1 (some (fdb (knb (s 1)) (v 1), u 1)) 6 10 + po1 (some (fdb (knb (s 2)) (v 2), u 2)) 9 10 + po1 (some (fdb (knb (s 3)) (v 3), u 3)) 12 18 := rfl
    have ps1 : poS (fun k => some (fdb (knb (s k)) (v k), u k)) = po1 (some (fdb (knb (s 0)) (v 0), u 0)) 42 14494 + po1 (some (fdb (knb (s 1)) (v 1), u 1)) 64 85853 + po1 (some (fdb (knb (s 2)) (v 2), u 2)) 87 8926 + po1 (some (fdb (knb (s 3)) (v 3), u 3)) 125 94304 := rfl
    exact kk _ _ _ _ _ _ _ _ _ _ _ r2 (fun k hk => by rw [so_g_lt u sg 4 k hk]; rfl) (fun k hk x hx => by
      have hx2 : some (fdb (knb (s k)) (v k), u k) = some x := hx
      have hx3 : x = (fdb (knb (s k)) (v k), u k) := (Option.some.inj hx2).symm
      rw [hx3]
      exact ks k hk) (by have := e0 (u 0); have := e1 (u 1); have := e2 (u 2); have := e3 (u 3); omega) (by have := f0 (u 0); have := f1 (u 1); have := f2 (u 2); have := f3 (u 3); omega)
  · refine gw_ws (ws2 := (ob_ws cI cG oa (ca 0) (cw 0) (sg) (Ln) (St) (cnt) (th) ++ cq_ws cI tt ca (q)) ++ ((cq_ws cI tt cw (qw) ++ (stA cI cJ cF mt_NX EE (s) 0 ++ (stA cI cJ cF mt_NX EE (s) 1 ++ (stA cI cJ cF mt_NX EE (s) 2 ++ stA cI cJ cF mt_NX EE (s) 3)))) ++ mo_ws o ad cI cB cS (N))) rfl ?_
    refine gw_aload_n C 2 dL_law_273 rfl rfl ?_
    refine gw_appVI (n := 0) (As := []) (rest := []) C (c_SsolveN (kl K) (kD K) cI cB cS cJ cF cG tt oa ca (cw 0) sg Ln St cnt th q hqb hl) 0 rfl rfl rfl gL_law_X10_solve rfl (by decide +kernel) dL_law_274 (by rw [hkR]; dsimp only; decide) (by rw [hkR]; dsimp only; omega) rfl (Nat.le_of_ble_eq_true rfl) rfl (fun rv u hv => ?_)
    have hv : rv = nI (SlwQ q) := hv
    subst hv
    refine gw_ws (ws2 := (ob_ws cI cG oa (ca 0) (cw 0) (sg) (fg_ Ln 4) (St) (0) (th) ++ cq_ws cI tt ca (q)) ++ ((cq_ws cI tt cw (qw) ++ (stA cI cJ cF mt_NX EE (s) 0 ++ (stA cI cJ cF mt_NX EE (s) 1 ++ (stA cI cJ cF mt_NX EE (s) 2 ++ stA cI cJ cF mt_NX EE (s) 3)))) ++ mo_ws o ad cI cB cS (N))) rfl ?_
    refine gw_aload_n C 1 dL_law_277 rfl rfl ?_
    refine gw_permL (ws2 := mo_ws o ad cI cB cS (N) ++ ((ob_ws cI cG oa (ca 0) (cw 0) (sg) (fg_ Ln 4) (St) (0) (th) ++ cq_ws cI tt ca (q)) ++ (cq_ws cI tt cw (qw) ++ (stA cI cJ cF mt_NX EE (s) 0 ++ (stA cI cJ cF mt_NX EE (s) 1 ++ (stA cI cJ cF mt_NX EE (s) 2 ++ stA cI cJ cF mt_NX EE (s) 3)))))) (l := []) (apm (fun _ _ x => by simp only [List.count_append] <;> omega)) ?_
    refine gw_appVI (n := 0) (As := []) (rest := [.int (nI (SlwQ q))]) C (c_solve_no (kl K) (kD K) cI cB cS cJ cF cG (zs tt) (zs_ok tt) o ad N hqm.1 hqm.2.1 hqm.2.2.1 hqm.2.2.2 (by rw [law_sv0, JW_law hJ]; exact hl)) 0 rfl rfl rfl gL_law_X11_solve rfl (by decide +kernel) dL_law_278 (by rw [hkR]; dsimp only; decide) (by rw [hkR]; dsimp only; omega) rfl (Nat.le_of_ble_eq_true rfl) rfl (fun rv2 M hv2 => ?_)
    obtain ⟨rfl, hM⟩ := hv2
    have hM : M = _ := hM
    rw [hM]
    refine gw_permL (ws2 := lwW cI cB cS cJ cF cG tt oa ca cw o ad EE (q) qw s sg (fg_ Ln 4) St 0 th (mo_sv0 N)) (l := []) (apm (fun _ _ x => by simp only [lwW, List.count_append] <;> omega)) ?_
    refine gw_icmp_eq_r C 345 dL_law_281 (by decide) (fun _ => ?_) (fun w => absurd (congrArg nI ((law_sv0 N).trans (JW_law hJ)).symm) w)
    exact kk _ _ _ qw s sg _ _ _ _ _ (JW_solveN hJ) hg hs (by omega) (by omega)
