theorem walk0 {N : Nat → Nat → Nat} {q : Q4} {p : Nat × List Nat} (hT : mt_TbN N) (hq : mt_Lw q) (e : mt_qeq (mt_QN N) q) (hf : mt_Fnd mt_Lw mt_G0 6 q p) (h15 : p.1 ≤ 15) (h16 : N 16 0 ≤ 85) : OneW 0 N q p := one_walk WkC0 (by decide) (fun _ _ _ => rfl) (fun l D cI mt_cB cS cJ cF cG zz hz o ad M hP => by
  obtain ⟨_, q, hq, e⟩ := hP
  exact c_far0 l D cI mt_cB cS cJ cF cG zz hz o ad M (qeq_QB e hq.1).2.2.2) hT hq e hf h15 h16
theorem walk1 {N : Nat → Nat → Nat} {q : Q4} {p : Nat × List Nat} (hT : mt_TbN N) (hq : mt_C1 q) (e : mt_qeq (mt_QN N) q) (hf : mt_Fnd mt_C1 mt_G1 4 q p) (h15 : p.1 ≤ 15) (h16 : N 16 0 ≤ 85) : OneW 1 N q p := one_walk WkC1 (by decide) (fun _ _ _ => rfl) (fun l D cI mt_cB cS cJ cF cG zz hz o ad M hP => by
  obtain ⟨hT, q, hq, e⟩ := hP
  have hb := qeq_QB e hq.1.1
  exact c_far1 l D cI mt_cB cS cJ cF cG zz hz o ad M hb.2.1 hb.2.2.1 (fun j _ => hT.2.1.2.1 j)) hT hq e hf h15 h16
theorem walk2 {N : Nat → Nat → Nat} {q : Q4} {p : Nat × List Nat} (hT : mt_TbN N) (hq : mt_C2 q) (e : mt_qeq (mt_QN N) q) (hf : mt_Fnd mt_C2 mt_G2 2 q p) (h15 : p.1 ≤ 15) (h16 : N 16 0 ≤ 85) : OneW 2 N q p := one_walk WkC2 (by decide) (fun M k hk => mo_rc_k hk M 8) (fun l D cI mt_cB cS cJ cF cG zz hz o ad M hP => by
  obtain ⟨hT, q, hq, e⟩ := hP
  have hb := qeq_QB e hq.1.1.1
  exact c_far2 l D cI mt_cB cS cJ cF cG zz hz o ad M hb.1 hb.2.2.1 (by rw [rc_rk e]; exact (hT.2.2.2.1.2.1 q.1 (q_prm hq.1.1)).1) (fun j _ => hT.2.2.1.2.1 j)) hT hq e hf h15 h16
theorem walk3 {N : Nat → Nat → Nat} {q : Q4} {p : Nat × List Nat} (hT : mt_TbN N) (hq : mt_C3 q) (e : mt_qeq (mt_QN N) q) (hf : mt_Fnd mt_C3 mt_G3 0 q p) (h15 : p.1 ≤ 15) (h16 : N 16 0 ≤ 85) : OneW 3 N q p := one_walk WkC3 (by decide) far3_k (fun l D cI mt_cB cS cJ cF cG zz hz o ad M hP => by
  obtain ⟨hT, q, hq, e⟩ := hP
  have hb := qeq_QB e hq.1.1.1.1
  exact c_far3 l D cI mt_cB cS cJ cF cG zz hz o ad M hb.1 (fun sl p hs hp => by
    rw [show M 6 (4 * sl + p) = q.2.2.1 (4 * sl + p) from (e.2 (4 * sl + p) (by omega)).1]
    exact sl_C3 hq sl p hs hp) (by
    rw [rc_rk e]
    obtain ⟨k, h1, _, h3⟩ := mt_sqk hT.2.2.2.2.1 hq
    omega)) hT hq e hf h15 h16
theorem ref_solve {EE : Nat → Nat} (H0 : ∀ q, mt_Lw q → mt_Fnd mt_Lw mt_G0 6 q (fd0q (mt_NX 0) (EE 0) q)) (H1 : ∀ q, mt_C1 q → mt_Fnd mt_C1 mt_G1 4 q (fd1q (mt_NX 1) (EE 1) q)) (H2 : ∀ q, mt_C2 q → mt_Fnd mt_C2 mt_G2 2 q (fd2q (mt_NX 2) (EE 2) q)) (H3 : ∀ q, mt_C3 q → mt_Fnd mt_C3 mt_G3 0 q (fd3q (mt_NX 3) (EE 3) q)) {N : Nat → Nat → Nat} {q : Q4} (hT : mt_TsN N) (hb : QB (mt_QM N)) (hl : mo_law N = 1) (e : mt_qeq (mt_QM N) q) (hL : mt_Lw q) : ∃ N', (∀ (l : Launch) (D : va_G) (cI mt_cB cS cJ cF cG : ClassId) (zz : (Nat → Prop) → State → Heap → Prop) (_ : gw_zT zz) (o : Nat) (ad : Nat → Nat), gw_CI l yX11_solve wsX11_solve 4 96 0 0 D (mo_ty cI mt_cB cS cJ cF cG) zz (mo_ws o ad cI mt_cB cS N) [.ref o] (fun r M => r = nI (so_n (so_f mt_NX EE q) 4) ∧ M = N') (fun M => mo_ws o ad cI mt_cB cS M)) ∧ mt_TbN N' ∧ (∀ k, (k ≤ 3 ∨ k = 14) → N' k = N k) ∧ N' 15 0 = 1 ∧ N' 16 0 = so_n (so_f mt_NX EE q) 4 ∧ (∀ k, k < 4 → N' 18 k = (so_f mt_NX EE q k).1) ∧ ∀ St i, i < so_n (so_f mt_NX EE q) 4 → N' 17 i = so_S (so_f mt_NX EE q) St 4 i := by
  have sv : ∀ k, k ≠ 15 → k ≠ 16 → mo_sv0 N k = N k := fun k h1 h2 => mo_sv0_k h1 h2 N
  obtain ⟨M, m1, m2, m3⟩ := make_any (N := mo_sv0 N) (TsN_cg hT (fun k _ _ h => sv k (by omega) (by omega)))
  obtain ⟨_, q1, q2, q3, _⟩ := solves H0 H1 H2 H3 hL
  have hQM : mt_QM M = mt_QM N := by rw [mt_QM, mt_QM, m2 0 (by decide) (by decide), m2 1 (by decide) (by decide), m2 2 (by decide) (by decide), m2 3 (by decide) (by decide), sv 0 (by decide) (by decide), sv 1 (by decide) (by decide), sv 2 (by decide) (by decide), sv 3 (by decide) (by decide)]
  have lkk : ∀ k, k ≠ 4 → k ≠ 5 → k ≠ 6 → k ≠ 7 → mo_lk 12 M k = M k := fun k a b c d => mo_lk_k a b c d M 12
  have t0 : mt_TbN (mo_lk 12 M) := TbN_cg m1 (fun k a _ _ => lkk k (by omega) (by omega) (by omega) (by omega))
  have e0 : mt_qeq (mt_QN (mo_lk 12 M)) q := qeq_trans (lk_qeq M) (by rw [hQM]; exact e)
  have z16 : mo_lk 12 M 16 0 = 0 := by rw [lkk 16 (by decide) (by decide) (by decide) (by decide), m2 16 (by decide) (by decide), mo_sv0]; simp [mo_up]
  generalize eF : so_f mt_NX EE q = f
  have f0 : fd0q (mt_NX 0) (EE 0) q = f 0 := by rw [← eF]; rfl
  have f1 : fd1q (mt_NX 1) (EE 1) (so_q mt_NX EE q 1) = f 1 := by rw [← eF]; rfl
  have f2 : fd2q (mt_NX 2) (EE 2) (so_q mt_NX EE q 2) = f 2 := by rw [← eF]; rfl
  have f3 : fd3q (mt_NX 3) (EE 3) (so_q mt_NX EE q 3) = f 3 := by rw [← eF]; rfl
  have fl : ∀ k, (f k).1 ≤ 15 := fun k => by rw [← eF]; exact so_f_le mt_NX EE q k
  have a0 := H0 q hL
  have a1 := H1 _ q1
  have a2 := H2 _ q2
  have a3 := H3 _ q3
  have r1 : wkQ (f 0).2 q (f 0).1 = so_q mt_NX EE q 1 := by rw [← f0]; rfl
  have r2 : wkQ (f 1).2 (so_q mt_NX EE q 1) (f 1).1 = so_q mt_NX EE q 2 := by rw [← f1]; rfl
  have r3 : wkQ (f 2).2 (so_q mt_NX EE q 2) (f 2).1 = so_q mt_NX EE q 3 := by rw [← f2]; rfl
  rw [f0] at a0
  rw [f1] at a1
  rw [f2] at a2
  rw [f3] at a3
  obtain ⟨W1, b1, b2, b3, b4, b5, b6, b7⟩ := walk0 t0 hL e0 a0 (fl 0) (by omega)
  rw [r1] at b3
  have l0 := fl 0
  have l1 := fl 1
  have l2 := fl 2
  have l3 := fl 3
  obtain ⟨W2, c1, c2, c3, c4, c5, c6, c7⟩ := walk1 b2 q1 b3 a1 (fl 1) (by omega)
  rw [r2] at c3
  obtain ⟨W3, mt_d1, mt_d2, d3, d4, d5, d6, d7⟩ := walk2 c2 q2 c3 a2 (fl 2) (by omega)
  rw [r3] at d3
  obtain ⟨W4, g1, g2, g3, g4, g5, g6, g7⟩ := walk3 mt_d2 q3 d3 a3 (fl 3) (by omega)
  have n4 : W4 16 0 = so_n f 4 := by rw [g4, d4, c4, b4, z16]; rfl
  refine ⟨mo_up W4 15 0 1, fun l D cI mt_cB cS cJ cF cG zz hz o ad => ?_, TbN_cg g2 (fun k _ _ _ => by funext x; exact mo_up_ne (Or.inl (by omega))), fun k hk => ?_, by simp [mo_up], by rw [mo_up_ne (Or.inl (by decide)), n4], fun k hk => ?_, fun St i hi => ?_⟩
  · rw [← n4]
    exact c_solve l D cI mt_cB cS cJ cF cG zz hz o ad N hb.1 hb.2.1 hb.2.2.1 hb.2.2.2 (by rw [show mo_law (mo_sv0 N) = mo_law N by rw [mo_law, mo_law, sv 0 (by decide) (by decide), sv 1 (by decide) (by decide), sv 2 (by decide) (by decide), sv 3 (by decide) (by decide)]]; exact hl) M (fun st => match st with | 0 => mo_lk 12 M | 1 => W1 | 2 => W2 | 3 => W3 | _ => W4) (m3 l D cI mt_cB cS cJ cF cG zz hz o ad) rfl (fun st hst => by
      match st, hst with
      | 0, _ => exact b1 l D cI mt_cB cS cJ cF cG zz hz o ad
      | 1, _ => exact c1 l D cI mt_cB cS cJ cF cG zz hz o ad
      | 2, _ => exact mt_d1 l D cI mt_cB cS cJ cF cG zz hz o ad
      | 3, _ => exact g1 l D cI mt_cB cS cJ cF cG zz hz o ad)
  · have hne : k ≠ 15 := by omega
    rw [show mo_up W4 15 0 1 k = W4 k from funext (fun x => mo_up_ne (Or.inl hne)), g7 k (by omega), d7 k (by omega), c7 k (by omega), b7 k (by omega), lkk k (by omega) (by omega) (by omega) (by omega), m2 k (by omega) (by omega), sv k (by omega) (by omega)]
  · rw [mo_up_ne (Or.inl (by decide)), g5 k, d5 k, c5 k, b5 k]
    match k, hk with
    | 0, _ => rfl
    | 1, _ => rfl
    | 2, _ => rfl
    | 3, _ => rfl
  · rw [mo_up_ne (Or.inl (by decide)), g6 i, d6 i, c6 i, b6 i, d4, c4, b4, z16]
    rw [so_S, stS_v, so_S, stS_v, so_S, stS_v, so_S, stS_v]
    have e1 : so_n f 1 = 0 + (f 0).1 := rfl
    have e2 : so_n f 2 = 0 + (f 0).1 + (f 1).1 := rfl
    have e3 : so_n f 3 = 0 + (f 0).1 + (f 1).1 + (f 2).1 := rfl
    have e4 : so_n f 4 = 0 + (f 0).1 + (f 1).1 + (f 2).1 + (f 3).1 := rfl
    rw [e1, e2, e3, show so_n f 0 = 0 from rfl]
    rw [e4] at hi
    by_cases w3 : 0 + (f 0).1 + (f 1).1 + (f 2).1 ≤ i ∧ i < 0 + (f 0).1 + (f 1).1 + (f 2).1 + (f 3).1
    · rw [if_pos w3, if_pos w3]
    rw [if_neg w3, if_neg w3]
    by_cases w2 : 0 + (f 0).1 + (f 1).1 ≤ i ∧ i < 0 + (f 0).1 + (f 1).1 + (f 2).1
    · rw [if_pos w2, if_pos w2]
    rw [if_neg w2, if_neg w2]
    by_cases w1 : 0 + (f 0).1 ≤ i ∧ i < 0 + (f 0).1 + (f 1).1
    · rw [if_pos w1, if_pos w1]
    rw [if_neg w1, if_neg w1]
    rw [if_pos (by omega), if_pos (by omega)]
theorem ref_flips {EE : Nat → Nat} (H0 : ∀ q, mt_Lw q → mt_Fnd mt_Lw mt_G0 6 q (fd0q (mt_NX 0) (EE 0) q)) {N : Nat → Nat → Nat} {q : Q4} (hT : mt_TsN N) (hb : QB (mt_QM N)) (hl : mo_law N = 1) (e : mt_qeq (mt_QM N) q) (hL : mt_Lw q) : ∃ N', (∀ (l : Launch) (D : va_G) (cI mt_cB cS cJ cF cG : ClassId) (zz : (Nat → Prop) → State → Heap → Prop) (_ : gw_zT zz) (o : Nat) (ad : Nat → Nat), gw_CI l yX11_flips wsX11_flips 4 96 0 0 D (mo_ty cI mt_cB cS cJ cF cG) zz (mo_ws o ad cI mt_cB cS N) [.ref o] (fun r M => r = nI (fd0q (mt_NX 0) (EE 0) q).1 ∧ M = N') (fun M => mo_ws o ad cI mt_cB cS M)) ∧ mt_TbN N' ∧ ∀ k, (k ≤ 3 ∨ 14 ≤ k ∧ k ≤ 18) → N' k = N k := by
  obtain ⟨M, m1, m2, m3⟩ := make_any hT
  have hQM : mt_QM M = mt_QM N := by rw [mt_QM, mt_QM, m2 0 (by decide) (by decide), m2 1 (by decide) (by decide), m2 2 (by decide) (by decide), m2 3 (by decide) (by decide)]
  have lkk : ∀ k, k ≠ 4 → k ≠ 5 → k ≠ 6 → k ≠ 7 → mo_lk 12 M k = M k := fun k a b c d => mo_lk_k a b c d M 12
  have t0 : mt_TbN (mo_lk 12 M) := TbN_cg m1 (fun k a _ _ => lkk k (by omega) (by omega) (by omega) (by omega))
  have e0 : mt_qeq (mt_QN (mo_lk 12 M)) q := qeq_trans (lk_qeq M) (by rw [hQM]; exact e)
  refine ⟨mo_lk 12 M, fun l D cI mt_cB cS cJ cF cG zz hz o ad => ?_, t0, fun k hk => by rw [lkk k (by omega) (by omega) (by omega) (by omega), m2 k (by omega) (by omega)]⟩
  have hf := H0 q hL
  have hd := WkC0.2.2.2.2.2.2 (mo_lk 12 M) q ⟨t0, q, hL, e0⟩ hL e0
  have ef : mo_far0 (mo_lk 12 M) = (fd0q (mt_NX 0) (EE 0) q).1 := by
    rcases Nat.lt_trichotomy (mo_far0 (mo_lk 12 M)) (fd0q (mt_NX 0) (EE 0) q).1 with w | w | w
    · exact absurd hd.1 (hf.2.1 _ w)
    · exact w
    · exact absurd hf.1 (hd.2 _ w)
  have hc := c_flips l D cI mt_cB cS cJ cF cG zz hz o ad N hb.1 hb.2.1 hb.2.2.1 hb.2.2.2 hl M (m3 l D cI mt_cB cS cJ cF cG zz hz o ad) (qeq_QB e0 hL.1).2.2.2
  rw [ef] at hc
  exact hc
theorem cp_v (w f : Nat → Nat) : ∀ n j, cp_ w f n j = if j < n then f j else w j := by
  intro n
  induction n with
  | zero => intro j; rw [cp_, if_neg (by omega)]
  | succ n ih =>
    intro j
    rw [cp_, up1, ih j]
    by_cases e : j = n
    · rw [if_pos e, if_pos (by omega), e]
    · rw [if_neg e]
      by_cases c : j < n
      · rw [if_pos c, if_pos (by omega)]
      · rw [if_neg c, if_neg (by omega)]
theorem cpQ_eq (w q : Q4) : mt_qeq (cpQ w q) q := ⟨fun j hj => ⟨by rw [cpQ]; dsimp only; rw [cp_v, if_pos hj], by rw [cpQ]; dsimp only; rw [cp_v, if_pos hj]⟩, fun j hj => ⟨by rw [cpQ]; dsimp only; rw [cp_v, if_pos hj], by rw [cpQ]; dsimp only; rw [cp_v, if_pos hj]⟩⟩
