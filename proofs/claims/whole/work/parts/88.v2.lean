theorem cb_k {k : Nat} (h0 : k ≠ 0) (h1 : k ≠ 1) (h2 : k ≠ 2) (h3 : k ≠ 3) (N : Nat → Nat → Nat) : ∀ p, mo_cb p N k = N k := by
  intro p
  induction p with
  | zero => rfl
  | succ p ih =>
    rw [mo_cb, mo_cbS]
    split
    · funext j; rw [mo_up_ne (Or.inl h1), mo_up_ne (Or.inl h0), mo_up_ne (Or.inl h3), mo_up_ne (Or.inl h2), ih]
    · funext j; rw [mo_up_ne (Or.inl h3), mo_up_ne (Or.inl h2), ih]
theorem cb_v (N : Nat → Nat → Nat) : ∀ p j, j < p → mo_cb p N 2 j = N 6 j ∧ mo_cb p N 3 j = N 7 j ∧ (j < 8 → mo_cb p N 0 j = N 4 j ∧ mo_cb p N 1 j = N 5 j) := by
  intro p
  induction p with
  | zero => intro j h; omega
  | succ p ih =>
    intro j h
    have k4 := cb_k (k := 4) (by decide) (by decide) (by decide) (by decide) N p
    have k5 := cb_k (k := 5) (by decide) (by decide) (by decide) (by decide) N p
    have k6 := cb_k (k := 6) (by decide) (by decide) (by decide) (by decide) N p
    have k7 := cb_k (k := 7) (by decide) (by decide) (by decide) (by decide) N p
    rw [mo_cb, mo_cbS]
    by_cases e : j = p
    · subst e
      by_cases c : j < 8
      · rw [if_pos c]; simp [mo_up, k4, k5, k6, k7]
      · rw [if_neg c]; simp [mo_up, k4, k5, k6, k7, c]
    · have ih := ih j (by omega)
      by_cases c : p < 8
      · rw [if_pos c]; simp [mo_up, e]; exact ih
      · rw [if_neg c]; simp [mo_up, e]; exact ih
theorem cb_qeq (M : Nat → Nat → Nat) : mt_qeq (mt_QM (mo_cb 12 M)) (mt_QN M) :=
  ⟨fun j hj => (cb_v M 12 j (by omega)).2.2 hj, fun j hj => ⟨(cb_v M 12 j hj).1, (cb_v M 12 j hj).2.1⟩⟩
theorem bh_v (N : Nat → Nat → Nat) : ∀ p j, j < p → mo_bh p N 2 j = j ∧ mo_bh p N 3 j = 0 ∧ (j < 8 → mo_bh p N 0 j = j ∧ mo_bh p N 1 j = 0) := by
  intro p
  induction p with
  | zero => intro j h; omega
  | succ p ih =>
    intro j h
    rw [mo_bh, mo_bhS]
    by_cases e : j = p
    · subst e
      by_cases c : j < 8
      · rw [if_pos c]; simp [mo_up]
      · rw [if_neg c]; simp [mo_up, c]
    · have ih := ih j (by omega)
      by_cases c : p < 8
      · rw [if_pos c]; simp [mo_up, e]; exact ih
      · rw [if_neg c]; simp [mo_up, e]; exact ih
theorem rsP_v (f : Nat → Nat) : ∀ n j, j < n → rs_P f n j = j := by
  intro n
  induction n with
  | zero => intro j h; omega
  | succ n ih =>
    intro j h
    rw [rs_P, up1]
    by_cases e : j = n
    · rw [if_pos e, e]
    · rw [if_neg e, ih j (by omega)]
theorem rsM_v (f : Nat → Nat) : ∀ n j, j < n → rs_M f n j = 0 := by
  intro n
  induction n with
  | zero => intro j h; omega
  | succ n ih =>
    intro j h
    rw [rs_M, up1]
    by_cases e : j = n
    · rw [if_pos e]
    · rw [if_neg e, ih j (by omega)]
def mt_rsQ (q : Q4) : Q4 := (rs_P q.1 8, rs_M q.2.1 8, rs_P q.2.2.1 12, rs_M q.2.2.2 12)
theorem bh_qeq (M : Nat → Nat → Nat) (q : Q4) : mt_qeq (mt_QM (mo_bh 12 M)) (mt_rsQ q) :=
  ⟨fun j hj => ⟨((bh_v M 12 j (by omega)).2.2 hj).1.trans (rsP_v q.1 8 j hj).symm, ((bh_v M 12 j (by omega)).2.2 hj).2.trans (rsM_v q.2.1 8 j hj).symm⟩, fun j hj => ⟨(bh_v M 12 j hj).1.trans (rsP_v q.2.2.1 12 j hj).symm, (bh_v M 12 j hj).2.1.trans (rsM_v q.2.2.2 12 j hj).symm⟩⟩
theorem rsQ_QB (q : Q4) : QB (mt_rsQ q) := ⟨fun j hj => by rw [show (mt_rsQ q).1 j = j from rsP_v _ 8 j hj]; exact hj, fun j hj => by rw [show (mt_rsQ q).2.1 j = 0 from rsM_v _ 8 j hj]; decide, fun j hj => by rw [show (mt_rsQ q).2.2.1 j = j from rsP_v _ 12 j hj]; exact hj, fun j hj => by rw [show (mt_rsQ q).2.2.2 j = 0 from rsM_v _ 12 j hj]; decide⟩
theorem fgL_v (f : Nat → Nat) : ∀ n j, j < n → fg_ f n j = 0 := by
  intro n
  induction n with
  | zero => intro j h; omega
  | succ n ih =>
    intro j h
    rw [fg_, up1]
    by_cases e : j = n
    · rw [if_pos e]
    · rw [if_neg e, ih j (by omega)]
theorem soL_v (f : Nat → Nat × List Nat) (Ln : Nat → Nat) : ∀ n j, j < n → so_L f Ln n j = (f j).1 := by
  intro n
  induction n with
  | zero => intro j h; omega
  | succ n ih =>
    intro j h
    rw [so_L, up1]
    by_cases e : j = n
    · rw [if_pos e, e]
    · rw [if_neg e, ih j (by omega)]
theorem lp_k {k : Nat} {f : Nat → (Nat → Nat → Nat) → Nat → Nat → Nat} (h : ∀ i M, f i M k = M k) : ∀ n i M, mo_lp f n i M k = M k
  | 0, _, _ => rfl
  | n + 1, i, M => by rw [mo_lp, lp_k h n (i + 1) (f i M), h i M]
theorem fcA_k {k : Nat} (h0 : k ≠ 10) (h1 : k ≠ 11) (h2 : k ≠ 12) (h3 : k ≠ 13) (h4 : k ≠ 36) (fc a b d f : Nat) (M : Nat → Nat → Nat) : fc_A fc a b d f M k = M k := by
  rw [fc_A, lp_k (fun i M => ?_), lp_k (fun i M => ?_), lp_k (fun i M => ?_), lp_k (fun i M => ?_)]
  · funext j; rw [fc_0, mo_up_ne (Or.inl h4), mo_up_ne (Or.inl h4), mo_up_ne (Or.inl h4), mo_up_ne (Or.inl h4)]
  · funext j; rw [fc_1, mo_up_ne (Or.inl h0)]
  · funext j; rw [fc_2, mo_up_ne (Or.inl h2)]
  · funext j; rw [fc_3, mo_up_ne (Or.inl h3), mo_up_ne (Or.inl h2), mo_up_ne (Or.inl h1), mo_up_ne (Or.inl h0)]
  · rw [fc_6, lp_k (fun i M => ?_), lp_k (fun i M => ?_)]
    · funext j; rw [fc_4, mo_up_ne (Or.inl h1), mo_up_ne (Or.inl h0)]
    · funext j; rw [fc_5, mo_up_ne (Or.inl h3), mo_up_ne (Or.inl h2)]
theorem tab_k {k : Nat} (h0 : k ≠ 10) (h1 : k ≠ 11) (h2 : k ≠ 12) (h3 : k ≠ 13) (h4 : k ≠ 36) : mo_tab k = fun _ => 0 := by
  rw [mo_tab, fcA_k h0 h1 h2 h3 h4, fcA_k h0 h1 h2 h3 h4, fcA_k h0 h1 h2 h3 h4, fcA_k h0 h1 h2 h3 h4, fcA_k h0 h1 h2 h3 h4, fcA_k h0 h1 h2 h3 h4]
theorem init_k {k : Nat} (h0 : 14 ≤ k) (h1 : k ≤ 35) : mo_init k = fun _ => 0 := by
  rw [mo_init, bh_k (by omega) (by omega) (by omega) (by omega), tab_k (by omega) (by omega) (by omega) (by omega) (by omega)]
theorem FrN_init : mt_FrN mo_init := ⟨MT_init, fun k h1 h2 => init_k (by omega) h2, by rw [init_k (by decide) (by decide)]⟩
def mt_JW (N : Nat → Nat → Nat) (q : Q4) (Ln St : Nat → Nat) (cnt th : Nat) : Prop :=
  mt_TsN N ∧ QB q ∧ mt_qeq (mt_QM N) q ∧ N 14 0 = th ∧ N 15 0 < 2 ∧ N 16 0 = cnt ∧ cnt ≤ 60 ∧ (N 15 0 = 0 → cnt = 0 ∧ ∀ k, k < 4 → Ln k = 0) ∧ (N 15 0 ≠ 0 → ∀ k, k < 4 → Ln k = N 18 k) ∧ ∀ i, i < cnt → St i = N 17 i
theorem JW_init (q : Q4) : mt_JW mo_init (mt_rsQ q) (fun _ => 0) (fun _ => 0) 0 0 :=
  ⟨Or.inl FrN_init, rsQ_QB q, bh_qeq mo_tab q, by rw [init_k (by decide) (by decide)], by rw [init_k (by decide) (by decide)]; decide, by rw [init_k (by decide) (by decide)], by decide, fun _ => ⟨rfl, fun _ _ => rfl⟩, fun w => absurd (by rw [init_k (by decide) (by decide)]) w, fun i hi => by omega⟩
theorem JW_cg {N N' : Nat → Nat → Nat} {q q' : Q4} {Ln St : Nat → Nat} {cnt th th' : Nat} (h : mt_JW N q Ln St cnt th) (hT : mt_TsN N') (hb : QB q') (e : mt_qeq (mt_QM N') q') (h14 : N' 14 0 = th') (hk : ∀ k, 15 ≤ k → k ≤ 18 → N' k = N k) : mt_JW N' q' Ln St cnt th' := by
  obtain ⟨_, _, _, _, j5, mt_j6, j7, j8, j9, j10⟩ := h
  have e15 := hk 15 (by decide) (by decide)
  have e16 := hk 16 (by decide) (by decide)
  have e17 := hk 17 (by decide) (by decide)
  have e18 := hk 18 (by decide) (by decide)
  exact ⟨hT, hb, e, h14, by rw [e15]; exact j5, by rw [e16]; exact mt_j6, j7, by rw [e15]; exact j8, by rw [e15, e18]; exact j9, by rw [e17]; exact j10⟩
theorem JW_turn {N : Nat → Nat → Nat} {q : Q4} {Ln St : Nat → Nat} {cnt th : Nat} (h : mt_JW N q Ln St cnt th) {t : Nat} (ht : t < 18) : mt_JW (mo_turnN t N) (mkQ t q) Ln St cnt (th + 1) := by
  have hk : ∀ k, 10 ≤ k → k ≠ 14 → mo_turnN t N k = N k := fun k h1 h2 => by
    rw [mo_turnN, if_pos ht]
    funext j
    rw [mo_up_ne (Or.inl h2), mo_tn, cb_k (by omega) (by omega) (by omega) (by omega), mo_turn_k (by omega) (by omega) (by omega) (by omega) (by omega) (by omega), mo_lk_k (by omega) (by omega) (by omega) (by omega)]
  have k14 : mo_tn t N 14 = N 14 := by rw [mo_tn, cb_k (by decide) (by decide) (by decide) (by decide), mo_turn_k (by decide) (by decide) (by decide) (by decide) (by decide) (by decide), mo_lk_k (by decide) (by decide) (by decide) (by decide)]
  have lkk : ∀ k, 10 ≤ k → mo_lk 12 N k = N k := fun k h1 => mo_lk_k (by omega) (by omega) (by omega) (by omega) N 12
  have hM : mt_MT (mo_lk 12 N) := MT_of (TsN_MT h.1) (lkk 10 (by decide)) (lkk 11 (by decide)) (lkk 12 (by decide)) (lkk 13 (by decide))
  have e1 : mt_qeq (mt_QN (mo_lk 12 N)) q := qeq_trans (lk_qeq N) h.2.2.1
  have e2 : mt_qeq (mt_QN (mo_turn t (mo_lk 12 N))) (mkQ t q) := qeq_trans (QN_turn hM ht (qeq_QB e1 h.2.1)) (qeq_mk e1 t)
  have e3 : mt_qeq (mt_QM (mo_tn t N)) (mkQ t q) := qeq_trans (cb_qeq _) e2
  refine JW_cg h (TsN_cg h.1 (fun k h1 h2 h3 => hk k h1 (by omega))) (QB_mk t h.2.1) ?_ ?_ (fun k h1 h2 => hk k (by omega) (by omega))
  · have : mt_QM (mo_turnN t N) = mt_QM (mo_tn t N) := by
      rw [mo_turnN, if_pos ht, mt_QM, mt_QM]
      rw [show mo_up (mo_tn t N) 14 0 (mo_tn t N 14 0 + 1) 0 = mo_tn t N 0 from funext (fun x => mo_up_ne (Or.inl (by decide))), show mo_up (mo_tn t N) 14 0 (mo_tn t N 14 0 + 1) 1 = mo_tn t N 1 from funext (fun x => mo_up_ne (Or.inl (by decide))), show mo_up (mo_tn t N) 14 0 (mo_tn t N 14 0 + 1) 2 = mo_tn t N 2 from funext (fun x => mo_up_ne (Or.inl (by decide))), show mo_up (mo_tn t N) 14 0 (mo_tn t N 14 0 + 1) 3 = mo_tn t N 3 from funext (fun x => mo_up_ne (Or.inl (by decide)))]
    rw [this]; exact e3
  · rw [mo_turnN, if_pos ht, k14, h.2.2.2.1]; simp [mo_up]
theorem JW_home {N : Nat → Nat → Nat} {q : Q4} {Ln St : Nat → Nat} {cnt th : Nat} (h : mt_JW N q Ln St cnt th) : mt_JW (mo_bh 12 (mo_up N 14 0 0)) (mt_rsQ q) Ln St cnt 0 := by
  have hk : ∀ k, 4 ≤ k → k ≠ 14 → mo_bh 12 (mo_up N 14 0 0) k = N k := fun k h1 h2 => by
    rw [bh_k (by omega) (by omega) (by omega) (by omega)]
    funext j
    rw [mo_up_ne (Or.inl h2)]
  exact JW_cg h (TsN_cg h.1 (fun k h1 h2 h3 => hk k (by omega) (by omega))) (rsQ_QB q) (bh_qeq _ q) (by rw [bh_k (by decide) (by decide) (by decide) (by decide)]; simp [mo_up]) (fun k h1 h2 => hk k (by omega) (by omega))
def mt_puC (a b c : Nat) (q : Q4) : Q4 := ((cu_put 8 3 a b c (q.1, q.2.1)).1, (cu_put 8 3 a b c (q.1, q.2.1)).2, q.2.2.1, q.2.2.2)
def mt_puE (a b c : Nat) (q : Q4) : Q4 := (q.1, q.2.1, (cu_put 12 2 a b c (q.2.2.1, q.2.2.2)).1, (cu_put 12 2 a b c (q.2.2.1, q.2.2.2)).2)
theorem JW_corner {N : Nat → Nat → Nat} {q : Q4} {Ln St : Nat → Nat} {cnt th : Nat} (h : mt_JW N q Ln St cnt th) (a b c : Nat) : mt_JW (mo_put 0 1 8 3 a b c N) (mt_puC a b c q) Ln St cnt th := by
  by_cases hc : a < 8 ∧ b < 8 ∧ c < 3
  · have hk : ∀ k, 2 ≤ k → mo_put 0 1 8 3 a b c N k = N k := fun k h1 => by
      rw [mo_put, if_pos hc]
      funext j
      rw [mo_up_ne (Or.inl (by omega)), mo_up_ne (Or.inl (by omega))]
    have hq : mt_puC a b c q = (up1 q.1 a b, up1 q.2.1 a c, q.2.2.1, q.2.2.2) := by rw [mt_puC, cu_put, if_pos hc]
    refine JW_cg h (TsN_cg h.1 (fun k h1 h2 h3 => hk k (by omega))) ?_ ?_ (by rw [hk 14 (by decide)]; exact h.2.2.2.1) (fun k h1 h2 => hk k (by omega))
    · rw [hq]
      refine ⟨fun j hj => ?_, fun j hj => ?_, h.2.1.2.2.1, h.2.1.2.2.2⟩
      · show up1 q.1 a b j < 8
        rw [up1]; split
        · exact hc.2.1
        · exact h.2.1.1 j hj
      · show up1 q.2.1 a c j < 3
        rw [up1]; split
        · exact hc.2.2
        · exact h.2.1.2.1 j hj
    · rw [hq]
      have e := h.2.2.1
      refine ⟨fun j hj => ⟨?_, ?_⟩, fun j hj => ⟨?_, ?_⟩⟩
      · show mo_put 0 1 8 3 a b c N 0 j = up1 q.1 a b j
        rw [mo_put, if_pos hc, mo_up_ne (Or.inl (by decide)), up1]
        have e0 : N 0 j = q.1 j := (e.1 j hj).1
        simp [mo_up, e0]
      · show mo_put 0 1 8 3 a b c N 1 j = up1 q.2.1 a c j
        have e0 : N 1 j = q.2.1 j := (e.1 j hj).2
        rw [mo_put, if_pos hc, up1]
        simp [mo_up, e0]
      · show mo_put 0 1 8 3 a b c N 2 j = q.2.2.1 j
        rw [hk 2 (by decide)]; exact (e.2 j hj).1
      · show mo_put 0 1 8 3 a b c N 3 j = q.2.2.2 j
        rw [hk 3 (by decide)]; exact (e.2 j hj).2
  · rw [mo_put, if_neg hc, mt_puC, cu_put, if_neg hc]; exact h
theorem JW_edge {N : Nat → Nat → Nat} {q : Q4} {Ln St : Nat → Nat} {cnt th : Nat} (h : mt_JW N q Ln St cnt th) (a b c : Nat) : mt_JW (mo_put 2 3 12 2 a b c N) (mt_puE a b c q) Ln St cnt th := by
  by_cases hc : a < 12 ∧ b < 12 ∧ c < 2
  · have hk : ∀ k, k ≠ 2 → k ≠ 3 → mo_put 2 3 12 2 a b c N k = N k := fun k h1 h2 => by
      rw [mo_put, if_pos hc]
      funext j
      rw [mo_up_ne (Or.inl (by omega)), mo_up_ne (Or.inl (by omega))]
    have hq : mt_puE a b c q = (q.1, q.2.1, up1 q.2.2.1 a b, up1 q.2.2.2 a c) := by rw [mt_puE, cu_put, if_pos hc]
    refine JW_cg h (TsN_cg h.1 (fun k h1 h2 h3 => hk k (by omega) (by omega))) ?_ ?_ (by rw [hk 14 (by decide) (by decide)]; exact h.2.2.2.1) (fun k h1 h2 => hk k (by omega) (by omega))
    · rw [hq]
      refine ⟨h.2.1.1, h.2.1.2.1, fun j hj => ?_, fun j hj => ?_⟩
      · show up1 q.2.2.1 a b j < 12
        rw [up1]; split
        · exact hc.2.1
        · exact h.2.1.2.2.1 j hj
      · show up1 q.2.2.2 a c j < 2
        rw [up1]; split
        · exact hc.2.2
        · exact h.2.1.2.2.2 j hj
    · rw [hq]
      have e := h.2.2.1
      refine ⟨fun j hj => ⟨?_, ?_⟩, fun j hj => ⟨?_, ?_⟩⟩
      · show mo_put 2 3 12 2 a b c N 0 j = q.1 j
        rw [hk 0 (by decide) (by decide)]; exact (e.1 j hj).1
      · show mo_put 2 3 12 2 a b c N 1 j = q.2.1 j
        rw [hk 1 (by decide) (by decide)]; exact (e.1 j hj).2
      · show mo_put 2 3 12 2 a b c N 2 j = up1 q.2.2.1 a b j
        rw [mo_put, if_pos hc, mo_up_ne (Or.inl (by decide)), up1]
        have e0 : N 2 j = q.2.2.1 j := (e.2 j hj).1
        simp [mo_up, e0]
      · show mo_put 2 3 12 2 a b c N 3 j = up1 q.2.2.2 a c j
        have e0 : N 3 j = q.2.2.2 j := (e.2 j hj).2
        rw [mo_put, if_pos hc, up1]
        simp [mo_up, e0]
  · rw [mo_put, if_neg hc, mt_puE, cu_put, if_neg hc]; exact h
theorem JW_solveN {N : Nat → Nat → Nat} {q : Q4} {Ln St : Nat → Nat} {cnt th : Nat} (h : mt_JW N q Ln St cnt th) : mt_JW (mo_sv0 N) q (fg_ Ln 4) St 0 th := by
  have hk : ∀ k, k ≠ 15 → k ≠ 16 → mo_sv0 N k = N k := fun k h1 h2 => mo_sv0_k h1 h2 N
  have e15 : mo_sv0 N 15 0 = 0 := by rw [mo_sv0]; simp [mo_up]
  have e16 : mo_sv0 N 16 0 = 0 := by rw [mo_sv0]; simp [mo_up]
  refine ⟨TsN_cg h.1 (fun k h1 h2 h3 => hk k (by omega) (by omega)), h.2.1, ?_, ?_, by rw [e15]; decide, e16, by decide, fun _ => ⟨rfl, fun k hk => fgL_v Ln 4 k hk⟩, fun w => absurd e15 w, fun i hi => by omega⟩
  · rw [show mt_QM (mo_sv0 N) = mt_QM N by rw [mt_QM, mt_QM, hk 0 (by decide) (by decide), hk 1 (by decide) (by decide), hk 2 (by decide) (by decide), hk 3 (by decide) (by decide)]]
    exact h.2.2.1
  · rw [hk 14 (by decide) (by decide)]; exact h.2.2.2.1
theorem law_sv0 (N : Nat → Nat → Nat) : mo_law (mo_sv0 N) = mo_law N := by
  have hk : ∀ k, k ≠ 15 → k ≠ 16 → mo_sv0 N k = N k := fun k h1 h2 => mo_sv0_k h1 h2 N
  rw [mo_law, mo_law, hk 0 (by decide) (by decide), hk 1 (by decide) (by decide), hk 2 (by decide) (by decide), hk 3 (by decide) (by decide)]
theorem JW_law {N : Nat → Nat → Nat} {q : Q4} {Ln St : Nat → Nat} {cnt th : Nat} (h : mt_JW N q Ln St cnt th) : mo_law N = SlwQ q := law_eq h.2.2.1
theorem JW_QM {N : Nat → Nat → Nat} {q : Q4} {Ln St : Nat → Nat} {cnt th : Nat} (h : mt_JW N q Ln St cnt th) : QB (mt_QM N) := qeq_QB h.2.2.1 h.2.1
theorem JW_stage {N : Nat → Nat → Nat} {q : Q4} {Ln St : Nat → Nat} {cnt th : Nat} (h : mt_JW N q Ln St cnt th) (a : Nat) : mo_stageR a N = if 1 ≤ a ∧ a ≤ 4 then Ln (a - 1) else 4294967295 := by
  obtain ⟨_, _, _, _, j5, mt_j6, j7, j8, j9, j10⟩ := h
  rw [mo_stageR]
  by_cases c : a < 1 ∨ 4 < a
  · rw [if_pos c, if_neg (by omega)]
  · rw [if_neg c, if_pos (show 1 ≤ a ∧ a ≤ 4 by omega)]
    by_cases w : N 15 0 = 0
    · rw [if_pos w, (j8 w).2 (a - 1) (by omega)]
    · rw [if_neg w, j9 w (a - 1) (by omega)]
theorem JW_step {N : Nat → Nat → Nat} {q : Q4} {Ln St : Nat → Nat} {cnt th : Nat} (h : mt_JW N q Ln St cnt th) (a : Nat) : mo_stepR a N = if a < cnt then St a else 4294967295 := by
  obtain ⟨_, _, _, _, j5, mt_j6, j7, j8, j9, j10⟩ := h
  rw [mo_stepR, mt_j6]
  by_cases c : a < cnt
  · rw [if_pos c]
    by_cases w : N 15 0 = 0
    · have := (j8 w).1; omega
    · rw [if_pos ⟨w, c⟩, j10 a c]
  · rw [if_neg c, if_neg (fun w => c w.2)]
theorem cpQ_Lw {q : Q4} (w : Q4) (hb : QB q) (hl : SlwQ q = 1) : mt_Lw (cpQ w q) := by
  have e := cpQ_eq w q
  refine Lw_of (qeq_QB e hb) ?_
  rw [← hl]
  have a := law_eq (N := fun k => match k with | 0 => (cpQ w q).1 | 1 => (cpQ w q).2.1 | 2 => (cpQ w q).2.2.1 | _ => (cpQ w q).2.2.2) (q := q) e
  have b := law_eq (N := fun k => match k with | 0 => (cpQ w q).1 | 1 => (cpQ w q).2.1 | 2 => (cpQ w q).2.2.1 | _ => (cpQ w q).2.2.2) (q := cpQ w q) (qeq_refl _)
  rw [← a, ← b]
theorem qeq_symm {a b : Q4} (h : mt_qeq a b) : mt_qeq b a := ⟨fun j hj => ⟨(h.1 j hj).1.symm, (h.1 j hj).2.symm⟩, fun j hj => ⟨(h.2 j hj).1.symm, (h.2 j hj).2.symm⟩⟩
theorem JW_solve {EE : Nat → Nat} (H0 : ∀ q, mt_Lw q → mt_Fnd mt_Lw mt_G0 6 q (fd0q (mt_NX 0) (EE 0) q)) (H1 : ∀ q, mt_C1 q → mt_Fnd mt_C1 mt_G1 4 q (fd1q (mt_NX 1) (EE 1) q)) (H2 : ∀ q, mt_C2 q → mt_Fnd mt_C2 mt_G2 2 q (fd2q (mt_NX 2) (EE 2) q)) (H3 : ∀ q, mt_C3 q → mt_Fnd mt_C3 mt_G3 0 q (fd3q (mt_NX 3) (EE 3) q)) {N : Nat → Nat → Nat} {q : Q4} {Ln St : Nat → Nat} {cnt th : Nat} (h : mt_JW N q Ln St cnt th) (hl : SlwQ q = 1) (w : Q4) :
    ∃ N', (∀ (l : Launch) (D : va_G) (cI mt_cB cS cJ cF cG : ClassId) (zz : (Nat → Prop) → State → Heap → Prop) (_ : gw_zT zz) (o : Nat) (ad : Nat → Nat), gw_CI l yX11_solve wsX11_solve 4 96 0 0 D (mo_ty cI mt_cB cS cJ cF cG) zz (mo_ws o ad cI mt_cB cS N) [.ref o] (fun r M => r = nI (so_n (so_f mt_NX EE (cpQ w q)) 4) ∧ M = N') (fun M => mo_ws o ad cI mt_cB cS M)) ∧ mt_JW N' q (so_L (so_f mt_NX EE (cpQ w q)) Ln 4) (so_S (so_f mt_NX EE (cpQ w q)) St 4) (so_n (so_f mt_NX EE (cpQ w q)) 4) th := by
  obtain ⟨N', r1, r2, r3, r4, r5, r6, r7⟩ := ref_solve H0 H1 H2 H3 h.1 (JW_QM h) (by rw [JW_law h]; exact hl) (qeq_trans h.2.2.1 (qeq_symm (cpQ_eq w q))) (cpQ_Lw w h.2.1 hl)
  refine ⟨N', r1, Or.inr r2, h.2.1, ?_, by rw [r3 14 (Or.inr rfl)]; exact h.2.2.2.1, by rw [r4]; decide, r5, ?_, fun w => absurd w (by rw [r4]; decide), fun _ k hk => ?_, fun i hi => (r7 St i hi).symm⟩
  · rw [show mt_QM N' = mt_QM N by rw [mt_QM, mt_QM, r3 0 (by decide), r3 1 (by decide), r3 2 (by decide), r3 3 (by decide)]]
    exact h.2.2.1
  · exact so_n_le _ (so_f_le mt_NX EE _) 4
  · rw [r6 k hk, soL_v _ _ 4 k hk]
theorem JW_flips {EE : Nat → Nat} (H0 : ∀ q, mt_Lw q → mt_Fnd mt_Lw mt_G0 6 q (fd0q (mt_NX 0) (EE 0) q)) {N : Nat → Nat → Nat} {q : Q4} {Ln St : Nat → Nat} {cnt th : Nat} (h : mt_JW N q Ln St cnt th) (hl : SlwQ q = 1) :
    ∃ N', (∀ (l : Launch) (D : va_G) (cI mt_cB cS cJ cF cG : ClassId) (zz : (Nat → Prop) → State → Heap → Prop) (_ : gw_zT zz) (o : Nat) (ad : Nat → Nat), gw_CI l yX11_flips wsX11_flips 4 96 0 0 D (mo_ty cI mt_cB cS cJ cF cG) zz (mo_ws o ad cI mt_cB cS N) [.ref o] (fun r M => r = nI (fd0q (mt_NX 0) (EE 0) q).1 ∧ M = N') (fun M => mo_ws o ad cI mt_cB cS M)) ∧ mt_JW N' q Ln St cnt th := by
  obtain ⟨N', r1, r2, r3⟩ := ref_flips H0 h.1 (JW_QM h) (by rw [JW_law h]; exact hl) h.2.2.1 (Lw_of h.2.1 hl)
  refine ⟨N', r1, JW_cg h (Or.inr r2) h.2.1 ?_ (by rw [r3 14 (by decide)]; exact h.2.2.2.1) (fun k h1 h2 => r3 k (by omega))⟩
  rw [show mt_QM N' = mt_QM N by rw [mt_QM, mt_QM, r3 0 (by decide), r3 1 (by decide), r3 2 (by decide), r3 3 (by decide)]]
  exact h.2.2.1
