def mt_WkC (st fwq : Nat) (fv : (Nat → Nat → Nat) → Nat) (fw : (Nat → Nat → Nat) → Nat → Nat → Nat) (P : (Nat → Nat → Nat) → Prop) (C G : Q4 → Prop) : Prop :=
  wk_P2 st fv fw P ∧ (∀ t, t < 18 → (mo_may st t ≠ 0 ↔ mt_alq fwq t)) ∧ (∀ M, P M → mt_MT M) ∧ (∀ a, C a → QB a) ∧ (∀ a t, C a → t < 18 → mt_alq fwq t → C (mkQ t a)) ∧
  (∀ M k, (k = 4 ∨ k = 5 ∨ k = 6 ∨ k = 7 ∨ k = 16 ∨ k = 17 ∨ k = 18) → fw M k = M k) ∧
  ∀ M q, P M → C q → mt_qeq (mt_QN M) q → mt_RQ G mkQ (mt_alq fwq) (fv M) q ∧ ∀ m, m < fv M → ¬ mt_RQ G mkQ (mt_alq fwq) m q
section WK
variable {st fwq : Nat} {fv : (Nat → Nat → Nat) → Nat} {fw : (Nat → Nat → Nat) → Nat → Nat → Nat} {P : (Nat → Nat → Nat) → Prop} {C G : Q4 → Prop}
theorem QN_fw (H : mt_WkC st fwq fv fw P C G) (M : Nat → Nat → Nat) : mt_QN (fw M) = mt_QN M := by
  have h := H.2.2.2.2.2.1 M
  unfold mt_QN
  rw [h 4 (by omega), h 5 (by omega), h 6 (by omega), h 7 (by omega)]
theorem QN_t (H : mt_WkC st fwq fv fw P C G) {M : Nat → Nat → Nat} {q : Q4} (hM : P M) (hq : C q) (e : mt_qeq (mt_QN M) q) {t : Nat} (ht : t < 18) : mt_qeq (mt_QN (mo_turn t M)) (mkQ t q) := qeq_trans (QN_turn (H.2.2.1 M hM) ht (qeq_QB e (H.2.2.2.1 q hq))) (qeq_mk e t)
theorem WW_q (H : mt_WkC st fwq fv fw P C G) {N : Nat → Nat → Nat} {q : Q4} (hN : P N) (hq : C q) (e : mt_qeq (mt_QN N) q) : ∀ t, t ≤ 18 → mt_qeq (mt_QN (wk_W st fw N t)) q := by
  intro t
  induction t with
  | zero => intro _; exact e
  | succ t ih =>
    intro ht
    have ih := ih (by omega)
    rw [wk_W]
    split
    · exact ih
    · next hm =>
      have hP := wk_W_P2 H.1 hN t (by omega)
      have h1 := QN_t H hP hq ih (show t < 18 by omega)
      have hal := (H.2.1 t (by omega)).mp hm
      have hC1 := H.2.2.2.2.1 q t hq (by omega) hal
      have hP1 := H.1.1 _ (H.1.2.1 _ t hP (by omega) hm)
      rw [← QN_fw H] at h1
      have h2 := QN_t H hP1 hC1 h1 (show t - t % 3 + 2 - t % 3 < 18 by omega)
      rw [show t - t % 3 + 2 - t % 3 = 3 * (t / 3) + (2 - t % 3) by omega, mkQ_inv (by omega) (H.2.2.2.1 q hq)] at h2
      rw [show t - t % 3 + 2 - t % 3 = 3 * (t / 3) + (2 - t % 3) by omega]
      exact h2
theorem WW_k (H : mt_WkC st fwq fv fw P C G) (N : Nat → Nat → Nat) {k : Nat} (hk : k = 16 ∨ k = 17 ∨ k = 18) : ∀ t, wk_W st fw N t k = N k := by
  intro t
  induction t with
  | zero => rfl
  | succ t ih =>
    rw [wk_W]
    split
    · exact ih
    · rw [mo_turn_k (by omega) (by omega) (by omega) (by omega) (by omega) (by omega), H.2.2.2.2.2.1 _ k (by omega), mo_turn_k (by omega) (by omega) (by omega) (by omega) (by omega) (by omega), ih]
theorem WK_1 (H : mt_WkC st fwq fv fw P C G) {N : Nat → Nat → Nat} {q : Q4} (hN : P N) (hq : C q) (e : mt_qeq (mt_QN N) q) {d : Nat} (hR : mt_RQ G mkQ (mt_alq fwq) (d + 1) q) (hm : ∀ m, m < d + 1 → ¬ mt_RQ G mkQ (mt_alq fwq) m q) : wk_T st fv fw (d + 1) N < 18 ∧ mt_alq fwq (wk_T st fv fw (d + 1) N) ∧ mt_RQ G mkQ (mt_alq fwq) d (mkQ (wk_T st fv fw (d + 1) N) q) ∧ (∀ t', t' < wk_T st fv fw (d + 1) N → mt_alq fwq t' → ¬ mt_RQ G mkQ (mt_alq fwq) d (mkQ t' q)) ∧ P (wk_S st fv fw (d + 1) N) ∧ mt_qeq (mt_QN (wk_S st fv fw (d + 1) N)) (mkQ (wk_T st fv fw (d + 1) N) q) ∧ wk_S st fv fw (d + 1) N 16 0 = N 16 0 + 1 ∧ wk_S st fv fw (d + 1) N 18 = N 18 ∧ ∀ i, wk_S st fv fw (d + 1) N 17 i = if i = N 16 0 then wk_T st fv fw (d + 1) N else N 17 i := by
  have key : ∀ t, t < 18 → (wk_q st fv fw (d + 1) N t = true ↔ mt_alq fwq t ∧ mt_RQ G mkQ (mt_alq fwq) d (mkQ t q)) := by
    intro t ht
    rw [wk_q, Bool.and_eq_true, decide_eq_true_eq, decide_eq_true_eq, H.2.1 t ht]
    refine ⟨fun ⟨a, b⟩ => ⟨a, ?_⟩, fun ⟨a, b⟩ => ⟨a, ?_⟩⟩
    · have hP := wk_W_P2 H.1 hN t (by omega)
      have hF := (H.2.2.2.2.2.2 _ _ (H.1.2.1 _ t hP ht ((H.2.1 t ht).mpr a)) (H.2.2.2.2.1 q t hq ht a) (QN_t H hP hq (WW_q H hN hq e t (by omega)) ht)).1
      rw [b] at hF
      exact hF
    · have hP := wk_W_P2 H.1 hN t (by omega)
      have hF := H.2.2.2.2.2.2 _ _ (H.1.2.1 _ t hP ht ((H.2.1 t ht).mpr a)) (H.2.2.2.2.1 q t hq ht a) (QN_t H hP hq (WW_q H hN hq e t (by omega)) ht)
      rcases Nat.lt_trichotomy (fv (mo_turn t (wk_W st fw N t))) d with w | w | w
      · exact absurd (Or.inr ⟨t, ht, a, hF.1⟩) (hm (fv (mo_turn t (wk_W st fw N t)) + 1) (by omega))
      · omega
      · exact absurd b (hF.2 d w)
  have sp := wk_F_spec (wk_q st fv fw (d + 1) N) 18 0
  rw [show wk_F (wk_q st fv fw (d + 1) N) 18 0 = wk_T st fv fw (d + 1) N from rfl] at sp
  have hex : ∃ t, t < 18 ∧ mt_alq fwq t ∧ mt_RQ G mkQ (mt_alq fwq) d (mkQ t q) := by
    rcases hR with w | w
    · exact absurd (RQ_G w d) (hm d (by omega))
    · exact w
  have hT : wk_T st fv fw (d + 1) N < 18 := by
    obtain ⟨t, h1, h2, h3⟩ := hex
    by_cases c : wk_T st fv fw (d + 1) N < 18
    · exact c
    · have := sp.2.1 t (Nat.zero_le _) (by omega)
      rw [(key t h1).mpr ⟨h2, h3⟩] at this
      exact absurd this (by decide)
  have hq1 := (key _ hT).mp (sp.2.2 (by omega))
  have hPW := wk_W_P2 H.1 hN (wk_T st fv fw (d + 1) N) (by omega)
  have hPM : P (wk_M st fv fw (d + 1) N) := H.1.1 _ (H.1.2.1 _ _ hPW hT ((H.2.1 _ hT).mpr hq1.1))
  have eM : ∀ k, (k = 16 ∨ k = 17 ∨ k = 18) → wk_M st fv fw (d + 1) N k = N k := fun k hk => by
    rw [wk_M, H.2.2.2.2.2.1 _ k (by omega), mo_turn_k (by omega) (by omega) (by omega) (by omega) (by omega) (by omega), WW_k H N hk]
  refine ⟨hT, hq1.1, hq1.2, fun t' h1 h2 h3 => ?_, ?_, ?_, ?_, ?_, fun i => ?_⟩
  · have := sp.2.1 t' (Nat.zero_le _) h1
    rw [(key t' (by omega)).mpr ⟨h2, h3⟩] at this
    exact absurd this (by decide)
  · exact (H.1.2.2.1 _ _ _ (H.1.2.2.1 _ _ _ hPM).2.1).1
  · have hQ : mt_QN (wk_S st fv fw (d + 1) N) = mt_QN (fw (mo_turn (wk_T st fv fw (d + 1) N) (wk_W st fw N (wk_T st fv fw (d + 1) N)))) := rfl
    rw [hQ, QN_fw H]
    exact QN_t H hPW hq (WW_q H hN hq e _ (by omega)) hT
  · rw [wk_S, eM 16 (by omega)]; simp [mo_up]
  · rw [wk_S]
    funext x
    rw [mo_up_ne (Or.inl (by decide)), mo_up_ne (Or.inl (by decide)), eM 18 (by omega)]
  · rw [wk_S, mo_up_ne (Or.inl (by decide)), eM 16 (by omega)]
    simp only [mo_up]
    simp only [if_true]
    rw [eM 17 (by omega)]
theorem WK_D (H : mt_WkC st fwq fv fw P C G) : ∀ d N q, P N → C q → mt_qeq (mt_QN N) q → mt_RQ G mkQ (mt_alq fwq) d q → (∀ m, m < d → ¬ mt_RQ G mkQ (mt_alq fwq) m q) → ∃ w, mt_LxQ G mkQ (mt_alq fwq) d q w ∧ wk_H st fv fw d N ∧ P (wk_D st fv fw d N) ∧ mt_qeq (mt_QN (wk_D st fv fw d N)) (wkQ w q d) ∧ wk_D st fv fw d N 16 0 = N 16 0 + d ∧ wk_D st fv fw d N 18 = N 18 ∧ ∀ i, wk_D st fv fw d N 17 i = if N 16 0 ≤ i ∧ i < N 16 0 + d then w.getD (i - N 16 0) 0 else N 17 i := by
  intro d
  induction d with
  | zero =>
    intro N q hN hq e hR hm
    exact ⟨[], rfl, trivial, hN, e, rfl, rfl, fun i => by rw [if_neg (by omega)]; rfl⟩
  | succ d ih =>
    intro N q hN hq e hR hm
    obtain ⟨a1, a2, a3, a4, a5, a6, a7, a8, a9⟩ := WK_1 H hN hq e hR hm
    obtain ⟨w, b1, b2, b3, b4, b5, b6, b7⟩ := ih _ _ a5 (H.2.2.2.2.1 q _ hq a1 a2) a6 a3 (fun m h1 h2 => hm (m + 1) (by omega) (Or.inr ⟨_, a1, a2, h2⟩))
    refine ⟨wk_T st fv fw (d + 1) N :: w, ⟨_, w, rfl, a1, a2, a3, a4, b1⟩, ⟨a1, b2⟩, b3, ?_, ?_, ?_, fun i => ?_⟩
    · rw [wkQ_cons]; exact b4
    · rw [wk_D, b5, a7]; omega
    · rw [wk_D, b6, a8]
    · rw [wk_D, b7 i, a7, a9 i]
      by_cases c1 : i = N 16 0
      · rw [if_neg (by omega), if_pos c1, if_pos (by omega), c1, Nat.sub_self]; rfl
      · by_cases c2 : N 16 0 + 1 ≤ i ∧ i < N 16 0 + 1 + d
        · rw [if_pos c2, if_pos (by omega), show i - N 16 0 = (i - (N 16 0 + 1)) + 1 by omega]; rfl
        · rw [if_neg c2, if_neg c1, if_neg (by omega)]
theorem WK_R (H : mt_WkC st fwq fv fw P C G) {N : Nat → Nat → Nat} {q : Q4} (hN : P N) (hq : C q) (e : mt_qeq (mt_QN N) q) : ∃ w, mt_RQ G mkQ (mt_alq fwq) (fv N) q ∧ (∀ m, m < fv N → ¬ mt_RQ G mkQ (mt_alq fwq) m q) ∧ mt_LxQ G mkQ (mt_alq fwq) (fv N) q w ∧ wk_H st fv fw (fv N) (mo_up (fw N) 18 st (fv N)) ∧ P (wk_R st fv fw N) ∧ mt_qeq (mt_QN (wk_R st fv fw N)) (wkQ w q (fv N)) ∧ wk_R st fv fw N 16 0 = N 16 0 + fv N ∧ (∀ i, wk_R st fv fw N 18 i = if i = st then fv N else N 18 i) ∧ ∀ i, wk_R st fv fw N 17 i = if N 16 0 ≤ i ∧ i < N 16 0 + fv N then w.getD (i - N 16 0) 0 else N 17 i := by
  have hF := H.2.2.2.2.2.2 N q hN hq e
  have hP1 := (H.1.2.2.1 _ st (fv N) (H.1.1 N hN)).2.2
  have hQ : mt_QN (mo_up (fw N) 18 st (fv N)) = mt_QN N := by rw [← QN_fw H N]; rfl
  have k16 : (mo_up (fw N) 18 st (fv N)) 16 = N 16 := by funext x; rw [mo_up_ne (Or.inl (by decide)), H.2.2.2.2.2.1 N 16 (by omega)]
  have k17 : (mo_up (fw N) 18 st (fv N)) 17 = N 17 := by funext x; rw [mo_up_ne (Or.inl (by decide)), H.2.2.2.2.2.1 N 17 (by omega)]
  obtain ⟨w, b1, b2, b3, b4, b5, b6, b7⟩ := WK_D H (fv N) _ q hP1 hq (by rw [hQ]; exact e) hF.1 hF.2
  rw [k16] at b5 b7
  rw [k17] at b7
  refine ⟨w, hF.1, hF.2, b1, b2, b3, b4, b5, fun i => ?_, b7⟩
  rw [wk_R, b6]
  simp only [mo_up]
  simp only [if_true]
  rw [H.2.2.2.2.2.1 N 18 (by omega)]
end WK
