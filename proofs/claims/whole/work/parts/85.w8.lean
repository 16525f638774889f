def mt_PkC (C : Q4 → Prop) (M : Nat → Nat → Nat) : Prop := mt_TbN M ∧ ∃ q, C q ∧ mt_qeq (mt_QN M) q
theorem WkC_of {st fwq : Nat} {fv : (Nat → Nat → Nat) → Nat} {fw : (Nat → Nat → Nat) → Nat → Nat → Nat} {C G : Q4 → Prop} (hm : ∀ t, t < 18 → (mo_may st t ≠ 0 ↔ mt_alq fwq t)) (hfw : ∀ M k, k ≠ 36 → fw M k = M k) (hC : ∀ a, C a → QB a) (hmk : ∀ a t, C a → t < 18 → mt_alq fwq t → C (mkQ t a)) (hdi : ∀ M q, mt_TbN M → C q → mt_qeq (mt_QN M) q → mt_RQ G mkQ (mt_alq fwq) (fv M) q ∧ ∀ m, m < fv M → ¬ mt_RQ G mkQ (mt_alq fwq) m q) (hd : ∀ q, C q → mt_RQ G mkQ (mt_alq fwq) 15 q) : mt_WkC st fwq fv fw (mt_PkC C) C G := by
  refine ⟨⟨fun M hP => ?_, fun M t hP ht ha => ?_, fun M i v hP => ?_, fun M hP => ?_, fun M hP => ?_, fun M => hfw M 16 (by decide)⟩, hm, fun M hP => hP.1.1, hC, hmk, fun M k hk => hfw M k (by omega), fun M q hP hq e => hdi M q hP.1 hq e⟩
  · obtain ⟨hT, q, hq, e⟩ := hP
    have hQ : mt_QN (fw M) = mt_QN M := by rw [mt_QN, mt_QN, hfw M 4 (by decide), hfw M 5 (by decide), hfw M 6 (by decide), hfw M 7 (by decide)]
    exact ⟨TbN_cg hT (fun k _ h2 _ => hfw M k (by omega)), q, hq, by rw [hQ]; exact e⟩
  · obtain ⟨hT, q, hq, e⟩ := hP
    exact ⟨TbN_cg hT (fun k h1 _ _ => mo_turn_k (by omega) (by omega) (by omega) (by omega) (by omega) (by omega) t M), mkQ t q, hmk q t hq ht ((hm t ht).mp ha), qeq_trans (QN_turn hT.1 ht (qeq_QB e (hC q hq))) (qeq_mk e t)⟩
  · obtain ⟨hT, q, hq, e⟩ := hP
    refine ⟨⟨TbN_cg hT (fun k h1 h2 h3 => ?_), q, hq, e⟩, ⟨TbN_cg hT (fun k h1 h2 h3 => ?_), q, hq, e⟩, ⟨TbN_cg hT (fun k h1 h2 h3 => ?_), q, hq, e⟩⟩
    · funext j; exact mo_up_ne (Or.inl (by omega))
    · funext j; exact mo_up_ne (Or.inl (by omega))
    · funext j; exact mo_up_ne (Or.inl (by omega))
  · obtain ⟨hT, q, hq, e⟩ := hP
    have hs := MT_s hT.1
    exact ⟨(qeq_QB e (hC q hq)).2.1, hs.1, hs.2.1, hs.2.2.1⟩
  · obtain ⟨hT, q, hq, e⟩ := hP
    have h1 := hdi M q hT hq e
    by_cases c : fv M ≤ 100
    · exact c
    · exact absurd (hd q hq) (h1.2 15 (by omega))
theorem i7_cg {F F' : Nat → Nat} {p : Nat} (h : F p = F' p) : mt_i7 F p = mt_i7 F' p := by rw [mt_i7, mt_i7, h]
theorem i4_cg {F F' : Nat → Nat} {p : Nat} (h : F p = F' p) : mt_i4 F p = mt_i4 F' p := by rw [mt_i4, mt_i4, h]
theorem far0_v {M : Nat → Nat → Nat} {q : Q4} (e : mt_qeq (mt_QN M) q) : mo_far0 M = M 20 (mt_fo q.2.2.2 12) := by
  rw [mo_far0, f0_fo, fo_cg 12 (fun p hp => (show M 7 p = q.2.2.2 p from (e.2 p hp).2))]
theorem far1_v {M : Nat → Nat → Nat} (hT : mt_TbN M) {q : Q4} (h : mt_Lw q) (e : mt_qeq (mt_QN M) q) : mo_far1 M = M 21 (mt_s1q q) := by
  have e1 : mt_fo (mt_i7 (M 6)) 12 = mt_mk7 q := fo_cg 12 (fun p hp => i7_cg (show M 6 p = q.2.2.1 p from (e.2 p hp).1))
  rw [mo_far1, f1s_fsn, f1m_fo, e1, (hT.2.1.1 (mt_mk7 q) (mk7_lt q) (mk7_on h)).1, mt_s1q, fsn_cg (fun j hj => (show M 5 j = q.2.1 j from (e.1 j (by omega)).2))]
theorem rc_rk {M : Nat → Nat → Nat} {q : Q4} (e : mt_qeq (mt_QN M) q) : mo_rk (mo_rc 8 M 36) 8 8 = mo_rk q.1 8 8 :=
  rk_cg (fun j hj => by rw [mo_rc_v M 8 j hj]; exact (e.1 j hj).1) 8 (Nat.le_refl _)
theorem far2_v {M : Nat → Nat → Nat} (hT : mt_TbN M) {q : Q4} (h : mt_C2 q) (e : mt_qeq (mt_QN M) q) : mo_far2 M = M 22 (mt_s2q M q) := by
  have e1 : mt_fo (mt_i4 (M 6)) 8 = mt_mk4 q := fo_cg 8 (fun p hp => i4_cg (show M 6 p = q.2.2.1 p from (e.2 p (by omega)).1))
  rw [mo_far2, rc_rk e, f2m_fo, e1, (hT.2.2.1.1 (mt_mk4 q) (mk4_lt q) (mk4_on h)).1, mt_s2q]
theorem f3_v {M : Nat → Nat → Nat} {q : Q4} (e : mt_qeq (mt_QN M) q) (k0 : Nat) {b : Nat} (hb : b < 3) : mo_rk (mo_fr b 4 (mo_f3 (mo_rc 8 M) k0 b).1 36) 4 4 = mt_rd4 b q := by
  refine rk_cg (fun j hj => ?_) 4 (Nat.le_refl _)
  rw [mo_fr_v b _ 4 j hj, mo_f3_k (by decide), mo_rc_k (by decide), mt_blk]
  rw [show M 6 (4 * b + j) = q.2.2.1 (4 * b + j) from (e.2 (4 * b + j) (by omega)).1]
theorem far3_v {M : Nat → Nat → Nat} {q : Q4} (e : mt_qeq (mt_QN M) q) : mo_far3 M = M 23 (mt_s3q M q) := by
  have h0 := f3_v e (M 30 (mo_rk q.1 8 8)) (show 0 < 3 by decide)
  have h1 := f3_v e (M 30 (mo_rk q.1 8 8)) (show 1 < 3 by decide)
  have h2 := f3_v e (M 30 (mo_rk q.1 8 8)) (show 2 < 3 by decide)
  have e2 : (mo_far3W M).2 = mt_s3q M q := by
    rw [mo_far3W, rc_rk e, mo_f3, h2, mo_f3, h1, mo_f3, h0, mo_f3, mt_s3q]
    dsimp only
    omega
  rw [mo_far3, e2]
theorem may0 {t : Nat} (ht : t < 18) : mo_may 0 t ≠ 0 ↔ mt_alq 6 t := ⟨fun _ => Or.inl (by omega), fun _ => by rw [mo_may, if_pos (Or.inl rfl)]; decide⟩
theorem may3 {t : Nat} : mo_may 3 t ≠ 0 ↔ mt_alq 0 t := by
  rw [mo_may, mt_alq]
  by_cases c : t % 3 = 1
  · rw [if_pos (Or.inr (Or.inl c))]; exact ⟨fun _ => Or.inr c, fun _ => by decide⟩
  · rw [if_neg (by omega)]; exact ⟨fun w => absurd rfl w, fun w => by omega⟩
theorem far3_k (M : Nat → Nat → Nat) (k : Nat) (h : k ≠ 36) : (mo_far3W M).1 k = M k := by rw [mo_far3W, mo_f3_k h, mo_rc_k h]
theorem WkC0 : mt_WkC 0 6 mo_far0 (fun M => M) (mt_PkC mt_Lw) mt_Lw mt_G0 := WkC_of (fun t ht => may0 ht) (fun _ _ _ => rfl) (fun a h => h.1) (fun a t h ht _ => Lw_mk ht h) (fun M q hT h e => by rw [far0_v e]; exact hT.2.2.2.2.2.1 q h) (fun q h => mt_dm0 h)
theorem WkC1 : mt_WkC 1 4 mo_far1 (fun M => M) (mt_PkC mt_C1) mt_C1 mt_G1 := WkC_of (fun t _ => may1) (fun _ _ _ => rfl) (fun a h => h.1.1) C1_mk (fun M q hT h e => by rw [far1_v hT h.1 e]; exact hT.2.2.2.2.2.2.1 q h) (fun q h => mt_dm1 h)
theorem WkC2 : mt_WkC 2 2 mo_far2 (mo_rc 8) (mt_PkC mt_C2) mt_C2 mt_G2 := WkC_of (fun t _ => may2) (fun M k hk => mo_rc_k hk M 8) (fun a h => h.1.1.1) (pw_al C2_pw) (fun M q hT h e => by rw [far2_v hT h e]; exact hT.2.2.2.2.2.2.2.1 q h) (fun q h => mt_dm2 h)
theorem WkC3 : mt_WkC 3 0 mo_far3 (fun M => (mo_far3W M).1) (mt_PkC mt_C3) mt_C3 mt_G3 := WkC_of (fun t _ => may3) far3_k (fun a h => h.1.1.1.1) C3_mk (fun M q hT h e => by rw [far3_v e]; exact hT.2.2.2.2.2.2.2.2.1 q h) (fun q h => mt_dm3 h)
