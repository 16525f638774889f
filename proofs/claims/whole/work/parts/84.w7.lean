theorem make_ex {N : Nat → Nat → Nat} (hF : mt_FrN N) : ∃ M, mt_TbN M ∧ (∀ k, k ≤ 18 → k ≠ 9 → M k = N k) ∧ ∀ (l : Launch) (D : va_G) (cI mt_cB cS cJ cF cG : ClassId) (zz : (Nat → Prop) → State → Heap → Prop) (_ : gw_zT zz) (o : Nat) (ad : Nat → Nat), gw_CV l yX11_make wsX11_make 3 76 0 0 D (mo_ty cI mt_cB cS cJ cF cG) zz (mo_ws o ad cI mt_cB cS N) [.ref o] (fun N' => N' = M) (fun N' => mo_ws o ad cI mt_cB cS N') := by
  obtain ⟨hM, hz0, h19⟩ := hF
  generalize e0 : mo_up N 19 0 1 = M0
  have k0 : ∀ k, k ≠ 19 → M0 k = N k := fun k hk => by rw [← e0]; funext j; exact mo_up_ne (Or.inl hk)
  have hM0 : mt_MT M0 := MT_of hM (k0 10 (by decide)) (k0 11 (by decide)) (k0 12 (by decide)) (k0 13 (by decide))
  obtain ⟨E1, a1, a2, a3, a4⟩ := near1_d hM0
  generalize e1 : mo_a M0 20 (mo_near1 M0 E1).1 = M1
  have k1 : ∀ k, k ≠ 20 → M1 k = M0 k := fun k hk => by rw [← e1, mo_a_ne hk]
  have v1 : M1 20 = (mo_near1 M0 E1).1 := by rw [← e1, mo_a_eq]
  generalize e2 : mo_num 26 27 256 (mo_num 24 25 4096 M1) = M2
  have k2 : ∀ k, k ≠ 24 → k ≠ 25 → k ≠ 26 → k ≠ 27 → M2 k = M1 k := fun k q1 q2 q3 q4 => by rw [← e2, num_k q3 q4, num_k q1 q2]
  have u2 : mt_NU M2 := by rw [← e2]; exact num_NU (by rw [k1 24 (by decide), k0 24 (by decide), hz0 24 (by decide) (by decide)]) (by rw [k1 25 (by decide), k0 25 (by decide), hz0 25 (by decide) (by decide)])
  have w2 : mt_NH M2 := by rw [← e2]; exact num_NH (by rw [k1 26 (by decide), k0 26 (by decide), hz0 26 (by decide) (by decide)]) (by rw [k1 27 (by decide), k0 27 (by decide), hz0 27 (by decide) (by decide)])
  have z2 : ∀ k, k ≠ 19 → k ≠ 20 → k ≠ 24 → k ≠ 25 → k ≠ 26 → k ≠ 27 → M2 k = N k := fun k q1 q2 q3 q4 q5 q6 => by rw [k2 k q3 q4 q5 q6, k1 k q2, k0 k q1]
  have hM2 : mt_MT M2 := MT_of hM (z2 10 (by decide) (by decide) (by decide) (by decide) (by decide) (by decide)) (z2 11 (by decide) (by decide) (by decide) (by decide) (by decide) (by decide)) (z2 12 (by decide) (by decide) (by decide) (by decide) (by decide) (by decide)) (z2 13 (by decide) (by decide) (by decide) (by decide) (by decide) (by decide))
  obtain ⟨E2, b1, b2, b3, b4⟩ := near2_d hM2 u2
  generalize e3 : mo_a (mo_tabB M2) 21 (mo_near2 M2 E2).1 = M3
  have k3 : ∀ k, k ≠ 21 → k ≠ 32 → k ≠ 33 → k ≠ 36 → M3 k = M2 k := fun k q1 q2 q3 q4 => by rw [← e3, mo_a_ne q1, mo_tabB, mo_m2_k q3, mo_m1_k q2 q4]
  have v3 : M3 21 = (mo_near2 M2 E2).1 := by rw [← e3, mo_a_eq]
  have hM3 : mt_MT M3 := MT_of hM2 (k3 10 (by decide) (by decide) (by decide) (by decide)) (k3 11 (by decide) (by decide) (by decide) (by decide)) (k3 12 (by decide) (by decide) (by decide) (by decide)) (k3 13 (by decide) (by decide) (by decide) (by decide))
  have z3 : ∀ k, 28 ≤ k → k ≤ 31 → M3 k = fun _ => 0 := fun k q1 q2 => by rw [k3 k (by omega) (by omega) (by omega) (by omega), z2 k (by omega) (by omega) (by omega) (by omega) (by omega) (by omega), hz0 k (by omega) (by omega)]
  obtain ⟨c1, c2, c3, c4, c5, c6⟩ := kinds_ok hM3 (fun j => by rw [z3 29 (by decide) (by decide)]; exact (by decide : 0 < 40320))
  generalize e4 : (mo_kinds M3).1 = M4 at c4 c5 c6
  have hM4 : mt_MT M4 := MT_of hM3 (c6 10 (by decide) (by decide) (by decide) (by decide) (by decide) (by decide) (by decide)) (c6 11 (by decide) (by decide) (by decide) (by decide) (by decide) (by decide) (by decide)) (c6 12 (by decide) (by decide) (by decide) (by decide) (by decide) (by decide) (by decide)) (c6 13 (by decide) (by decide) (by decide) (by decide) (by decide) (by decide) (by decide))
  have j4 : ∀ k, k ≠ 9 → (k ≤ 27 ∨ 32 ≤ k) → k ≠ 36 → k ≠ 37 → M4 k = M3 k := fun k q1 q2 q3 q4 => c6 k q1 (by omega) (by omega) (by omega) (by omega) q3 q4
  have n26 : M4 26 = M2 26 := by rw [j4 26 (by decide) (by decide) (by decide) (by decide), k3 26 (by decide) (by decide) (by decide) (by decide)]
  have n27 : M4 27 = M2 27 := by rw [j4 27 (by decide) (by decide) (by decide) (by decide), k3 27 (by decide) (by decide) (by decide) (by decide)]
  have w4 : mt_NH M4 := by rw [mt_NH, n26, n27]; exact w2
  obtain ⟨E3, mt_d1, mt_d2, d3, d4⟩ := near3_d hM4 c4 w4
  generalize e5 : mo_a (mo_m3 420 M4) 22 (mo_near3 M4 E3).1 = M5
  have k5 : ∀ k, k ≠ 22 → k ≠ 34 → k ≠ 36 → k ≠ 37 → M5 k = M4 k := fun k q1 q2 q3 q4 => by rw [← e5, mo_a_ne q1, mo_m3_k q2 q3 q4]
  have v5 : M5 22 = (mo_near3 M4 E3).1 := by rw [← e5, mo_a_eq]
  have hM5 : mt_MT M5 := MT_of hM4 (k5 10 (by decide) (by decide) (by decide) (by decide)) (k5 11 (by decide) (by decide) (by decide) (by decide)) (k5 12 (by decide) (by decide) (by decide) (by decide)) (k5 13 (by decide) (by decide) (by decide) (by decide))
  have s5 : mt_SF M5 := by rw [mt_SF, k5 31 (by decide) (by decide) (by decide) (by decide), k5 30 (by decide) (by decide) (by decide) (by decide)]; exact c5
  obtain ⟨E4, f1, f2, f3, f4⟩ := near4_d hM5 s5
  generalize e6 : mo_a (mo_tabD M5) 23 (mo_near4 M5 E4).1 = M6
  have k6 : ∀ k, k ≠ 23 → k ≠ 35 → k ≠ 36 → k ≠ 37 → M6 k = M5 k := fun k q1 q2 q3 q4 => by rw [← e6, mo_a_ne q1, mo_tabD, mo_g4_k q2 q3 q4, mo_f4s_k q2 q3 q4]
  have v6 : M6 23 = (mo_near4 M5 E4).1 := by rw [← e6, mo_a_eq]
  have t6 : ∀ k, k ≤ 22 → k ≠ 9 → k ≠ 22 → k ≠ 21 → M6 k = M2 k := fun k q1 q2 q3 q4 => by
    rw [k6 k (by omega) (by omega) (by omega) (by omega), k5 k (by omega) (by omega) (by omega) (by omega), j4 k q2 (by omega) (by omega) (by omega), k3 k (by omega) (by omega) (by omega) (by omega)]
  have t20 : M6 20 = (mo_near1 M0 E1).1 := by rw [t6 20 (by decide) (by decide) (by decide) (by decide), k2 20 (by decide) (by decide) (by decide) (by decide), v1]
  have t21 : M6 21 = (mo_near2 M2 E2).1 := by rw [k6 21 (by decide) (by decide) (by decide) (by decide), k5 21 (by decide) (by decide) (by decide) (by decide), j4 21 (by decide) (by decide) (by decide) (by decide), v3]
  have t22 : M6 22 = (mo_near3 M4 E3).1 := by rw [k6 22 (by decide) (by decide) (by decide) (by decide), v5]
  have t28 : M6 28 = M4 28 := by rw [k6 28 (by decide) (by decide) (by decide) (by decide), k5 28 (by decide) (by decide) (by decide) (by decide)]
  have t29 : M6 29 = M4 29 := by rw [k6 29 (by decide) (by decide) (by decide) (by decide), k5 29 (by decide) (by decide) (by decide) (by decide)]
  have t30 : M6 30 = M5 30 := k6 30 (by decide) (by decide) (by decide) (by decide)
  have t31 : M6 31 = M5 31 := k6 31 (by decide) (by decide) (by decide) (by decide)
  have t2 : ∀ k, 24 ≤ k → k ≤ 27 → M6 k = M2 k := fun k q1 q2 => by
    rw [k6 k (by omega) (by omega) (by omega) (by omega), k5 k (by omega) (by omega) (by omega) (by omega), j4 k (by omega) (by omega) (by omega) (by omega), k3 k (by omega) (by omega) (by omega) (by omega)]
  refine ⟨M6, ⟨?_, ?_, ?_, ?_, ?_, ?_, ?_, ?_, ?_, ?_⟩, ?_, ?_⟩
  · exact MT_of hM5 (k6 10 (by decide) (by decide) (by decide) (by decide)) (k6 11 (by decide) (by decide) (by decide) (by decide)) (k6 12 (by decide) (by decide) (by decide) (by decide)) (k6 13 (by decide) (by decide) (by decide) (by decide))
  · rw [mt_NU, t2 24 (by decide) (by decide), t2 25 (by decide) (by decide)]; exact u2
  · rw [mt_NH, t2 26 (by decide) (by decide), t2 27 (by decide) (by decide)]; exact w2
  · rw [mt_KF, t28, t29]; exact c4
  · rw [mt_SF, t30, t31]; exact s5
  · rw [t20]; exact a4
  · rw [t21]; exact b4
  · intro q hq
    have : mt_s2q M6 q = mt_s2q M4 q := by rw [mt_s2q, mt_s2q, t28]
    rw [t22, this]; exact d4 q hq
  · intro q hq
    have : mt_s3q M6 q = mt_s3q M5 q := by rw [mt_s3q, mt_s3q, t30]
    rw [v6, this]; exact f4 q hq
  · rw [t6 19 (by decide) (by decide) (by decide) (by decide), k2 19 (by decide) (by decide) (by decide) (by decide), k1 19 (by decide), ← e0]
    simp [mo_up]
  · intro k hk hk9
    rw [t6 k (by omega) hk9 (by omega) (by omega), z2 k (by omega) (by omega) (by omega) (by omega) (by omega) (by omega)]
  · intro l D cI mt_cB cS cJ cF cG zz hz o ad
    have m0 := MT_s hM0
    have m2 := MT_s hM2
    have m3 := MT_s hM3
    have m4 := MT_s hM4
    have m5 := MT_s hM5
    refine c_make l D cI mt_cB cS cJ cF cG zz hz o ad N M1 M2 M3 M4 M5 M6 h19 ?_ ?_ ?_ ?_ ?_ ?_
    · rw [e0, ← e1]
      exact c_makeFirst l D cI mt_cB cS cJ cF cG zz hz o ad M0 (fun j => by rw [k0 20 (by decide), hz0 20 (by decide) (by decide)]; exact (by decide : 0 ≤ 100)) m0.2.2.1 m0.2.2.2 E1 a1 a2 a3
    · rw [← e2]
      exact c_makeNumbers l D cI mt_cB cS cJ cF cG zz hz o ad M1 (Nat.le_of_eq cnt_4096) (Nat.le_of_eq cnt_256)
    · rw [← e3]
      exact c_makeSecond l D cI mt_cB cS cJ cF cG zz hz o ad M2 (fun j => by rw [z2 21 (by decide) (by decide) (by decide) (by decide) (by decide) (by decide), hz0 21 (by decide) (by decide)]; exact (by decide : 0 ≤ 100)) m2.1 m2.2.1 m2.2.2.1 (fun j _ => u2.2.2 j) (Nat.lt_of_lt_of_le (u2.2.1 3840) (by decide)) (fun k t hk ht => nxB_lt u2 hk ht) E2 b1 b2 b3
    · rw [← e4]
      exact c_makeKinds l D cI mt_cB cS cJ cF cG zz hz o ad M3 m3.1 (fun j _ => by rw [z3 31 (by decide) (by decide)]; exact (by decide : 0 < 2 ^ 31)) c1 c2 c3
    · rw [← e5]
      exact c_makeThird l D cI mt_cB cS cJ cF cG zz hz o ad M4 (fun j => by rw [j4 22 (by decide) (by decide) (by decide) (by decide), k3 22 (by decide) (by decide) (by decide) (by decide), z2 22 (by decide) (by decide) (by decide) (by decide) (by decide) (by decide), hz0 22 (by decide) (by decide)]; exact (by decide : 0 ≤ 100)) m4.1 m4.2.2.1 (fun j hj => Nat.lt_of_lt_of_le (c4.1 j hj) (by decide)) (Nat.lt_of_lt_of_le (w4.2.1 15) (by decide)) (fun j _ => w4.2.2 j) (fun k t hk ht _ => nxC_lt hM4 c4 w4 hk ht) E3 mt_d1 mt_d2 d3
    · rw [← e6]
      exact c_makeFourth l D cI mt_cB cS cJ cF cG zz hz o ad M5 (fun j => by rw [k5 23 (by decide) (by decide) (by decide) (by decide), j4 23 (by decide) (by decide) (by decide) (by decide), k3 23 (by decide) (by decide) (by decide) (by decide), z2 23 (by decide) (by decide) (by decide) (by decide) (by decide) (by decide), hz0 23 (by decide) (by decide)]; exact (by decide : 0 ≤ 100)) m5.1 (fun fc sl p hfc hsl hp => by
        have e := ((hM5 (3 * fc + 1) (by omega)).2 (4 * sl + p) (by omega)).1
        rw [show (3 * fc + 1) / 3 = fc by omega, show (3 * fc + 1) % 3 + 1 = 2 by omega, ← Nat.add_assoc] at e
        have hb := mt_eb fc hfc (4 * sl + p) (by omega)
        rw [e]; omega) (fun j hj => by rw [(s5 j hj).1]; exact Nat.lt_of_lt_of_le (mo_rk_lt8 _) (by decide)) (fun k t hk ht => nxD_lt hM5 s5 hk ht) E4 f1 f2 f3
