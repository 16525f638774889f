theorem MT_s {N : Nat → Nat → Nat} (hM : mt_MT N) : (∀ j, j < 144 → N 10 j < 8) ∧ (∀ j, j < 144 → N 11 j < 3) ∧ (∀ j, j < 216 → N 12 j < 12) ∧ ∀ j, j < 216 → N 13 j < 2 := by
  have hq : ∀ t, t < 18 → QB (mkQ t mt_hmQ) := fun t ht => (Lw_mk ht Lw_hm).1
  refine ⟨fun j hj => ?_, fun j hj => ?_, fun j hj => ?_, fun j hj => ?_⟩
  · have e := ((hM (j / 8) (by omega)).1 (j % 8) (by omega)).1
    rw [show 8 * (j / 8) + j % 8 = j by omega] at e
    rw [e]; exact (hq (j / 8) (by omega)).1 (j % 8) (by omega)
  · have e := ((hM (j / 8) (by omega)).1 (j % 8) (by omega)).2
    rw [show 8 * (j / 8) + j % 8 = j by omega] at e
    rw [e]; exact (hq (j / 8) (by omega)).2.1 (j % 8) (by omega)
  · have e := ((hM (j / 12) (by omega)).2 (j % 12) (by omega)).1
    rw [show 12 * (j / 12) + j % 12 = j by omega] at e
    rw [e]; exact (hq (j / 12) (by omega)).2.2.1 (j % 12) (by omega)
  · have e := ((hM (j / 12) (by omega)).2 (j % 12) (by omega)).2
    rw [show 12 * (j / 12) + j % 12 = j by omega] at e
    rw [e]; exact (hq (j / 12) (by omega)).2.2.2 (j % 12) (by omega)
def mt_FrN (N : Nat → Nat → Nat) : Prop := mt_MT N ∧ (∀ k, 20 ≤ k → k ≤ 35 → N k = fun _ => 0) ∧ N 19 0 = 0
def mt_TbN (N : Nat → Nat → Nat) : Prop := mt_MT N ∧ mt_NU N ∧ mt_NH N ∧ mt_KF N ∧ mt_SF N ∧
  (∀ q, mt_Lw q → mt_RQ mt_G0 mkQ (mt_alq 6) (N 20 (mt_fo q.2.2.2 12)) q ∧ ∀ m, m < N 20 (mt_fo q.2.2.2 12) → ¬ mt_RQ mt_G0 mkQ (mt_alq 6) m q) ∧
  (∀ q, mt_C1 q → mt_RQ mt_G1 mkQ (mt_alq 4) (N 21 (mt_s1q q)) q ∧ ∀ m, m < N 21 (mt_s1q q) → ¬ mt_RQ mt_G1 mkQ (mt_alq 4) m q) ∧
  (∀ q, mt_C2 q → mt_RQ mt_G2 mkQ (mt_alq 2) (N 22 (mt_s2q N q)) q ∧ ∀ m, m < N 22 (mt_s2q N q) → ¬ mt_RQ mt_G2 mkQ (mt_alq 2) m q) ∧
  (∀ q, mt_C3 q → mt_RQ mt_G3 mkQ (mt_alq 0) (N 23 (mt_s3q N q)) q ∧ ∀ m, m < N 23 (mt_s3q N q) → ¬ mt_RQ mt_G3 mkQ (mt_alq 0) m q) ∧ N 19 0 = 1
theorem TbN_cg {N N' : Nat → Nat → Nat} (h : mt_TbN N) (e : ∀ k, 10 ≤ k → k ≤ 35 → (k ≤ 13 ∨ 19 ≤ k) → N' k = N k) : mt_TbN N' := by
  obtain ⟨h0, h1, h2, h3, h4, h5, h6, h7, h8, h9⟩ := h
  have e20 := e 20 (by decide) (by decide) (by decide)
  have e21 := e 21 (by decide) (by decide) (by decide)
  have e22 := e 22 (by decide) (by decide) (by decide)
  have e23 := e 23 (by decide) (by decide) (by decide)
  have e24 := e 24 (by decide) (by decide) (by decide)
  have e25 := e 25 (by decide) (by decide) (by decide)
  have e26 := e 26 (by decide) (by decide) (by decide)
  have e27 := e 27 (by decide) (by decide) (by decide)
  have e28 := e 28 (by decide) (by decide) (by decide)
  have e29 := e 29 (by decide) (by decide) (by decide)
  have e30 := e 30 (by decide) (by decide) (by decide)
  have e31 := e 31 (by decide) (by decide) (by decide)
  refine ⟨MT_of h0 (e 10 (by decide) (by decide) (by decide)) (e 11 (by decide) (by decide) (by decide)) (e 12 (by decide) (by decide) (by decide)) (e 13 (by decide) (by decide) (by decide)), ?_, ?_, ?_, ?_, ?_, ?_, ?_, ?_, ?_⟩
  · rw [mt_NU, e24, e25]; exact h1
  · rw [mt_NH, e26, e27]; exact h2
  · rw [mt_KF, e28, e29]; exact h3
  · rw [mt_SF, e30, e31]; exact h4
  · rw [e20]; exact h5
  · rw [e21]; exact h6
  · intro q hq
    have : mt_s2q N' q = mt_s2q N q := by rw [mt_s2q, mt_s2q, e28]
    rw [e22, this]; exact h7 q hq
  · intro q hq
    have : mt_s3q N' q = mt_s3q N q := by rw [mt_s3q, mt_s3q, e30]
    rw [e23, this]; exact h8 q hq
  · rw [e 19 (by decide) (by decide) (by decide)]; exact h9
theorem kinds0_k {a : Nat} (h1 : a ≠ 28) (h2 : a ≠ 30) (h3 : a ≠ 31) (N : Nat → Nat → Nat) : mo_kinds0 N a = N a := by
  funext j
  rw [mo_kinds0, mo_up_ne (Or.inl h3), mo_up_ne (Or.inl h2), fk_k h1 h2]
theorem kinds0_28 (N : Nat → Nat → Nat) {r : Nat} (hr : r < 40320) : mo_kinds0 N 28 r = 4294967295 := by
  rw [mo_kinds0, mo_up_ne (Or.inl (by decide)), mo_up_ne (Or.inl (by decide)), (fk_v N 40320 r hr).2]
theorem kinds_ok {N : Nat → Nat → Nat} (hM : mt_MT N) (h29 : ∀ j, N 29 j < 40320) : (∀ k, k < 96 → k < (mo_sq k (mo_kinds0 N, 1)).2) ∧ (mo_sq 96 (mo_kinds0 N, 1)).2 = 96 ∧ (mo_kinds N).2 ≤ 420 ∧ mt_KF (mo_kinds N).1 ∧ mt_SF (mo_kinds N).1 ∧ ∀ a, a ≠ 9 → a ≠ 28 → a ≠ 29 → a ≠ 30 → a ≠ 31 → a ≠ 36 → a ≠ 37 → (mo_kinds N).1 a = N a := by
  have kk : ∀ a, a ≠ 28 → a ≠ 30 → a ≠ 31 → mo_kinds0 N a = N a := fun a h1 h2 h3 => kinds0_k h1 h2 h3 N
  have hM0 : mt_MT (mo_kinds0 N) := MT_of hM (kk 10 (by decide) (by decide) (by decide)) (kk 11 (by decide) (by decide) (by decide)) (kk 12 (by decide) (by decide) (by decide)) (kk 13 (by decide) (by decide) (by decide))
  have hs := SqI_all hM0 (mt_Sq0 N)
  have h96 := hs 96 (Nat.le_refl _)
  rw [show 6 * 96 = 576 from rfl, cnq_96.1] at h96
  obtain ⟨⟨q1, q2, q3, _⟩, q5⟩ := h96
  have hd : ∀ r, r < 40320 → (mo_sq 96 (mo_kinds0 N, 1)).1 28 r = 4294967295 := fun r hr => by
    rw [q1 28 (by decide) (by decide) (by decide) (by decide)]; exact kinds0_28 N hr
  have hK : mt_KdI (mo_sq 96 (mo_kinds0 N, 1)).1 (mo_sq 96 (mo_kinds0 N, 1)).1 0 0 := by
    refine ⟨fun _ _ _ _ _ _ => rfl, fun i hi => absurd hi (by omega), fun P hP hl => ?_, fun P i _ hi => absurd hi (by omega), fun i j _ hj => absurd hj (by omega), fun r hr => absurd hr (by omega)⟩
    rw [hd _ (mo_rk_lt8 P)] at hl
    exact absurd hl (by decide)
  have hF := KF_of q2 hK (by rw [hd 0 (by decide)]; decide) (fun j => by
    rw [q1 29 (by decide) (by decide) (by decide) (by decide), kk 29 (by decide) (by decide) (by decide)]; exact h29 j)
  have hA := (KdI_all q2 hK 40320 (Nat.le_refl _)).1
  refine ⟨fun k hk => ?_, q5, hF.2, hF.1, fun k hk => ⟨?_, ?_⟩, fun a a9 a28 a29 a30 a31 a36 a37 => ?_⟩
  · rw [(hs k (by omega)).2]; exact cnq_k k hk
  · rw [mo_kinds, hA 31 (by decide) (by decide) (by decide) (by decide) (by decide)]; exact q2 k hk
  · rw [mo_kinds, hA 30 (by decide) (by decide) (by decide) (by decide) (by decide)]; exact q3 k hk
  · rw [mo_kinds, hA a a9 a28 a29 a36 a37, q1 a a30 a31 a36 a37, kk a a28 a30 a31]
theorem num_NU {N : Nat → Nat → Nat} (h24 : N 24 = fun _ => 0) (h25 : N 25 = fun _ => 0) : mt_NU (mo_num 26 27 256 (mo_num 24 25 4096 N)) := by
  rw [mt_NU, num_k (A := 26) (B := 27) (k := 24) (by decide) (by decide), num_k (A := 26) (B := 27) (k := 25) (by decide) (by decide)]
  refine ⟨fun m hm h4 => ⟨num_A (by decide) N 4096 m hm h4, num_B (by decide) N 4096 m hm h4⟩, num_A_lt (by decide) N (fun j => by rw [h24]; exact (by decide : 0 < 495)) 4096 (by rw [cnt_4096]; decide), num_B_lt (by decide) N (fun j => by rw [h25]; exact (by decide : 0 < 4096)) 4096 (Nat.le_refl _)⟩
theorem num_NH {N : Nat → Nat → Nat} (h26 : N 26 = fun _ => 0) (h27 : N 27 = fun _ => 0) : mt_NH (mo_num 26 27 256 (mo_num 24 25 4096 N)) := by
  refine ⟨fun m hm h4 => ⟨num_A (by decide) _ 256 m hm h4, num_B (by decide) _ 256 m hm h4⟩, num_A_lt (by decide) _ (fun j => by rw [num_k (by decide) (by decide), h26]; exact (by decide : 0 < 70)) 256 (by rw [cnt_256]; decide), num_B_lt (by decide) _ (fun j => by rw [num_k (by decide) (by decide), h27]; exact (by decide : 0 < 256)) 256 (Nat.le_refl _)⟩
