def mt_blk (b : Nat) (q : Q4) : Nat → Nat := fun p => q.2.2.1 (4 * b + p) - 4 * b
theorem blk_v {q : Q4} (h : mt_C3 q) {b : Nat} (hb : b < 3) {i : Nat} (hi : i < 4) : mt_blk b q i < 4 ∧ q.2.2.1 (4 * b + i) = 4 * b + mt_blk b q i := by
  have := mt_f2s h b hb i hi
  unfold mt_blk
  omega
theorem blk_prm {q : Q4} (h : mt_C3 q) {b : Nat} (hb : b < 3) : prm4 (mt_blk b q) := by
  have hl : ∀ j, j < 4 → mt_blk b q j < 4 := fun j hj => (blk_v h hb hj).1
  refine ⟨hl, inj_surj hl (fun i j hij hj e => ?_)⟩
  have inj := surj_inj h.1.1.1.2.2.1
  have := inj (4 * b + i) (4 * b + j) (by omega) (by omega) (by rw [(blk_v h hb (by omega)).2, (blk_v h hb hj).2, e])
  omega
def mt_rd4 (b : Nat) (q : Q4) : Nat := mo_rk (mt_blk b q) 4 4
theorem rd4_lt (b : Nat) (q : Q4) : mt_rd4 b q < 24 := mo_rk_lt4 _
theorem rd4_un {q : Q4} (h : mt_C3 q) {b : Nat} (hb : b < 3) : ∀ j, j < 4 → unq4 (mt_rd4 b q) j = mt_blk b q j := unr_rk (by decide) (blk_prm h hb).1 (blk_prm h hb).2 _
theorem C3_mk : ∀ a t, mt_C3 a → t < 18 → mt_alq 0 t → mt_C3 (mkQ t a) := pw_al C3_pw
theorem mk31 (f : Nat) (q : Q4) : mkQ (3 * f + 1) q = (mk_cp f q.1 2, mk_co f q.2.1 2, mk_ep f q.2.2.1 2, mk_eo f q.2.2.2 2) := by
  rw [mkQ, show (3 * f + 1) / 3 = f by omega, show (3 * f + 1) % 3 + 1 = 2 by omega]
theorem rd4_mk {q : Q4} (h : mt_C3 q) {b f : Nat} (hb : b < 3) (hf : f < 6) : mt_rd4 b (mkQ (3 * f + 1) q) = mt_V4 b (mt_rd4 b q) f := by
  refine rk_cg (fun j hj => ?_) 4 (Nat.le_refl _)
  have he := mt_eb f hf (4 * b + j) (by omega)
  rw [rd4_un h hb _ (by omega), mk31]
  show mk_ep f q.2.2.1 2 (4 * b + j) - 4 * b = q.2.2.1 (4 * b + (mk_ep f (fun j => j) 2 (4 * b + j) - 4 * b)) - 4 * b
  rw [mk_ep_nat f q.2.2.1, show 4 * b + (mk_ep f (fun j => j) 2 (4 * b + j) - 4 * b) = mk_ep f (fun j => j) 2 (4 * b + j) by omega]
theorem mt_sqk {N : Nat → Nat → Nat} (hS : mt_SF N) {q : Q4} (h : mt_C3 q) : ∃ k, k < 96 ∧ (∀ j, j < 8 → q.1 j = mt_psq k j) ∧ N 30 (mo_rk q.1 8 8) = k := by
  obtain ⟨k, hk, e⟩ := rel_sq (P := fun j => j) ⟨fun _ h => h, fun v hv => ⟨v, hv, rfl⟩⟩ (q_prm h.1.1.1) (mt_f2r h)
  refine ⟨k, hk, e, ?_⟩
  rw [show mo_rk q.1 8 8 = mt_SQL k from rk_cg e 8 (Nat.le_refl _)]
  exact (hS k hk).2
def mt_s3q (N : Nat → Nat → Nat) (q : Q4) : Nat := ((N 30 (mo_rk q.1 8 8) * 24 + mt_rd4 0 q) * 24 + mt_rd4 1 q) * 24 + mt_rd4 2 q
theorem s3_mk {N : Nat → Nat → Nat} (hM : mt_MT N) (hS : mt_SF N) {q : Q4} (h : mt_C3 q) {f : Nat} (hf : f < 6) : mt_s3q N (mkQ (3 * f + 1) q) = mo_nxD (mo_tabD N) (mt_s3q N q) f := by
  obtain ⟨k, hk, ek, ek2⟩ := mt_sqk hS h
  have l0 := rd4_lt 0 q
  have l1 := rd4_lt 1 q
  have l2 := rd4_lt 2 q
  have mt_d0 : mt_s3q N q / 13824 = k := by rw [mt_s3q, ek2]; omega
  have mt_d1 : mt_s3q N q / 576 % 24 = mt_rd4 0 q := by rw [mt_s3q, ek2]; omega
  have mt_d2 : mt_s3q N q / 24 % 24 = mt_rd4 1 q := by rw [mt_s3q, ek2]; omega
  have d3 : mt_s3q N q % 24 = mt_rd4 2 q := by rw [mt_s3q, ek2]; omega
  have t1 := tabD_r hM (sl := 0) (by decide) l0 hf
  have t2 := tabD_r hM (sl := 1) (by decide) l1 hf
  have t3 := tabD_r hM (sl := 2) (by decide) l2 hf
  rw [show 24 * 0 + mt_rd4 0 q = mt_rd4 0 q by omega] at t1
  rw [show 24 * 1 + mt_rd4 1 q = 24 + mt_rd4 1 q by omega] at t2
  rw [show 24 * 2 + mt_rd4 2 q = 48 + mt_rd4 2 q by omega] at t3
  have hq := (qck_s hk).2.2.2.2 f hf
  have e30 : N 30 (mo_rk (mkQ (3 * f + 1) q).1 8 8) = mt_idq k f := by
    have : mo_rk (mkQ (3 * f + 1) q).1 8 8 = mt_SQL (mt_idq k f) := by
      refine rk_cg (fun j hj => ?_) 8 (Nat.le_refl _)
      rw [mk31]
      show mk_cp f q.1 2 j = _
      rw [mk_cp_cg f ek 2 j hj]
      exact hq.2 j hj
    rw [this]
    exact (hS _ hq.1).2
  rw [mo_nxD, mt_d0, mt_d1, mt_d2, d3, tabD_k hM hS hk hf, t1, t2, t3, mt_s3q, e30, rd4_mk h (by decide) hf, rd4_mk h (by decide) hf, rd4_mk h (by decide) hf]
theorem rk4_id : mo_rk (fun j => j) 4 4 = 0 := by decide +kernel
theorem sh0C : ∀ j, j < 8 → mt_shC 0 (fun _ => 0) (fun _ => 0) j = j := by decide +kernel
theorem roC_id : mt_roC (fun j => j) = 0 := by decide +kernel
theorem mt_to0 : ∀ i, i < 4 → cu_to 0 (fun _ => 0) i = i := by decide
theorem roE_id : ∀ b, b < 3 → mt_roE b (fun j => j) = 0 := by decide +kernel
theorem rd4_0 {q : Q4} (h : mt_C3 q) {b : Nat} (hb : b < 3) : mt_rd4 b q = 0 ↔ mt_roE b q.2.2.1 = 0 := by
  constructor
  · intro w
    have h1 := rd4_un h hb
    have h2 := unr_rk (f := fun j => j) (n := 4) (by decide) (fun _ h => h) (fun v hv => ⟨v, hv, rfl⟩) (fun _ _ => 0)
    rw [rk4_id] at h2
    rw [w] at h1
    rw [← roE_id b hb]
    refine roE_cg (fun i hi => ?_)
    have e1 := h1 i hi
    have e2 : unq4 0 i = i := h2 i hi
    have e3 := (blk_v h hb hi).2
    rw [e3, ← e1, e2]
  · intro w
    have hs := shE_ro hb h.1.1.1.1.2.2.1 h.1.1.1.2.2.1 (mt_f2s h b hb)
    rw [mt_rd4, ← rk4_id]
    refine rk_cg (fun j hj => ?_) 4 (Nat.le_refl _)
    have e1 := hs.2 j hj
    rw [or_v _ _ _ j hj, w, mt_to0 j hj] at e1
    show q.2.2.1 (4 * b + j) - 4 * b = j
    omega
theorem G3_s {N : Nat → Nat → Nat} (hS : mt_SF N) {q : Q4} (h : mt_C3 q) : mt_s3q N q = 0 ↔ mt_G3 q := by
  obtain ⟨k, hk, ek, ek2⟩ := mt_sqk hS h
  have e1 : mt_s3q N q = 0 ↔ k = 0 ∧ mt_rd4 0 q = 0 ∧ mt_rd4 1 q = 0 ∧ mt_rd4 2 q = 0 := by rw [mt_s3q, ek2]; omega
  have e2 : k = 0 ↔ mt_roC q.1 = 0 := by
    constructor
    · intro w
      subst w
      rw [← roC_id]
      exact roC_cg (fun j hj => by rw [ek j hj, psq_0 j hj])
    · intro w
      have hs := (shC_ro (q_prm h.1.1.1).1 (q_prm h.1.1.1).2 (mt_f2r h)).2
      rw [w] at hs
      exact psq_inj hk (by decide) (fun j hj => by rw [← ek j hj, psq_0 j hj, ← hs j hj, sh0C j hj])
  rw [e1, e2, rd4_0 h (by decide), rd4_0 h (by decide), rd4_0 h (by decide)]
  have e4 : mt_G3 q ↔ ∀ i, i < 4 → mt_x3 q i = 0 := sv_0 (sz := sz3) (y := mt_x3 q) 4 sz3_pos
  rw [e4]
  constructor
  · rintro ⟨w0, w1, w2, w3⟩ i hi
    match i, hi with
    | 0, _ => exact w0
    | 1, _ => exact w1
    | 2, _ => exact w2
    | 3, _ => exact w3
  · intro w
    exact ⟨w 0 (by decide), w 1 (by decide), w 2 (by decide), w 3 (by decide)⟩
theorem C3_hm : mt_C3 mt_hmQ := ⟨C2_hm, by decide +kernel⟩
theorem s3_lt {N : Nat → Nat → Nat} (hS : mt_SF N) {q : Q4} (h : mt_C3 q) : mt_s3q N q < 1327104 := by
  obtain ⟨k, hk, ek, ek2⟩ := mt_sqk hS h
  have l0 := rd4_lt 0 q
  have l1 := rd4_lt 1 q
  have l2 := rd4_lt 2 q
  rw [mt_s3q, ek2]
  omega
theorem RsH3 {N : Nat → Nat → Nat} (hM : mt_MT N) (hS : mt_SF N) : mt_RsH mt_C3 mt_G3 (mt_alq 0) bf_one (mo_nxD (mo_tabD N)) 6 1327104 0 (mt_s3q N) (fun i => 3 * i + 1) :=
  ⟨C3_mk, inv2 (fun a h => h.1.1.1.1), fun i hi _ => ⟨show 3 * i + 1 < 18 by omega, Or.inr (show (3 * i + 1) % 3 = 1 by omega)⟩, fun t ht ha => ⟨t / 3, by omega, Nat.one_ne_zero, by
    have : t % 3 = 1 := by
      rcases ha with w | w
      · exact absurd w (Nat.not_lt_zero _)
      · exact w
    show 3 * (t / 3) + 1 = t
    omega⟩, fun a i ha hi _ => s3_mk hM hS ha hi, fun a ha => s3_lt hS ha, fun a ha => G3_s hS ha, mt_hmQ, C3_hm, (G3_s hS C3_hm).mpr (show sv3q mt_hmQ = 0 by decide +kernel)⟩
theorem nxD_lt {N : Nat → Nat → Nat} (hM : mt_MT N) (hS : mt_SF N) {k t : Nat} (hk : k < 1327104) (ht : t < 6) : mo_nxD (mo_tabD N) k t < 1327104 := by
  have t1 := tabD_r hM (sl := 0) (r := k / 576 % 24) (by decide) (Nat.mod_lt _ (by decide)) ht
  have t2 := tabD_r hM (sl := 1) (r := k / 24 % 24) (by decide) (Nat.mod_lt _ (by decide)) ht
  have t3 := tabD_r hM (sl := 2) (r := k % 24) (by decide) (Nat.mod_lt _ (by decide)) ht
  have t0 := tabD_k hM hS (k := k / 13824) (by omega) ht
  rw [show 24 * 0 + k / 576 % 24 = k / 576 % 24 by omega] at t1
  rw [show 24 * 1 + k / 24 % 24 = 24 + k / 24 % 24 by omega] at t2
  rw [show 24 * 2 + k % 24 = 48 + k % 24 by omega] at t3
  have l0 := ((qck_s (k := k / 13824) (by omega)).2.2.2.2 t ht).1
  have l1 : mt_V4 0 (k / 576 % 24) t < 24 := mo_rk_lt4 _
  have l2 : mt_V4 1 (k / 24 % 24) t < 24 := mo_rk_lt4 _
  have l3 : mt_V4 2 (k % 24) t < 24 := mo_rk_lt4 _
  rw [mo_nxD, t0, t1, t2, t3]
  omega
theorem near4_d {N : Nat → Nat → Nat} (hM : mt_MT N) (hS : mt_SF N) : ∃ E, E < 99 ∧ (mo_near4 N E).2 = 0 ∧ (∀ d, d < E → (mo_near4 N d).2 ≠ 0) ∧ ∀ q, mt_C3 q → mt_RQ mt_G3 mkQ (mt_alq 0) ((mo_near4 N E).1 (mt_s3q N q)) q ∧ ∀ m, m < (mo_near4 N E).1 (mt_s3q N q) → ¬ mt_RQ mt_G3 mkQ (mt_alq 0) m q :=
  bf_dist (RsH3 hM hS) (fun a h => mt_dm3 h) (a := mo_near4 N) rfl bfLev_0 (fun d hd hL => bfW_r2 (T := 6) hd hL (fun k t hk ht _ => nxD_lt hM hS hk ht) 1327104 (Nat.le_refl _))
