def mt_KF (N : Nat → Nat → Nat) : Prop := (∀ j, j < 420 → N 29 j < 40320) ∧ (∀ P, mt_prm P → N 28 (mo_rk P 8 8) < 420 ∧ mt_cls P = mt_cls (mt_unq (N 29 (N 28 (mo_rk P 8 8))))) ∧ (∀ P Q, mt_prm P → mt_prm Q → mt_cls P = mt_cls Q → N 28 (mo_rk P 8 8) = N 28 (mo_rk Q 8 8)) ∧ N 29 0 = 0 ∧ N 28 0 = 0
theorem kd_29 {N : Nat → Nat → Nat} (h0 : 2 ^ 31 ≤ N 28 0) : ∀ R, (mo_kd (R + 1) (N, 0)).1 29 0 = 0 ∧ 1 ≤ (mo_kd (R + 1) (N, 0)).2 := by
  have v29 : ∀ (M : Nat → Nat → Nat) c R x, mo_name R c (mo_up M 29 c R) 29 x = if x = c then R else M 29 x := by
    intro M c R x
    rw [mo_name, mo_nk_k (by decide) (by decide) (by decide), mo_nk1_k (by decide), mo_unr_k (by decide)]
    simp [mo_up]
  intro R
  induction R with
  | zero =>
    rw [mo_kd, mo_kd, mo_kdS]
    dsimp only
    rw [if_pos h0]
    exact ⟨by dsimp only; rw [v29, if_pos rfl], Nat.le_refl _⟩
  | succ R ih =>
    rw [mo_kd, mo_kdS]
    split
    · exact ⟨by dsimp only; rw [v29, if_neg (by omega)]; exact ih.1, by dsimp only; omega⟩
    · exact ih
theorem kd_29p {N : Nat → Nat → Nat} (h0 : 2 ^ 31 ≤ N 28 0) {R : Nat} (hR : 0 < R) : (mo_kd R (N, 0)).1 29 0 = 0 ∧ 1 ≤ (mo_kd R (N, 0)).2 := by
  obtain ⟨r, rfl⟩ : ∃ r, R = r + 1 := ⟨R - 1, by omega⟩
  exact kd_29 h0 r
theorem kd_29j {N : Nat → Nat → Nat} (h : ∀ j, N 29 j < 40320) : ∀ R, R ≤ 40320 → ∀ j, (mo_kd R (N, 0)).1 29 j < 40320 := by
  intro R
  induction R with
  | zero => intro _; exact h
  | succ R ih =>
    intro hR j
    rw [mo_kd, mo_kdS]
    split
    · dsimp only
      rw [mo_name, mo_nk_k (by decide) (by decide) (by decide), mo_nk1_k (by decide), mo_unr_k (by decide)]
      exact mo_up_lt (ih (by omega) j) (fun _ => by omega)
    · exact ih (by omega) j
theorem KF_of {N1 N : Nat → Nat → Nat} (h31 : ∀ q, q < 96 → N1 31 q = mt_SQL q) (h : mt_KdI N1 N 0 0) (h28 : 2 ^ 31 ≤ N 28 0) (h29 : ∀ j, N 29 j < 40320) : mt_KF (mo_kd 40320 (N, 0)).1 ∧ (mo_kd 40320 (N, 0)).2 ≤ 420 := by
  have hk := KdI_all h31 h 40320 (Nat.le_refl _)
  have hc := KdI_c hk
  have e29 := kd_29p h28 (R := 40320) (by decide)
  obtain ⟨k0, k1, k2, k3, k4, k5⟩ := hk
  refine ⟨⟨fun j _ => kd_29j h29 40320 (Nat.le_refl _) j, fun P hP => ?_, fun P Q hP hQ e => ?_, e29.1, ?_⟩, hc⟩
  · have := k2 P hP (k5 _ (mo_rk_lt8 P))
    exact ⟨by omega, this.2⟩
  · have h1 := k2 P hP (k5 _ (mo_rk_lt8 P))
    exact (k3 Q _ hQ h1.1 (e.symm.trans h1.2)).symm
  · have q := unq_prm (r := 0) (by decide)
    have := k3 (mt_unq 0) 0 q.1 e29.2 (by rw [e29.1])
    rw [q.2] at this
    exact this
theorem m3t_v (k : Nat) (N : Nat → Nat → Nat) : ∀ T t, t < T → mo_m3t k T N 34 (18 * k + t) = N 28 (mo_rk (mo_sqR (mo_m3t k t N) 29 k t 36) 8 8) := by
  intro T
  induction T with
  | zero => intro t h; omega
  | succ T ih =>
    intro t h
    rw [mo_m3t, mo_m3t_k (q := 28) (by decide) (by decide) (by decide)]
    by_cases e : t = T
    · subst e; simp [mo_up]
    · rw [mo_up_ne (Or.inr (by omega)), mo_sqR_k (by decide) (by decide)]
      exact ih t (by omega)
theorem m3t_o (k : Nat) (N : Nat → Nat → Nat) {j : Nat} (h : j < 18 * k) : ∀ T, mo_m3t k T N 34 j = N 34 j := by
  intro T
  induction T with
  | zero => rfl
  | succ T ih => rw [mo_m3t, mo_up_ne (Or.inr (by omega)), mo_sqR_k (by decide) (by decide)]; exact ih
theorem m3_v {N : Nat → Nat → Nat} (hM : mt_MT N) {k t : Nat} (ht : t < 18) (h29 : N 29 k < 40320) : ∀ S, k < S → mo_m3 S N 34 (18 * k + t) = N 28 (mo_rk (mk_cp (t / 3) (mt_unq (N 29 k)) (t % 3 + 1)) 8 8) := by
  intro S
  induction S with
  | zero => intro h; omega
  | succ S ih =>
    intro h
    rw [mo_m3]
    by_cases e : k = S
    · subst e
      have kk : ∀ a, a ≠ 34 → a ≠ 36 → a ≠ 37 → mo_m3t k t (mo_m3 k N) a = N a := fun a b1 b2 b3 => by rw [mo_m3t_k b1 b2 b3, mo_m3_k b1 b2 b3]
      rw [m3t_v _ _ 18 t ht, mo_m3_k (q := 28) (by decide) (by decide) (by decide)]
      have hq := unq_prm h29
      congr 1
      exact rk_cg (sqR_rk (MT_of hM (kk 10 (by decide) (by decide) (by decide)) (kk 11 (by decide) (by decide) (by decide)) (kk 12 (by decide) (by decide) (by decide)) (kk 13 (by decide) (by decide) (by decide))) ht hq.1 (by rw [kk 29 (by decide) (by decide) (by decide), hq.2])) 8 (Nat.le_refl _)
    · rw [m3t_o _ _ (by omega)]
      exact ih (by omega)
def mt_i4 (F : Nat → Nat) (p : Nat) : Nat := if F p < 4 then 1 else 0
theorem i4_2 (F : Nat → Nat) (p : Nat) : mt_i4 F p < 2 := by unfold mt_i4; split <;> decide
theorem f2m_fo (N : Nat → Nat → Nat) : ∀ p, mo_f2m N p = mt_fo (mt_i4 (N 6)) p
  | 0 => rfl
  | p + 1 => by
    rw [mo_f2m, mt_fo, f2m_fo N p, mt_i4]
    split
    · rfl
    · rw [Nat.zero_mul]
def mt_mk4 (q : Q4) : Nat := mt_fo (mt_i4 q.2.2.1) 8
theorem mk4_lt (q : Q4) : mt_mk4 q < 256 := fo_lt 8 (fun p _ => i4_2 _ p)
theorem mk4_pl (q : Q4) : mt_mk4 q = pl_s q.2.2.1 0 8 8 := by
  refine Nat.eq_of_testBit_eq (fun i => ?_)
  have h1 := fo_bit (F := mt_i4 q.2.2.1) 8 (fun p _ => i4_2 _ p) i
  have h2 := pl_bit q.2.2.1 0 8 i 8
  have h3 : (mt_mk4 q).testBit i = true ↔ (pl_s q.2.2.1 0 8 8).testBit i = true := by
    rw [show mt_mk4 q = mt_fo (mt_i4 q.2.2.1) 8 from rfl, h1, h2]
    constructor
    · rintro ⟨a, b⟩
      refine ⟨a, ?_⟩
      rw [show (4 * 0 + i) % 8 = i by omega]
      rw [mt_i4] at b
      split at b
      · omega
      · exact absurd b (by decide)
    · rintro ⟨a, b⟩
      rw [show (4 * 0 + i) % 8 = i by omega] at b
      exact ⟨a, by rw [mt_i4, if_pos (by omega)]⟩
  cases a : (mt_mk4 q).testBit i <;> cases b : (pl_s q.2.2.1 0 8 8).testBit i
  · rfl
  · rw [a, b] at h3; exact absurd (h3.mpr rfl) (by decide)
  · rw [a, b] at h3; exact absurd (h3.mp rfl) (by decide)
  · rfl
theorem fo_ext {I : Nat → Nat} : ∀ d, mt_fo (fun p => if p < 8 then I p else 0) (8 + d) = mt_fo I 8 := by
  intro d
  induction d with
  | zero => exact fo_cg 8 (fun p hp => if_pos hp)
  | succ d ih =>
    show mt_fo _ (8 + d) ||| (if 8 + d < 8 then I (8 + d) else 0) * 2 ^ (8 + d) = _
    rw [if_neg (by omega), Nat.zero_mul, Nat.or_zero]
    exact ih
theorem mk4_on {q : Q4} (h : mt_C2 q) : mo_on 12 (mt_mk4 q) = 4 := by
  have e := fo_ext (I := mt_i4 q.2.2.1) 4
  rw [mt_mk4, ← e]
  rw [on_fo 12 (fun p _ => by split; exact i4_2 _ p; decide)]
  have h8 := mt_pc8 h
  rw [← mk4_pl] at h8
  have h8' : mo_sum (fun i => if (mt_mk4 q).testBit i then 1 else 0) 8 = 4 := h8
  have e2 : mo_sum (fun p => if p < 8 then mt_i4 q.2.2.1 p else 0) 12 = mo_sum (mt_i4 q.2.2.1) 8 := by
    have e12 : ∀ F : Nat → Nat, mo_sum F 12 = mo_sum F 8 + F 8 + F 9 + F 10 + F 11 := fun F => rfl
    have z : ∀ p, 8 ≤ p → (if p < 8 then mt_i4 q.2.2.1 p else 0) = 0 := fun p hp => if_neg (by omega)
    have mt_e8 : mo_sum (fun p => if p < 8 then mt_i4 q.2.2.1 p else 0) 8 = mo_sum (mt_i4 q.2.2.1) 8 := mo_sum_congr 8 (fun p hp => if_pos hp)
    rw [e12, z 8 (by decide), z 9 (by decide), z 10 (by decide), z 11 (by decide), mt_e8]
    rfl
  rw [e2]
  refine Eq.trans (mo_sum_congr (g := fun i => if (mt_mk4 q).testBit i then 1 else 0) 8 (fun p hp => ?_)) h8'
  have h1 : (mt_mk4 q).testBit p = true ↔ p < 8 ∧ mt_i4 q.2.2.1 p = 1 := fo_bit (F := mt_i4 q.2.2.1) 8 (fun p _ => i4_2 _ p) p
  have h2 := i4_2 q.2.2.1 p
  by_cases c : mt_i4 q.2.2.1 p = 1
  · rw [if_pos (h1.mpr ⟨hp, c⟩), c]
  · rw [if_neg (fun w => c (h1.mp w).2)]; omega
theorem mk4_cnt {q : Q4} (h : mt_C2 q) : mo_cnt (mt_mk4 q) < 70 := by
  have := cnt_lt (mk4_lt q) (mk4_on h)
  rw [cnt_256] at this
  exact this
def mt_NH (N : Nat → Nat → Nat) : Prop := (∀ m, m < 256 → mo_on 12 m = 4 → N 26 m = mo_cnt m ∧ N 27 (mo_cnt m) = m) ∧ (∀ j, N 26 j < 70) ∧ ∀ j, N 27 j < 256
def mt_s2q (N : Nat → Nat → Nat) (q : Q4) : Nat := 70 * N 28 (mo_rk q.1 8 8) + mo_cnt (mt_mk4 q)
theorem mt_t8 : ∀ t, t < 18 → (t / 3 < 2 ∨ t % 3 = 1) → ∀ j, j < 8 → mk_ep (t / 3) (fun j => j) (t % 3 + 1) j < 8 := by decide +kernel
theorem mk_fo8 {N : Nat → Nat → Nat} (hM : mt_MT N) {t : Nat} (ht : t < 18) (hal : mt_alq 2 t) {I : Nat → Nat} (h : ∀ p, p < 8 → I p < 2) : ∀ p, p ≤ 8 → mo_mk N (mt_fo I 8) t p = mt_fo (fun p => I (mk_ep (t / 3) (fun j => j) (t % 3 + 1) p)) p := by
  intro p
  induction p with
  | zero => intro _; rfl
  | succ p ih =>
    intro hp
    have he := (hM t ht).2 p (by omega)
    have le := mt_t8 t ht hal p (by omega)
    rw [mo_mk, ih (by omega), he.1, fo_dig h le]
    rfl
theorem q_prm {q : Q4} (h : mt_Lw q) : mt_prm q.1 := ⟨h.1.1, h.2.1⟩
theorem s2_mk {N : Nat → Nat → Nat} (hM : mt_MT N) (hK : mt_KF N) (hH : mt_NH N) {q : Q4} (h : mt_C2 q) {t : Nat} (ht : t < 18) (hal : mt_alq 2 t) : mt_s2q N (mkQ t q) = mo_nxC (mo_m3 420 N) (mt_s2q N q) t := by
  have hc := mk4_cnt h
  have hk := hK.2.1 q.1 (q_prm h.1.1)
  have hL : mt_C2 (mkQ t q) := pw_al C2_pw q t h ht hal
  have e1 : mt_s2q N q / 70 = N 28 (mo_rk q.1 8 8) := by rw [mt_s2q]; omega
  have e2 : mt_s2q N q % 70 = mo_cnt (mt_mk4 q) := by rw [mt_s2q]; omega
  have k12 := mo_m3_k (q := 12) (by decide) (by decide) (by decide) N 420
  have k26 := mo_m3_k (q := 26) (by decide) (by decide) (by decide) N 420
  have k27 := mo_m3_k (q := 27) (by decide) (by decide) (by decide) N 420
  have h29 := hK.1 _ hk.1
  rw [mo_nxC, e1, e2, k26, k27, mk_cg k12, m3_v hM ht h29 420 hk.1, (hH.1 _ (mk4_lt q) (mk4_on h)).2]
  have e3 : mo_mk N (mt_mk4 q) t 8 = mt_mk4 (mkQ t q) := by
    rw [mt_mk4, mk_fo8 hM ht hal (fun p _ => i4_2 _ p) 8 (Nat.le_refl _), mt_mk4]
    refine fo_cg 8 (fun p _ => ?_)
    show mt_i4 q.2.2.1 _ = mt_i4 (mk_ep (t / 3) q.2.2.1 (t % 3 + 1)) p
    rw [mt_i4, mt_i4, mk_ep_nat (t / 3) q.2.2.1]
  rw [e3, (hH.1 _ (mk4_lt _) (mk4_on hL)).1]
  have hu := (unq_prm h29).1
  have hp2 : mt_prm (mk_cp (t / 3) (mt_unq (N 29 (N 28 (mo_rk q.1 8 8)))) (t % 3 + 1)) := by
    refine ⟨mk_cp_lt _ hu.1 _, fun v hv => ?_⟩
    obtain ⟨x, hx, e⟩ := hu.2 v hv
    obtain ⟨j, hj, e2⟩ := mk_id_sur (show t / 3 < 6 by omega) (t % 3 + 1) x hx
    exact ⟨j, hj, by rw [mk_cp_nat, e2, e]⟩
  have hcl : mt_cls (mkQ t q).1 = mt_cls (mk_cp (t / 3) (mt_unq (N 29 (N 28 (mo_rk q.1 8 8)))) (t % 3 + 1)) := rel_cls (q_prm hL.1.1) (RelP_mk (cls_rel (q_prm h.1.1) hu hk.2) (t / 3) (t % 3 + 1))
  rw [mt_s2q, hK.2.2.1 _ _ (q_prm hL.1.1) hp2 hcl]
theorem may2 {t : Nat} : mo_may 2 t ≠ 0 ↔ mt_alq 2 t := by
  unfold mo_may mt_alq
  by_cases c : t / 3 < 2 ∨ t % 3 = 1
  · rw [if_pos (by omega)]; exact ⟨fun _ => c, fun _ => Nat.one_ne_zero⟩
  · rw [if_neg (by omega)]; exact ⟨fun w => absurd rfl w, fun w => absurd w c⟩
theorem cnt_15 : mo_cnt 15 = 0 ∧ mo_on 12 15 = 4 ∧ (cu_os 15 8).1 = 0 := by decide +kernel
theorem cls_id : mt_cls (fun j => j) = 0 := by decide +kernel
theorem unq_0 : ∀ j, j < 8 → mt_unq 0 j = j := by
  have h := unr_rk (f := fun j => j) (n := 8) (by decide) (fun _ h => h) (fun v hv => ⟨v, hv, rfl⟩) (fun _ _ => 0)
  rw [show mo_rk (fun j => j) 8 8 = 0 by decide +kernel] at h
  exact h
theorem G2_s {N : Nat → Nat → Nat} (hK : mt_KF N) {q : Q4} (h : mt_C2 q) : mt_s2q N q = 0 ↔ mt_G2 q := by
  have hk := hK.2.1 q.1 (q_prm h.1.1)
  have e1 : mt_s2q N q = 0 ↔ N 28 (mo_rk q.1 8 8) = 0 ∧ mo_cnt (mt_mk4 q) = 0 := by rw [mt_s2q]; omega
  have idp : mt_prm (fun j => j) := ⟨fun _ h => h, fun v hv => ⟨v, hv, rfl⟩⟩
  have e0 : mt_cls (mt_unq 0) = 0 := by rw [← rel_cls idp (RelP_eq (fun j hj => (unq_0 j hj).symm))]; exact cls_id
  have e2 : N 28 (mo_rk q.1 8 8) = 0 ↔ mt_cls q.1 = 0 := by
    constructor
    · intro w
      have := hk.2
      rw [w, hK.2.2.2.1, e0] at this
      exact this
    · intro w
      have h3 := hK.2.2.1 q.1 (mt_unq (N 29 0)) (q_prm h.1.1) (unq_prm (by rw [hK.2.2.2.1]; decide)).1 (by rw [hK.2.2.2.1, e0]; exact w)
      rw [h3, hK.2.2.2.1, (unq_prm (r := 0) (by decide)).2]
      exact hK.2.2.2.2
  rw [e1, e2]
  have e3 : mo_cnt (mt_mk4 q) = 0 ↔ (cu_os (pl_s q.2.2.1 0 8 8) 8).1 = 0 := by
    constructor
    · intro w
      have := cnt_inj (mk4_on h) cnt_15.2.1 (w.trans cnt_15.1.symm)
      rw [← mk4_pl, this]; exact cnt_15.2.2
    · intro w
      have := ((mt_os8 (pl_lt q.2.2.1 0 8 8)).2 (mt_pc8 h)).2 w
      rw [mk4_pl, this]; exact cnt_15.1
  rw [e3]
  have e4 : mt_G2 q ↔ ∀ i, i < 2 → mt_x2 q i = 0 := sv_0 (sz := sz2) (y := mt_x2 q) 2 sz2_pos
  rw [e4]
  constructor
  · rintro ⟨w1, w2⟩ i hi
    match i, hi with
    | 0, _ => exact w1
    | 1, _ => exact w2
  · intro w
    exact ⟨w 0 (by decide), w 1 (by decide)⟩
theorem C2_hm : mt_C2 mt_hmQ := ⟨C1_hm, by decide +kernel⟩
theorem s2_lt {N : Nat → Nat → Nat} (hK : mt_KF N) {q : Q4} (h : mt_C2 q) : mt_s2q N q < 29400 := by
  have hc := mk4_cnt h
  have hk := (hK.2.1 q.1 (q_prm h.1.1)).1
  rw [mt_s2q]
  omega
theorem RsH2 {N : Nat → Nat → Nat} (hM : mt_MT N) (hK : mt_KF N) (hH : mt_NH N) : mt_RsH mt_C2 mt_G2 (mt_alq 2) (mo_may 2) (mo_nxC (mo_m3 420 N)) 18 29400 (mo_m3 420 N 26 15) (mt_s2q N) (fun i => i) := by
  have e : mo_m3 420 N 26 15 = 0 := by
    rw [mo_m3_k (by decide) (by decide) (by decide), (hH.1 15 (by decide) cnt_15.2.1).1]
    exact cnt_15.1
  rw [e]
  exact ⟨pw_al C2_pw, inv2 (fun a h => h.1.1.1), fun i hi ha => ⟨hi, may2.mp ha⟩, fun t ht ha => ⟨t, ht, may2.mpr ha, rfl⟩, fun a i ha hi hal => s2_mk hM hK hH ha hi (may2.mp hal), fun a ha => s2_lt hK ha, fun a ha => G2_s hK ha, mt_hmQ, C2_hm, (G2_s hK C2_hm).mpr (show sv2q mt_hmQ = 0 by decide +kernel)⟩
theorem nxC_lt {N : Nat → Nat → Nat} (hM : mt_MT N) (hK : mt_KF N) (hH : mt_NH N) {k t : Nat} (hk : k < 29400) (ht : t < 18) : mo_nxC (mo_m3 420 N) k t < 29400 := by
  have h29 := hK.1 (k / 70) (by omega)
  have hu := (unq_prm h29).1
  have hp2 : mt_prm (mk_cp (t / 3) (mt_unq (N 29 (k / 70))) (t % 3 + 1)) := by
    refine ⟨mk_cp_lt _ hu.1 _, fun v hv => ?_⟩
    obtain ⟨x, hx, e⟩ := hu.2 v hv
    obtain ⟨j, hj, e2⟩ := mk_id_sur (show t / 3 < 6 by omega) (t % 3 + 1) x hx
    exact ⟨j, hj, by rw [mk_cp_nat, e2, e]⟩
  have h1 := (hK.2.1 _ hp2).1
  rw [mo_nxC, m3_v hM ht h29 420 (by omega), mo_m3_k (q := 26) (by decide) (by decide) (by decide)]
  have h2 := hH.2.1 (mo_mk (mo_m3 420 N) (mo_m3 420 N 27 (k % 70)) t 8)
  omega
theorem near3_d {N : Nat → Nat → Nat} (hM : mt_MT N) (hK : mt_KF N) (hH : mt_NH N) : ∃ E, E < 99 ∧ (mo_near3 N E).2 = 0 ∧ (∀ d, d < E → (mo_near3 N d).2 ≠ 0) ∧ ∀ q, mt_C2 q → mt_RQ mt_G2 mkQ (mt_alq 2) ((mo_near3 N E).1 (mt_s2q N q)) q ∧ ∀ m, m < (mo_near3 N E).1 (mt_s2q N q) → ¬ mt_RQ mt_G2 mkQ (mt_alq 2) m q :=
  bf_dist (RsH2 hM hK hH) (fun a h => mt_dm2 h) (a := mo_near3 N) rfl bfLev_0 (fun d hd hL => bfW_r1 (T := 18) rfl hd hL (fun k t hk ht _ => nxC_lt hM hK hH hk ht) 29400 (Nat.le_refl _))
