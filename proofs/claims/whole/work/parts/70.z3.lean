theorem cnt_4096 : mo_cnt 4096 = 495 := by decide +kernel
theorem cnt_256 : mo_cnt 256 = 70 := by decide +kernel
def mt_i7 (F : Nat → Nat) (p : Nat) : Nat := if 7 < F p then 1 else 0
theorem i7_2 (F : Nat → Nat) (p : Nat) : mt_i7 F p < 2 := by unfold mt_i7; split <;> decide
theorem f1m_fo (N : Nat → Nat → Nat) : ∀ p, mo_f1m N p = mt_fo (mt_i7 (N 6)) p
  | 0 => rfl
  | p + 1 => by
    rw [mo_f1m, mt_fo, f1m_fo N p, mt_i7]
    split
    · rfl
    · rw [Nat.zero_mul]
def mt_mk7 (q : Q4) : Nat := mt_fo (mt_i7 q.2.2.1) 12
theorem mk7_lt (q : Q4) : mt_mk7 q < 4096 := fo_lt 12 (fun p _ => i7_2 _ p)
theorem mk7_on {q : Q4} (h : mt_Lw q) : mo_on 12 (mt_mk7 q) = 4 := by
  rw [mt_mk7, on_fo 12 (fun p _ => i7_2 _ p)]
  exact (sum_perm 12 q.2.2.1 (fun v => if 7 < v then 1 else 0) h.2.2.1).trans (by decide)
theorem mk7_cnt {q : Q4} (h : mt_Lw q) : mo_cnt (mt_mk7 q) < 495 := by
  have := cnt_lt (mk7_lt q) (mk7_on h)
  rw [cnt_4096] at this
  exact this
def mt_NU (N : Nat → Nat → Nat) : Prop := (∀ m, m < 4096 → mo_on 12 m = 4 → N 24 m = mo_cnt m ∧ N 25 (mo_cnt m) = m) ∧ (∀ j, N 24 j < 495) ∧ (∀ j, N 25 j < 4096)
theorem mk_cg {N N' : Nat → Nat → Nat} (h : N 12 = N' 12) (mask t : Nat) : ∀ p, mo_mk N mask t p = mo_mk N' mask t p
  | 0 => rfl
  | p + 1 => by rw [mo_mk, mo_mk, mk_cg h mask t p, h]
theorem m2t_v (m : Nat) (N : Nat → Nat → Nat) : ∀ T t, t < T → mo_m2t m T N 33 (18 * m + t) = N 24 (mo_mk N (N 25 m) t 12) := by
  intro T
  induction T with
  | zero => intro t h; omega
  | succ T ih =>
    intro t h
    have e24 := mo_m2t_k (k := 24) (by decide) m N T
    have e25 := mo_m2t_k (k := 25) (by decide) m N T
    have e12 := mo_m2t_k (k := 12) (by decide) m N T
    rw [mo_m2t, e24, e25, mk_cg e12]
    by_cases e : t = T
    · subst e; simp [mo_up]
    · rw [mo_up_ne (Or.inr (by omega))]
      exact ih t (by omega)
theorem m2t_o (m : Nat) (N : Nat → Nat → Nat) {j : Nat} (h : j < 18 * m) : ∀ T, mo_m2t m T N 33 j = N 33 j := by
  intro T
  induction T with
  | zero => rfl
  | succ T ih => rw [mo_m2t, mo_up_ne (Or.inr (by omega))]; exact ih
theorem m2_v (N : Nat → Nat → Nat) {m t : Nat} (ht : t < 18) : ∀ S, m < S → mo_m2 S N 33 (18 * m + t) = N 24 (mo_mk N (N 25 m) t 12) := by
  intro S
  induction S with
  | zero => intro h; omega
  | succ S ih =>
    intro h
    rw [mo_m2]
    by_cases e : m = S
    · subst e
      rw [m2t_v _ _ 18 t ht, mo_m2_k (k := 24) (by decide), mo_m2_k (k := 25) (by decide), mk_cg (mo_m2_k (k := 12) (by decide) N m)]
    · rw [m2t_o _ _ (by omega)]
      exact ih (by omega)
theorem tabB_32 (N : Nat → Nat → Nat) : mo_tabB N 32 = mo_m1 2187 N 32 := by rw [mo_tabB, mo_m2_k (by decide)]
theorem tabB_33 (N : Nat → Nat → Nat) {m t : Nat} (hm : m < 495) (ht : t < 18) : mo_tabB N 33 (18 * m + t) = N 24 (mo_mk N (N 25 m) t 12) := by
  rw [mo_tabB, m2_v _ ht 495 hm, mo_m1_k (k := 24) (by decide) (by decide), mo_m1_k (k := 25) (by decide) (by decide), mk_cg (mo_m1_k (k := 12) (by decide) (by decide) N 2187)]
def mt_s1q (q : Q4) : Nat := 495 * mt_fsn q.2.1 7 + mo_cnt (mt_mk7 q)
theorem s1_mk {N : Nat → Nat → Nat} (hM : mt_MT N) (hU : mt_NU N) {q : Q4} (h : mt_Lw q) {t : Nat} (ht : t < 18) : mt_s1q (mkQ t q) = mo_nxB (mo_tabB N) (mt_s1q q) t := by
  have hc := mk7_cnt h
  have hf := fsn_lt h.1.2.1 7
  have e1 : mt_s1q q / 495 = mt_fsn q.2.1 7 := by rw [mt_s1q]; omega
  have e2 : mt_s1q q % 495 = mo_cnt (mt_mk7 q) := by rw [mt_s1q]; omega
  have hL := Lw_mk ht h
  rw [mo_nxB, e1, e2, tabB_32, m1_v hM h.1.2.1 h.2.2.2.1 ht 2187 (by omega), tabB_33 N hc ht, (hU.1 _ (mk7_lt q) (mk7_on h)).2]
  have e3 : mo_mk N (mt_mk7 q) t 12 = mt_mk7 (mkQ t q) := by
    rw [mt_mk7, mk_fo hM ht (fun p _ => i7_2 _ p) 12 (Nat.le_refl _), mt_mk7]
    refine fo_cg 12 (fun p _ => ?_)
    show mt_i7 q.2.2.1 _ = mt_i7 (mk_ep (t / 3) q.2.2.1 (t % 3 + 1)) p
    rw [mt_i7, mt_i7, mk_ep_nat (t / 3) q.2.2.1]
  rw [e3, (hU.1 _ (mk7_lt _) (mk7_on hL)).1]
  rfl
theorem on_3840 : mo_on 12 3840 = 4 := by decide +kernel
theorem os15 : (cu_os 15 12).1 = 0 := by decide +kernel
theorem b3840 : ∀ p, p < 12 → (Nat.testBit 3840 p = true ↔ 8 ≤ p) := by decide
theorem mk7_slice {q : Q4} (h : mt_Lw q) : mt_mk7 q = 3840 ↔ (cu_os (pl_s q.2.2.1 2 12 12) 12).1 = 0 := by
  constructor
  · intro e
    have hb := fo_bit (F := mt_i7 q.2.2.1) 12 (fun p _ => i7_2 _ p)
    have hq : ∀ p, p < 12 → (7 < q.2.2.1 p ↔ 8 ≤ p) := by
      intro p hp
      have h1 := hb p
      rw [show mt_fo (mt_i7 q.2.2.1) 12 = 3840 from e, b3840 p hp] at h1
      rw [h1, mt_i7]
      constructor
      · intro w; exact ⟨hp, if_pos w⟩
      · intro w
        by_cases c : 7 < q.2.2.1 p
        · exact c
        · rw [if_neg c] at w; exact absurd w.2 (by decide)
    have e15 : pl_s q.2.2.1 2 12 12 = 15 := by
      refine Nat.eq_of_testBit_eq (fun i => ?_)
      have h1 := pl_bit q.2.2.1 2 12 i 12
      by_cases hi : i < 12
      · have h2 := bits15 i hi
        have h3 : (q.2.2.1 ((4 * 2 + i) % 12) / 4 = 2) ↔ i < 4 := by
          have l := h.1.2.2.1 ((4 * 2 + i) % 12) (by omega)
          have := hq ((4 * 2 + i) % 12) (by omega)
          omega
        have h4 : (pl_s q.2.2.1 2 12 12).testBit i = true ↔ Nat.testBit 15 i = true := by
          rw [h1, h2, h3]; exact ⟨fun w => w.2, fun w => ⟨hi, w⟩⟩
        cases a : (pl_s q.2.2.1 2 12 12).testBit i <;> cases b : Nat.testBit 15 i
        · rfl
        · rw [a, b] at h4; exact absurd (h4.mpr rfl) (by decide)
        · rw [a, b] at h4; exact absurd (h4.mp rfl) (by decide)
        · rfl
      · have e1 : (pl_s q.2.2.1 2 12 12).testBit i = false := Nat.testBit_lt_two_pow (Nat.lt_of_lt_of_le (pl_lt q.2.2.1 2 12 12) (Nat.pow_le_pow_right (by decide) (by omega)))
        have e2 : Nat.testBit 15 i = false := Nat.testBit_lt_two_pow (Nat.lt_of_lt_of_le (show 15 < 2 ^ 12 by decide) (Nat.pow_le_pow_right (by decide) (by omega)))
        rw [e1, e2]
    rw [e15, os15]
  · intro h0
    have e := ((os12 (pl_lt q.2.2.1 2 12 12)).2 (pc12 h)).2 h0
    have hb := fun i => pl_bit q.2.2.1 2 12 i 12
    rw [e] at hb
    refine Eq.trans (fo_cg (F' := fun p => if 8 ≤ p then 1 else 0) 12 (fun p hp => ?_)) (by decide +kernel)
    have l := h.1.2.2.1 p hp
    have h1 := hb ((p + 4) % 12)
    rw [show (4 * 2 + (p + 4) % 12) % 12 = p by omega, bits15 _ (by omega)] at h1
    rw [mt_i7]
    by_cases c : 8 ≤ p
    · have : q.2.2.1 p / 4 = 2 := (h1.mp (by omega)).2
      rw [if_pos c, if_pos (by omega)]
    · have : ¬ q.2.2.1 p / 4 = 2 := fun w => by have := h1.mpr ⟨by omega, w⟩; omega
      rw [if_neg c, if_neg (by omega)]
theorem G1_s {N : Nat → Nat → Nat} (hU : mt_NU N) {q : Q4} (h : mt_Lw q) : mt_s1q q = N 24 3840 ↔ mt_G1 q := by
  rw [(hU.1 3840 (by decide) on_3840).1]
  have hc := mk7_cnt h
  have hz : mo_cnt 3840 < 495 := by
    have := cnt_lt (show 3840 < 4096 by decide) on_3840
    rw [cnt_4096] at this; exact this
  have e : mt_s1q q = mo_cnt 3840 ↔ mt_fsn q.2.1 7 = 0 ∧ mt_mk7 q = 3840 := by
    rw [mt_s1q]
    constructor
    · intro w
      have : mt_fsn q.2.1 7 = 0 := by omega
      exact ⟨this, cnt_inj (mk7_on h) on_3840 (by omega)⟩
    · rintro ⟨w1, w2⟩; rw [w1, w2]; omega
  rw [e, mk7_slice h, fsn_0 h.1.2.1]
  have e2 : mt_G1 q ↔ ∀ i, i < 2 → mt_x1 q i = 0 := sv_0 (sz := sz1) (y := mt_x1 q) 2 sz1_pos
  rw [e2]
  constructor
  · rintro ⟨w1, w2⟩ i hi
    match i, hi with
    | 0, _ => exact (mr_0 3 (by decide) 7).mpr w1
    | 1, _ => exact w2
  · intro w
    exact ⟨(mr_0 3 (by decide) 7).mp (w 0 (by decide)), w 1 (by decide)⟩
theorem may1 {t : Nat} : mo_may 1 t ≠ 0 ↔ mt_alq 4 t := by
  unfold mo_may mt_alq
  by_cases c : t / 3 < 4 ∨ t % 3 = 1
  · rw [if_pos (by omega)]; exact ⟨fun _ => c, fun _ => Nat.one_ne_zero⟩
  · rw [if_neg (by omega)]; exact ⟨fun w => absurd rfl w, fun w => absurd w c⟩
theorem C1_hm : mt_C1 mt_hmQ := ⟨Lw_hm, by decide +kernel⟩
theorem s1_lt {q : Q4} (h : mt_Lw q) : mt_s1q q < 1082565 := by
  have hc := mk7_cnt h
  have hf := fsn_lt h.1.2.1 7
  rw [mt_s1q]
  omega
theorem tabB_24 (N : Nat → Nat → Nat) : mo_tabB N 24 = N 24 := by rw [mo_tabB, mo_m2_k (by decide), mo_m1_k (by decide) (by decide)]
theorem RsH1 {N : Nat → Nat → Nat} (hM : mt_MT N) (hU : mt_NU N) : mt_RsH mt_C1 mt_G1 (mt_alq 4) (mo_may 1) (mo_nxB (mo_tabB N)) 18 1082565 (mo_tabB N 24 3840) mt_s1q (fun i => i) := by
  rw [tabB_24]
  exact ⟨C1_mk, inv2 (fun a h => h.1.1), fun i hi ha => ⟨hi, may1.mp ha⟩, fun t ht ha => ⟨t, ht, may1.mpr ha, rfl⟩, fun a i ha hi _ => s1_mk hM hU ha.1 hi, fun a ha => s1_lt ha.1, fun a ha => G1_s hU ha.1, mt_hmQ, C1_hm, (G1_s hU Lw_hm).mpr (show sv1q mt_hmQ = 0 by decide +kernel)⟩
theorem nxB_lt {N : Nat → Nat → Nat} (hU : mt_NU N) {k t : Nat} (hk : k < 1082565) (ht : t < 18) : mo_nxB (mo_tabB N) k t < 1082565 := by
  rw [mo_nxB, tabB_32, tabB_33 N (Nat.mod_lt _ (by decide)) ht]
  have h1 := m1_lt N 2187 (18 * (k / 495) + t) (by omega)
  have h2 := hU.2.1 (mo_mk N (N 25 (k % 495)) t 12)
  omega
theorem near2_d {N : Nat → Nat → Nat} (hM : mt_MT N) (hU : mt_NU N) : ∃ E, E < 99 ∧ (mo_near2 N E).2 = 0 ∧ (∀ d, d < E → (mo_near2 N d).2 ≠ 0) ∧ ∀ q, mt_C1 q → mt_RQ mt_G1 mkQ (mt_alq 4) ((mo_near2 N E).1 (mt_s1q q)) q ∧ ∀ m, m < (mo_near2 N E).1 (mt_s1q q) → ¬ mt_RQ mt_G1 mkQ (mt_alq 4) m q :=
  bf_dist (RsH1 hM hU) (fun a h => mt_dm1 h) (a := mo_near2 N) rfl bfLev_0 (fun d hd hL => bfW_r2 (T := 18) hd hL (fun k t hk ht _ => nxB_lt hU hk ht) 1082565 (Nat.le_refl _))
