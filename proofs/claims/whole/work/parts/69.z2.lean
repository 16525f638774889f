def mt_fsn (F : Nat → Nat) : Nat → Nat
  | 0 => 0
  | k + 1 => 3 * mt_fsn F k + F (7 - 1 - k)
theorem f1s_fsn (N : Nat → Nat → Nat) : ∀ k, mo_f1s N k = mt_fsn (N 5) k
  | 0 => rfl
  | k + 1 => by rw [mo_f1s, mt_fsn, f1s_fsn N k]
theorem fsn_lt {F : Nat → Nat} (h : ∀ j, j < 8 → F j < 3) : ∀ k, mt_fsn F k < 3 ^ k
  | 0 => by rw [mt_fsn]; decide
  | k + 1 => by have := fsn_lt h k; have := h (7 - 1 - k) (by omega); rw [mt_fsn, Nat.pow_succ]; omega
theorem fsn_cg {F F' : Nat → Nat} (h : ∀ j, j < 7 → F j = F' j) : ∀ k, mt_fsn F k = mt_fsn F' k
  | 0 => rfl
  | k + 1 => by rw [mt_fsn, mt_fsn, fsn_cg h k, h (7 - 1 - k) (by omega)]
theorem l3_fsn {F : Nat → Nat} (h : ∀ j, j < 8 → F j < 3) : ∀ p, p ≤ 7 → mo_l3 (mt_fsn F 7) p = mt_fsn F (7 - p) := by
  intro p
  induction p with
  | zero => intro _; rfl
  | succ p ih =>
    intro hp
    have := h (7 - 1 - (6 - p)) (by omega)
    rw [mo_l3, ih (by omega), show 7 - p = (6 - p) + 1 by omega, mt_fsn, show 7 - (p + 1) = 6 - p by omega]
    omega
theorem d3_fsn {F : Nat → Nat} (h : ∀ j, j < 8 → F j < 3) {p : Nat} (hp : p < 7) : mo_l3 (mt_fsn F 7) p % 3 = F p := by
  have := h p (by omega)
  rw [l3_fsn h p (by omega), show 7 - p = (6 - p) + 1 by omega, mt_fsn, show 7 - 1 - (6 - p) = p by omega]
  omega
theorem s3_fsn {F : Nat → Nat} (h : ∀ j, j < 8 → F j < 3) : ∀ p, p ≤ 7 → mo_s3 (mt_fsn F 7) p = mo_sum F p := by
  intro p
  induction p with
  | zero => intro _; rfl
  | succ p ih => intro hp; rw [mo_s3, mo_sum, ih (by omega), d3_fsn h (by omega)]
theorem fsn_0 {F : Nat → Nat} (h : ∀ j, j < 8 → F j < 3) : mt_fsn F 7 = 0 ↔ ∀ p, p < 7 → F p = 0 := by
  constructor
  · intro h0 p hp
    have := d3_fsn h hp
    rw [h0] at this
    have z : ∀ p, mo_l3 0 p = 0 := by
      intro p
      induction p with
      | zero => rfl
      | succ p ih => rw [mo_l3, ih]
    rw [z] at this
    exact this.symm
  · intro h0
    rw [fsn_cg (F' := fun _ => 0) h0]
    decide
theorem nx2_cg {N N' : Nat → Nat → Nat} (h36 : N 36 = N' 36) (h10 : N 10 = N' 10) (h11 : N 11 = N' 11) (t : Nat) : ∀ k, mo_nx2 N t k = mo_nx2 N' t k
  | 0 => rfl
  | k + 1 => by rw [mo_nx2, mo_nx2, nx2_cg h36 h10 h11 t k, h36, h10, h11]
theorem nx2_fsn {N : Nat → Nat → Nat} (hM : mt_MT N) {t : Nat} (ht : t < 18) {F : Nat → Nat} (hr : ∀ j, j < 8 → N 36 j = F j) (h : ∀ j, j < 8 → F j < 3) : ∀ k, k ≤ 7 → mo_nx2 N t k = mt_fsn (mk_co (t / 3) F (t % 3 + 1)) k := by
  intro k
  induction k with
  | zero => intro _; rfl
  | succ k ih =>
    intro hk
    have hc := (hM t ht).1 (7 - 1 - k) (by omega)
    have lc := mk_cp_lt (t / 3) (cp := fun j => j) (fun j hj => hj) (t % 3 + 1) (7 - 1 - k) (by omega)
    rw [mo_nx2, mt_fsn, ih (by omega), hc.1, hc.2, hr _ lc, mk_co_nf (t / 3) h _ (7 - 1 - k) (by omega)]
theorem m1t_v (s : Nat) (N : Nat → Nat → Nat) : ∀ T t, t < T → mo_m1t s T N 32 (18 * s + t) = mo_nx2 N t 7 := by
  intro T
  induction T with
  | zero => intro t h; omega
  | succ T ih =>
    intro t h
    have key : mo_nx2 (mo_m1t s T N) T 7 = mo_nx2 N T 7 := nx2_cg (mo_m1t_k (by decide) s N T) (mo_m1t_k (by decide) s N T) (mo_m1t_k (by decide) s N T) T 7
    rw [mo_m1t, key]
    by_cases e : t = T
    · subst e; simp [mo_up]
    · rw [mo_up_ne (Or.inr (by omega))]
      exact ih t (by omega)
theorem m1t_o (s : Nat) (N : Nat → Nat → Nat) {j : Nat} (h : j < 18 * s) : ∀ T, mo_m1t s T N 32 j = N 32 j := by
  intro T
  induction T with
  | zero => rfl
  | succ T ih => rw [mo_m1t, mo_up_ne (Or.inr (by omega))]; exact ih
theorem m1_v {N : Nat → Nat → Nat} (hM : mt_MT N) {F : Nat → Nat} (h : ∀ j, j < 8 → F j < 3) (hs : mo_sum F 8 % 3 = 0) {t : Nat} (ht : t < 18) : ∀ S, mt_fsn F 7 < S → mo_m1 S N 32 (18 * mt_fsn F 7 + t) = mt_fsn (mk_co (t / 3) F (t % 3 + 1)) 7 := by
  intro S
  induction S with
  | zero => intro hS; omega
  | succ S ih =>
    intro hS
    rw [mo_m1]
    by_cases e : S = mt_fsn F 7
    · subst e
      rw [m1t_v _ _ 18 t ht]
      have h10 : ∀ k, k ≠ 36 → (mo_up (mo_rw (mt_fsn F 7) 7 (mo_m1 (mt_fsn F 7) N)) 36 7 ((24 - mo_s3 (mt_fsn F 7) 7) % 3)) k = (mo_m1 (mt_fsn F 7) N) k := by
        intro k hk
        funext j
        rw [mo_up_ne (Or.inl hk), mo_rw_k hk]
      have hM2 : mt_MT (mo_up (mo_rw (mt_fsn F 7) 7 (mo_m1 (mt_fsn F 7) N)) 36 7 ((24 - mo_s3 (mt_fsn F 7) 7) % 3)) := by
        intro t ht
        rw [h10 10 (by decide), h10 11 (by decide), h10 12 (by decide), h10 13 (by decide), mo_m1_k (k := 10) (by decide) (by decide), mo_m1_k (k := 11) (by decide) (by decide), mo_m1_k (k := 12) (by decide) (by decide), mo_m1_k (k := 13) (by decide) (by decide)]
        exact hM t ht
      refine nx2_fsn hM2 ht (F := F) (fun j hj => ?_) h 7 (Nat.le_refl _)
      by_cases e7 : j = 7
      · subst e7
        rw [s3_fsn h 7 (Nat.le_refl _)]
        simp only [mo_up]
        simp
        have hs' : (mo_sum F 7 + F 7) % 3 = 0 := hs
        have h7 := h 7 (by decide)
        have hle : mo_sum F 7 ≤ 7 * 2 := by
          have e : mo_sum F 7 = 0 + F 0 + F 1 + F 2 + F 3 + F 4 + F 5 + F 6 := rfl
          have := h 0 (by decide)
          have := h 1 (by decide)
          have := h 2 (by decide)
          have := h 3 (by decide)
          have := h 4 (by decide)
          have := h 5 (by decide)
          have := h 6 (by decide)
          omega
        omega
      · rw [mo_up_ne (Or.inr e7), mo_rw_v _ _ 7 j (by omega), d3_fsn h (by omega)]
    · rw [m1t_o _ _ (by omega), mo_up_ne (Or.inl (by decide)), mo_rw_k (by decide)]
      exact ih (by omega)
theorem m1_lt (N : Nat → Nat → Nat) : ∀ S j, j < 18 * S → mo_m1 S N 32 j < 2187 := by
  intro S
  induction S with
  | zero => intro j h; omega
  | succ S ih =>
    intro j h
    rw [mo_m1]
    by_cases c : j < 18 * S
    · rw [m1t_o _ _ c, mo_up_ne (Or.inl (by decide)), mo_rw_k (by decide)]
      exact ih j c
    · have e : j = 18 * S + (j - 18 * S) := by omega
      rw [e, m1t_v _ _ 18 _ (by omega)]
      exact mo_nx2_lt _ _ 7
theorem num_A {A B : Nat} (hAB : A ≠ B) (N : Nat → Nat → Nat) : ∀ M m, m < M → mo_on 12 m = 4 → mo_num A B M N A m = mo_cnt m := by
  intro M
  induction M with
  | zero => intro m h; omega
  | succ M ih =>
    intro m h h4
    rw [mo_num]
    by_cases e : m = M
    · subst e
      rw [if_pos h4, mo_up_ne (Or.inl hAB)]
      simp [mo_up]
    · split
      · rw [mo_up_ne (Or.inl hAB), mo_up_ne (Or.inr e)]; exact ih m (by omega) h4
      · exact ih m (by omega) h4
theorem cnt_s {m : Nat} (h4 : mo_on 12 m = 4) : mo_cnt (m + 1) = mo_cnt m + 1 := by rw [mo_cnt, if_pos h4]
theorem cnt_lt {m m' : Nat} (h : m < m') (h4 : mo_on 12 m = 4) : mo_cnt m < mo_cnt m' := by
  have := mo_cnt_mono (m + 1) m' h
  rw [cnt_s h4] at this
  omega
theorem cnt_inj {m m' : Nat} (h4 : mo_on 12 m = 4) (h4' : mo_on 12 m' = 4) (e : mo_cnt m = mo_cnt m') : m = m' := by
  rcases Nat.lt_trichotomy m m' with a | a | a
  · have := cnt_lt a h4; omega
  · exact a
  · have := cnt_lt a h4'; omega
theorem num_B {A B : Nat} (hAB : A ≠ B) (N : Nat → Nat → Nat) : ∀ M m, m < M → mo_on 12 m = 4 → mo_num A B M N B (mo_cnt m) = m := by
  intro M
  induction M with
  | zero => intro m h; omega
  | succ M ih =>
    intro m h h4
    rw [mo_num]
    by_cases e : m = M
    · subst e
      rw [if_pos h4]
      simp [mo_up]
    · by_cases c : mo_on 12 M = 4
      · rw [if_pos c, mo_up_ne (Or.inr (by have := cnt_lt (show m < M by omega) h4; omega)), mo_up_ne (Or.inl (fun q => hAB q.symm))]
        exact ih m (by omega) h4
      · rw [if_neg c]; exact ih m (by omega) h4
theorem num_A_lt {A B b : Nat} (hAB : A ≠ B) (N : Nat → Nat → Nat) (h0 : ∀ j, N A j < b) : ∀ M, mo_cnt M ≤ b → ∀ j, mo_num A B M N A j < b := by
  intro M
  induction M with
  | zero => intro _ j; exact h0 j
  | succ M ih =>
    intro hM j
    have hM' : mo_cnt M ≤ b := Nat.le_trans (mo_cnt_mono M (M + 1) (by omega)) hM
    rw [mo_num]
    by_cases c : mo_on 12 M = 4
    · rw [if_pos c, mo_up_ne (Or.inl hAB)]
      refine mo_up_lt (ih hM' j) (fun _ => ?_)
      rw [cnt_s c] at hM; omega
    · rw [if_neg c]; exact ih hM' j
theorem num_B_lt {A B b : Nat} (hAB : A ≠ B) (N : Nat → Nat → Nat) (h0 : ∀ j, N B j < b) : ∀ M, M ≤ b → ∀ j, mo_num A B M N B j < b := by
  intro M
  induction M with
  | zero => intro _ j; exact h0 j
  | succ M ih =>
    intro hM j
    rw [mo_num]
    by_cases c : mo_on 12 M = 4
    · rw [if_pos c]
      refine mo_up_lt ?_ (fun _ => by omega)
      rw [mo_up_ne (Or.inl (fun q => hAB q.symm))]
      exact ih (by omega) j
    · rw [if_neg c]; exact ih (by omega) j
theorem num_k {A B k : Nat} (h1 : k ≠ A) (h2 : k ≠ B) (N : Nat → Nat → Nat) : ∀ M, mo_num A B M N k = N k := by
  intro M
  induction M with
  | zero => rfl
  | succ M ih =>
    rw [mo_num]
    split
    · funext j; rw [mo_up_ne (Or.inl h2), mo_up_ne (Or.inl h1), ih]
    · exact ih
theorem on_fo {I : Nat → Nat} : ∀ n, (∀ p, p < n → I p < 2) → mo_on n (mt_fo I n) = mo_sum I n := by
  have sh : ∀ n (I : Nat → Nat), (∀ p, p < n + 1 → I p < 2) → mt_fo I (n + 1) % 2 = I 0 ∧ mt_fo I (n + 1) / 2 = mt_fo (fun p => I (p + 1)) n := by
    intro n I h
    refine ⟨?_, ?_⟩
    · have := fo_dig h (e := 0) (by omega)
      rw [Nat.pow_zero, Nat.div_one, Nat.and_one_is_mod] at this
      exact this
    · refine Nat.eq_of_testBit_eq (fun e => ?_)
      have h1 := fo_bit (n + 1) h (e + 1)
      have h2 := fo_bit n (F := fun p => I (p + 1)) (fun p hp => h (p + 1) (by omega)) e
      rw [Nat.testBit_succ] at h1
      have h3 : (mt_fo I (n + 1) / 2).testBit e = true ↔ (mt_fo (fun p => I (p + 1)) n).testBit e = true := by
        rw [h1, h2]
        exact ⟨fun q => ⟨by omega, q.2⟩, fun q => ⟨by omega, q.2⟩⟩
      cases a : (mt_fo I (n + 1) / 2).testBit e <;> cases b : (mt_fo (fun p => I (p + 1)) n).testBit e
      · rfl
      · rw [a, b] at h3; exact absurd (h3.mpr rfl) (by decide)
      · rw [a, b] at h3; exact absurd (h3.mp rfl) (by decide)
      · rfl
  have sm : ∀ n (I : Nat → Nat), mo_sum I (n + 1) = I 0 + mo_sum (fun p => I (p + 1)) n := by
    intro n
    induction n with
    | zero => intro I; rw [mo_sum, mo_sum, mo_sum]; omega
    | succ n ih => intro I; rw [mo_sum, ih I, mo_sum]; omega
  intro n
  induction n generalizing I with
  | zero => intro _; rfl
  | succ n ih =>
    intro h
    obtain ⟨e1, e2⟩ := sh n I h
    rw [mo_on, sm]
    split
    · next e0 =>
      have z : ∀ p, p < n + 1 → I p = 0 := fun p hp => by
        have := fo_dig h hp
        rw [e0, Nat.zero_div, Nat.zero_and] at this
        exact this.symm
      have : mo_sum (fun p => I (p + 1)) n = mo_sum (fun _ => 0) n := mo_sum_congr n (fun p hp => z (p + 1) (by omega))
      rw [z 0 (by omega), this]
      have zz : ∀ n, mo_sum (fun _ => 0) n = 0 := by
        intro n
        induction n with
        | zero => rfl
        | succ n ih => rw [mo_sum, ih]
      rw [zz]
    · rw [Nat.and_one_is_mod, e1, Nat.pow_one, e2, ih (fun p hp => h (p + 1) (by omega))]
theorem mk_fo {N : Nat → Nat → Nat} (hM : mt_MT N) {t : Nat} (ht : t < 18) {I : Nat → Nat} (h : ∀ p, p < 12 → I p < 2) : ∀ p, p ≤ 12 → mo_mk N (mt_fo I 12) t p = mt_fo (fun p => I (mk_ep (t / 3) (fun j => j) (t % 3 + 1) p)) p := by
  intro p
  induction p with
  | zero => intro _; rfl
  | succ p ih =>
    intro hp
    have he := (hM t ht).2 p (by omega)
    have le := mk_ep_lt (t / 3) (ep := fun j => j) (fun j hj => hj) (t % 3 + 1) p (by omega)
    rw [mo_mk, ih (by omega), he.1, fo_dig h le]
    rfl
