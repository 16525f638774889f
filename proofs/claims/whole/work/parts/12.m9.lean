/-- makeKinds -/
def mo_fk : Nat → (Nat → Nat → Nat) → Nat → Nat → Nat
  | 0, N => N
  | r + 1, N => mo_up (mo_up (mo_fk r N) 30 r 4294967295) 28 r 4294967295
/-- the row of square k, turned by t -/
def mo_sqR (N : Nat → Nat → Nat) (A k t : Nat) : Nat → Nat → Nat := mo_trow t (mo_unr 8 (N A k) N)
def mo_sqS (k t : Nat) (S : (Nat → Nat → Nat) × Nat) : (Nat → Nat → Nat) × Nat :=
  if 2 ^ 31 ≤ S.1 30 (mo_rk (mo_sqR S.1 31 k t 36) 8 8) then (mo_up (mo_up (mo_sqR S.1 31 k t) 30 (mo_rk (mo_sqR S.1 31 k t 36) 8 8) S.2) 31 S.2 (mo_rk (mo_sqR S.1 31 k t 36) 8 8), S.2 + 1) else (mo_sqR S.1 31 k t, S.2)
def mo_sqI (k : Nat) : Nat → (Nat → Nat → Nat) × Nat → (Nat → Nat → Nat) × Nat
  | 0, S => S
  | i + 1, S => mo_sqS k (1 + 3 * i) (mo_sqI k i S)
def mo_sq : Nat → (Nat → Nat → Nat) × Nat → (Nat → Nat → Nat) × Nat
  | 0, S => S
  | k + 1, S => mo_sqI k 6 (mo_sq k S)
/-- the kinds, by the first of each -/
def mo_kdS (r : Nat) (S : (Nat → Nat → Nat) × Nat) : (Nat → Nat → Nat) × Nat :=
  if 2 ^ 31 ≤ S.1 28 r then (mo_name r S.2 (mo_up S.1 29 S.2 r), S.2 + 1) else S
def mo_kd : Nat → (Nat → Nat → Nat) × Nat → (Nat → Nat → Nat) × Nat
  | 0, S => S
  | r + 1, S => mo_kdS r (mo_kd r S)
def mo_kinds0 (N : Nat → Nat → Nat) : Nat → Nat → Nat := mo_up (mo_up (mo_fk 40320 N) 30 0 0) 31 0 0
def mo_kinds (N : Nat → Nat → Nat) : (Nat → Nat → Nat) × Nat := mo_kd 40320 ((mo_sq 96 (mo_kinds0 N, 1)).1, 0)
theorem mo_sqR_k {k : Nat} (h1 : k ≠ 36) (h2 : k ≠ 37) (N : Nat → Nat → Nat) (A q t : Nat) : mo_sqR N A q t k = N k := by
  rw [mo_sqR, mo_trow_k h1 h2, mo_unr_k h1]
theorem mo_sqR_b (N : Nat → Nat → Nat) (A q t j : Nat) (hj : j < 8) (hf : N 10 (8 * t + j) < 8) : mo_sqR N A q t 36 j < 16 := by
  rw [mo_sqR, mo_trow_v _ _ _ hj (by rw [mo_unr_k (by decide)]; exact hf), mo_unr_k (k := 10) (by decide)]
  exact mo_unr_b 8 _ N hf
theorem mo_sqS_n (k t : Nat) (S : (Nat → Nat → Nat) × Nat) : S.2 ≤ (mo_sqS k t S).2 := by rw [mo_sqS]; split <;> simp
theorem mo_sqI_n (k : Nat) (S : (Nat → Nat → Nat) × Nat) : ∀ a b, a ≤ b → (mo_sqI k a S).2 ≤ (mo_sqI k b S).2 := by
  intro a b h
  induction b with
  | zero => rw [show a = 0 by omega]; exact Nat.le_refl _
  | succ b ih =>
    by_cases e : a = b + 1
    · rw [e]; exact Nat.le_refl _
    · exact Nat.le_trans (ih (by omega)) (mo_sqS_n k _ _)
theorem mo_sq_n (S : (Nat → Nat → Nat) × Nat) : ∀ a b, a ≤ b → (mo_sq a S).2 ≤ (mo_sq b S).2 := by
  intro a b h
  induction b with
  | zero => rw [show a = 0 by omega]; exact Nat.le_refl _
  | succ b ih =>
    by_cases e : a = b + 1
    · rw [e]; exact Nat.le_refl _
    · exact Nat.le_trans (ih (by omega)) (mo_sqI_n b _ 0 6 (by omega))
theorem mo_kd_n (S : (Nat → Nat → Nat) × Nat) : ∀ a b, a ≤ b → (mo_kd a S).2 ≤ (mo_kd b S).2 := by
  intro a b h
  induction b with
  | zero => rw [show a = 0 by omega]; exact Nat.le_refl _
  | succ b ih =>
    by_cases e : a = b + 1
    · rw [e]; exact Nat.le_refl _
    · refine Nat.le_trans (ih (by omega)) ?_
      rw [mo_kd, mo_kdS]; split <;> simp
/-- what the search of the squares keeps: the tables, small numbers -/
def mo_sqK (N M : Nat → Nat → Nat) : Prop := M 10 = N 10 ∧ (∀ j, j < 40320 → M 30 j < 2 ^ 32) ∧ (∀ j, j < 96 → M 31 j < 2 ^ 31) ∧ (∀ j, j < 40320 → M 28 j < 2 ^ 32)
theorem mo_sqS_K {N : Nat → Nat → Nat} {k t : Nat} {S : (Nat → Nat → Nat) × Nat} (h : mo_sqK N S.1) (hn : S.2 < 2 ^ 31) : mo_sqK N (mo_sqS k t S).1 := by
  have q : mo_sqK N (mo_sqR S.1 31 k t) := by
    refine ⟨by rw [mo_sqR_k (by decide) (by decide)]; exact h.1, ?_, ?_, ?_⟩
    · intro j hj; rw [mo_sqR_k (by decide) (by decide)]; exact h.2.1 j hj
    · intro j hj; rw [mo_sqR_k (by decide) (by decide)]; exact h.2.2.1 j hj
    · intro j hj; rw [mo_sqR_k (by decide) (by decide)]; exact h.2.2.2 j hj
  have hr := mo_rk_lt8 (mo_sqR S.1 31 k t 36)
  rw [mo_sqS]
  split
  · refine ⟨q.1, ?_, ?_, q.2.2.2⟩
    · intro j hj
      simp only [mo_up]
      have := q.2.1 j hj
      split
      · simp at *
      · simp only [if_true]; split <;> omega
    · intro j hj
      simp only [mo_up, if_true]
      have := q.2.2.1 j hj
      split
      · omega
      · simp only [show (31 : Nat) = 30 ↔ False by decide, if_false]; exact this
  · exact q
