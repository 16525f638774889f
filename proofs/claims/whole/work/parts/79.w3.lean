def mt_mti (n : Nat) : Bool := Nat.ble 216 n || (Nat.beq (mo_tab 12 n) (mk_ep (n / 12 / 3) (fun j => j) (n / 12 % 3 + 1) (n % 12)) && Nat.beq (mo_tab 13 n) (mk_eo (n / 12 / 3) (fun _ => 0) (n / 12 % 3 + 1) (n % 12)))
def mt_mtj (n : Nat) : Bool := Nat.ble 144 n || (Nat.beq (mo_tab 10 n) (mk_cp (n / 8 / 3) (fun j => j) (n / 8 % 3 + 1) (n % 8)) && Nat.beq (mo_tab 11 n) (mk_co (n / 8 / 3) (fun _ => 0) (n / 8 % 3 + 1) (n % 8)))
theorem mtj_0 : mt_chk mt_mtj 6 0 = true := by decide +kernel
theorem mtj_1 : mt_chk mt_mtj 6 64 = true := by decide +kernel
theorem mtj_2 : mt_chk mt_mtj 6 128 = true := by decide +kernel
theorem mti_0 : mt_chk mt_mti 6 0 = true := by decide +kernel
theorem mti_1 : mt_chk mt_mti 6 64 = true := by decide +kernel
theorem mti_2 : mt_chk mt_mti 6 128 = true := by decide +kernel
theorem mti_3 : mt_chk mt_mti 6 192 = true := by decide +kernel
theorem mtj_s {n : Nat} (h : n < 144) : mt_mtj n = true := by
  rcases (show n < 64 ∨ (64 ≤ n ∧ n < 128) ∨ 128 ≤ n by omega) with w | w | w
  · exact chk_s mtj_0 n (Nat.zero_le _) (by simp; omega)
  · exact chk_s mtj_1 n w.1 (by simp; omega)
  · exact chk_s mtj_2 n w (by simp; omega)
theorem mti_s {n : Nat} (h : n < 216) : mt_mti n = true := by
  rcases (show n < 64 ∨ (64 ≤ n ∧ n < 128) ∨ (128 ≤ n ∧ n < 192) ∨ 192 ≤ n by omega) with w | w | w | w
  · exact chk_s mti_0 n (Nat.zero_le _) (by simp; omega)
  · exact chk_s mti_1 n w.1 (by simp; omega)
  · exact chk_s mti_2 n w.1 (by simp; omega)
  · exact chk_s mti_3 n w (by simp; omega)
theorem MT_tab : mt_MT mo_tab := by
  intro t ht
  refine ⟨fun j hj => ?_, fun j hj => ?_⟩
  · have h := mtj_s (n := 8 * t + j) (by omega)
    rw [mt_mtj, Bool.or_eq_true] at h
    rcases h with h | h
    · exact absurd (Nat.le_of_ble_eq_true h) (by omega)
    · rw [Bool.and_eq_true, show (8 * t + j) / 8 = t by omega, show (8 * t + j) % 8 = j by omega] at h
      exact ⟨Nat.eq_of_beq_eq_true h.1, Nat.eq_of_beq_eq_true h.2⟩
  · have h := mti_s (n := 12 * t + j) (by omega)
    rw [mt_mti, Bool.or_eq_true] at h
    rcases h with h | h
    · exact absurd (Nat.le_of_ble_eq_true h) (by omega)
    · rw [Bool.and_eq_true, show (12 * t + j) / 12 = t by omega, show (12 * t + j) % 12 = j by omega] at h
      exact ⟨Nat.eq_of_beq_eq_true h.1, Nat.eq_of_beq_eq_true h.2⟩
theorem bh_k {k : Nat} (h0 : k ≠ 0) (h1 : k ≠ 1) (h2 : k ≠ 2) (h3 : k ≠ 3) (N : Nat → Nat → Nat) : ∀ p, mo_bh p N k = N k := by
  intro p
  induction p with
  | zero => rfl
  | succ p ih =>
    rw [mo_bh, mo_bhS]
    split
    · funext j; rw [mo_up_ne (Or.inl h1), mo_up_ne (Or.inl h0), mo_up_ne (Or.inl h3), mo_up_ne (Or.inl h2), ih]
    · funext j; rw [mo_up_ne (Or.inl h3), mo_up_ne (Or.inl h2), ih]
theorem MT_init : mt_MT mo_init := MT_of MT_tab (bh_k (by decide) (by decide) (by decide) (by decide) mo_tab 12) (bh_k (by decide) (by decide) (by decide) (by decide) mo_tab 12) (bh_k (by decide) (by decide) (by decide) (by decide) mo_tab 12) (bh_k (by decide) (by decide) (by decide) (by decide) mo_tab 12)
