def prm4 (P : Nat → Nat) : Prop := (∀ j, j < 4 → P j < 4) ∧ ∀ v, v < 4 → ∃ j, j < 4 ∧ P j = v
def unq4 (r : Nat) : Nat → Nat := mo_unr 4 r (fun _ _ => 0) 36
theorem rk_unr4 {r : Nat} (hr : r < 24) (N : Nat → Nat → Nat) : prm4 (mo_unr 4 r N 36) ∧ mo_rk (mo_unr 4 r N 36) 4 4 = r := by
  have hd : ∀ k, k < 4 → mo_ul r (4 - 1 - k) % (4 - k) ≤ 4 - 1 - k := fun k hk => by
    have := Nat.mod_lt (mo_ul r (4 - 1 - k)) (show 0 < 4 - k by omega)
    omega
  have h := UnI_all (n := 4) (by decide) (dd := fun k => mo_ul r (4 - 1 - k) % (4 - k)) hd (N := mo_u1 4 r 4 N) (fun i hi => u1_g 4 r N 4 (Nat.le_refl _) i (by omega) hi) 3 (by decide)
  rw [show 4 - 1 - 3 = 0 from rfl] at h
  have hR : mo_u2 4 3 (mo_u1 4 r 4 N) 36 = mo_unr 4 r N 36 := rfl
  rw [hR] at h
  obtain ⟨_, h2, h3, h4⟩ := h
  have hl : ∀ j, j < 4 → mo_unr 4 r N 36 j < 4 := fun j hj => h3 j (Nat.zero_le _) hj
  refine ⟨⟨hl, inj_surj hl (fun i j a b => h2 i j (Nat.zero_le _) a b)⟩, ?_⟩
  have key : ∀ k, k ≤ 4 → mo_rk (mo_unr 4 r N 36) 4 k = mo_ul r (4 - k) := by
    intro k
    induction k with
    | zero =>
      intro _
      have e : mo_ul r 4 = r / 1 / 2 / 3 / 4 := rfl
      show 0 = mo_ul r 4
      rw [e]; omega
    | succ k ih =>
      intro hk
      rw [mo_rk, ih (by omega), ls_EL, h4 k (Nat.zero_le _) (by omega), show 4 - k = (4 - 1 - k) + 1 by omega, mo_ul, show 4 - (k + 1) = 4 - 1 - k by omega]
      have := Nat.div_add_mod (mo_ul r (4 - 1 - k)) (4 - 1 - k + 1)
      rw [Nat.mul_comm] at this
      show _ + mo_ul r (4 - 1 - k) % (4 - k) = _
      rw [show 4 - k = 4 - 1 - k + 1 by omega]
      exact this
  rw [key 4 (Nat.le_refl _)]
  rfl
theorem unq4_N {r : Nat} (hr : r < 24) (N : Nat → Nat → Nat) : ∀ j, j < 4 → mo_unr 4 r N 36 j = unq4 r j := by
  have h1 := rk_unr4 hr N
  have h2 := rk_unr4 hr (fun _ _ => 0)
  exact rk_inj (by decide) h1.1.1 h1.1.2 h2.1.1 h2.1.2 (h1.2.trans h2.2.symm)
def mt_V4 (sl r f : Nat) : Nat := mo_rk (fun j => unq4 r (mk_ep f (fun j => j) 2 (4 * sl + j) - 4 * sl)) 4 4
theorem q4R_V4 {N : Nat → Nat → Nat} (hM : mt_MT N) {sl r f : Nat} (hs : sl < 3) (hr : r < 24) (hf : f < 6) : mo_rk (mo_q4R sl r f N 36) 4 4 = mt_V4 sl r f := by
  refine rk_cg (fun j hj => ?_) 4 (Nat.le_refl _)
  have e := ((hM (3 * f + 1) (by omega)).2 (4 * sl + j) (by omega)).1
  rw [show (3 * f + 1) / 3 = f by omega, show (3 * f + 1) % 3 + 1 = 2 by omega, ← Nat.add_assoc] at e
  have hb := mt_eb f hf (4 * sl + j) (by omega)
  rw [mo_q4R_v sl r f N j hj (by rw [e]; omega), e]
  exact unq4_N hr N _ (by omega)
theorem f4f_v {N : Nat → Nat → Nat} (hM : mt_MT N) {sl r : Nat} (hs : sl < 3) (hr : r < 24) : ∀ F f, F ≤ 6 → f < F → mo_f4f sl r F N 35 (6 * (24 * sl + r) + f) = mt_V4 sl r f := by
  intro F
  induction F with
  | zero => intro f _ h; omega
  | succ F ih =>
    intro f hF h
    have kk : ∀ a, a ≠ 35 → a ≠ 36 → a ≠ 37 → mo_f4f sl r F N a = N a := fun a b1 b2 b3 => mo_f4f_k b1 b2 b3 sl r N F
    have hM2 : mt_MT (mo_f4f sl r F N) := MT_of hM (kk 10 (by decide) (by decide) (by decide)) (kk 11 (by decide) (by decide) (by decide)) (kk 12 (by decide) (by decide) (by decide)) (kk 13 (by decide) (by decide) (by decide))
    rw [mo_f4f, q4R_V4 hM2 hs hr (by omega)]
    by_cases e : f = F
    · subst e; simp [mo_up]
    · rw [mo_up_ne (Or.inr (by omega)), mo_q4R_k (by decide) (by decide)]
      exact ih f (by omega) (by omega)
theorem f4f_o {N : Nat → Nat → Nat} {sl r j : Nat} (h : j < 6 * (24 * sl + r)) : ∀ F, mo_f4f sl r F N 35 j = N 35 j := by
  intro F
  induction F with
  | zero => rfl
  | succ F ih => rw [mo_f4f, mo_up_ne (Or.inr (by omega)), mo_q4R_k (by decide) (by decide)]; exact ih
theorem f4r_v {N : Nat → Nat → Nat} (hM : mt_MT N) {sl : Nat} (hs : sl < 3) : ∀ R r f, R ≤ 24 → r < R → f < 6 → mo_f4r sl R N 35 (6 * (24 * sl + r) + f) = mt_V4 sl r f := by
  intro R
  induction R with
  | zero => intro r f _ h; omega
  | succ R ih =>
    intro r f hR h hf
    have kk : ∀ a, a ≠ 35 → a ≠ 36 → a ≠ 37 → mo_f4r sl R N a = N a := fun a b1 b2 b3 => mo_f4r_k b1 b2 b3 sl N R
    have hM2 : mt_MT (mo_f4r sl R N) := MT_of hM (kk 10 (by decide) (by decide) (by decide)) (kk 11 (by decide) (by decide) (by decide)) (kk 12 (by decide) (by decide) (by decide)) (kk 13 (by decide) (by decide) (by decide))
    rw [mo_f4r]
    by_cases e : r = R
    · subst e; exact f4f_v hM2 hs (by omega) 6 f (Nat.le_refl _) hf
    · rw [f4f_o (by omega)]
      exact ih r f (by omega) (by omega) hf
theorem f4r_o {N : Nat → Nat → Nat} {sl j : Nat} (h : j < 6 * (24 * sl)) : ∀ R, mo_f4r sl R N 35 j = N 35 j := by
  intro R
  induction R with
  | zero => rfl
  | succ R ih => rw [mo_f4r, f4f_o (by omega)]; exact ih
theorem f4s_v {N : Nat → Nat → Nat} (hM : mt_MT N) : ∀ S sl r f, S ≤ 3 → sl < S → r < 24 → f < 6 → mo_f4s S N 35 (6 * (24 * sl + r) + f) = mt_V4 sl r f := by
  intro S
  induction S with
  | zero => intro sl r f _ h; omega
  | succ S ih =>
    intro sl r f hS h hr hf
    have kk : ∀ a, a ≠ 35 → a ≠ 36 → a ≠ 37 → mo_f4s S N a = N a := fun a b1 b2 b3 => mo_f4s_k b1 b2 b3 N S
    have hM2 : mt_MT (mo_f4s S N) := MT_of hM (kk 10 (by decide) (by decide) (by decide)) (kk 11 (by decide) (by decide) (by decide)) (kk 12 (by decide) (by decide) (by decide)) (kk 13 (by decide) (by decide) (by decide))
    rw [mo_f4s]
    by_cases e : sl = S
    · subst e; exact f4r_v hM2 (by omega) 24 r f (Nat.le_refl _) hr hf
    · rw [f4r_o (by omega)]
      exact ih sl r f (by omega) (by omega) hr hf
def mt_SF (N : Nat → Nat → Nat) : Prop := ∀ k, k < 96 → N 31 k = mt_SQL k ∧ N 30 (mt_SQL k) = k
theorem g4f_v {N : Nat → Nat → Nat} (hM : mt_MT N) (hS : mt_SF N) {k : Nat} (hk : k < 96) : ∀ F f, F ≤ 6 → f < F → mo_g4f k F N 35 (6 * (72 + k) + f) = mt_idq k f := by
  intro F
  induction F with
  | zero => intro f _ h; omega
  | succ F ih =>
    intro f hF h
    have kk : ∀ a, a ≠ 35 → a ≠ 36 → a ≠ 37 → mo_g4f k F N a = N a := fun a b1 b2 b3 => mo_g4f_k b1 b2 b3 k N F
    have hM2 : mt_MT (mo_g4f k F N) := MT_of hM (kk 10 (by decide) (by decide) (by decide)) (kk 11 (by decide) (by decide) (by decide)) (kk 12 (by decide) (by decide) (by decide)) (kk 13 (by decide) (by decide) (by decide))
    have q := (qck_s hk).2.2.2.2 F (by omega)
    have hr : mo_rk (mo_sqR (mo_g4f k F N) 31 k (3 * F + 1) 36) 8 8 = mt_SQL (mt_idq k F) := by
      refine rk_cg (fun j hj => ?_) 8 (Nat.le_refl _)
      rw [sqR_rk hM2 (t := 3 * F + 1) (by omega) (psq_prm hk) (by rw [kk 31 (by decide) (by decide) (by decide)]; exact (hS k hk).1) j hj, show (3 * F + 1) / 3 = F by omega, show (3 * F + 1) % 3 + 1 = 2 by omega]
      exact q.2 j hj
    rw [mo_g4f, hr, kk 30 (by decide) (by decide) (by decide), (hS _ q.1).2]
    by_cases e : f = F
    · subst e; simp [mo_up]
    · rw [mo_up_ne (Or.inr (by omega)), mo_sqR_k (by decide) (by decide)]
      exact ih f (by omega) (by omega)
theorem g4f_o {N : Nat → Nat → Nat} {k j : Nat} (h : j < 6 * (72 + k)) : ∀ F, mo_g4f k F N 35 j = N 35 j := by
  intro F
  induction F with
  | zero => rfl
  | succ F ih => rw [mo_g4f, mo_up_ne (Or.inr (by omega)), mo_sqR_k (by decide) (by decide)]; exact ih
theorem g4_v {N : Nat → Nat → Nat} (hM : mt_MT N) (hS : mt_SF N) : ∀ K k f, K ≤ 96 → k < K → f < 6 → mo_g4 K N 35 (6 * (72 + k) + f) = mt_idq k f := by
  intro K
  induction K with
  | zero => intro k f _ h; omega
  | succ K ih =>
    intro k f hK h hf
    have kk : ∀ a, a ≠ 35 → a ≠ 36 → a ≠ 37 → mo_g4 K N a = N a := fun a b1 b2 b3 => mo_g4_k b1 b2 b3 N K
    have hM2 : mt_MT (mo_g4 K N) := MT_of hM (kk 10 (by decide) (by decide) (by decide)) (kk 11 (by decide) (by decide) (by decide)) (kk 12 (by decide) (by decide) (by decide)) (kk 13 (by decide) (by decide) (by decide))
    have hS2 : mt_SF (mo_g4 K N) := fun k hk => by rw [kk 31 (by decide) (by decide) (by decide), kk 30 (by decide) (by decide) (by decide)]; exact hS k hk
    rw [mo_g4]
    by_cases e : k = K
    · subst e; exact g4f_v hM2 hS2 (by omega) 6 f (Nat.le_refl _) hf
    · rw [g4f_o (by omega)]
      exact ih k f (by omega) (by omega) hf
theorem g4_o {N : Nat → Nat → Nat} {j : Nat} (h : j < 432) : ∀ K, mo_g4 K N 35 j = N 35 j := by
  intro K
  induction K with
  | zero => rfl
  | succ K ih => rw [mo_g4, g4f_o (by omega)]; exact ih
theorem tabD_r {N : Nat → Nat → Nat} (hM : mt_MT N) {sl r f : Nat} (hs : sl < 3) (hr : r < 24) (hf : f < 6) : mo_tabD N 35 (6 * (24 * sl + r) + f) = mt_V4 sl r f := by
  rw [mo_tabD, g4_o (by omega)]
  exact f4s_v hM 3 sl r f (Nat.le_refl _) hs hr hf
theorem tabD_k {N : Nat → Nat → Nat} (hM : mt_MT N) (hS : mt_SF N) {k f : Nat} (hk : k < 96) (hf : f < 6) : mo_tabD N 35 (6 * (72 + k) + f) = mt_idq k f := by
  have kk : ∀ a, a ≠ 35 → a ≠ 36 → a ≠ 37 → mo_f4s 3 N a = N a := fun a b1 b2 b3 => mo_f4s_k b1 b2 b3 N 3
  rw [mo_tabD]
  exact g4_v (MT_of hM (kk 10 (by decide) (by decide) (by decide)) (kk 11 (by decide) (by decide) (by decide)) (kk 12 (by decide) (by decide) (by decide)) (kk 13 (by decide) (by decide) (by decide))) (fun k hk => by rw [kk 31 (by decide) (by decide) (by decide), kk 30 (by decide) (by decide) (by decide)]; exact hS k hk) 96 k f (Nat.le_refl _) hk hf
