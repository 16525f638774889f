def mt_fo (F : Nat → Nat) : Nat → Nat
  | 0 => 0
  | p + 1 => mt_fo F p ||| F p * 2 ^ p
theorem f0_fo (N : Nat → Nat → Nat) : ∀ p, mo_f0 N p = mt_fo (N 7) p
  | 0 => rfl
  | p + 1 => by rw [mo_f0, mt_fo, f0_fo N p]
theorem fo_lt {F : Nat → Nat} : ∀ n, (∀ p, p < n → F p < 2) → mt_fo F n < 2 ^ n
  | 0, _ => by rw [mt_fo]; decide
  | n + 1, h => by
    have h1 := fo_lt n (fun p hp => h p (by omega))
    have h2 := h n (by omega)
    rw [mt_fo]
    refine Nat.or_lt_two_pow (Nat.lt_of_lt_of_le h1 (Nat.pow_le_pow_right (by decide) (by omega))) ?_
    calc F n * 2 ^ n ≤ 1 * 2 ^ n := Nat.mul_le_mul_right _ (by omega)
      _ < 2 ^ (n + 1) := by rw [Nat.one_mul]; exact Nat.pow_lt_pow_right (by decide) (by omega)
theorem fo_bit {F : Nat → Nat} : ∀ n, (∀ p, p < n → F p < 2) → ∀ e, (mt_fo F n).testBit e = true ↔ e < n ∧ F e = 1 := by
  intro n
  induction n with
  | zero => intro _ e; rw [mt_fo]; simp
  | succ n ih =>
    intro h e
    have ih' := ih (fun p hp => h p (by omega)) e
    have h2 := h n (by omega)
    rw [mt_fo, Nat.testBit_or, Bool.or_eq_true, ih']
    have hb : (F n * 2 ^ n).testBit e = true ↔ e = n ∧ F n = 1 := by
      rcases (show F n = 0 ∨ F n = 1 by omega) with q | q
      · rw [q, Nat.zero_mul, Nat.zero_testBit]
        exact ⟨fun w => absurd w (by decide), fun w => absurd w.2 (by decide)⟩
      · rw [q, Nat.one_mul, Nat.testBit_two_pow, decide_eq_true_eq]
        exact ⟨fun w => ⟨w.symm, rfl⟩, fun w => w.1.symm⟩
    rw [hb]
    constructor
    · rintro (⟨a, b⟩ | ⟨a, b⟩)
      · exact ⟨by omega, b⟩
      · subst a; exact ⟨by omega, b⟩
    · rintro ⟨a, b⟩
      by_cases q : e = n
      · subst q; exact Or.inr ⟨rfl, b⟩
      · exact Or.inl ⟨by omega, b⟩
theorem fo_dig {F : Nat → Nat} {n : Nat} (h : ∀ p, p < n → F p < 2) {e : Nat} (he : e < n) : (mt_fo F n / 2 ^ e &&& 1) = F e := by
  have hb := fo_bit n h e
  have h2 := h e he
  by_cases c : F e = 1
  · have : (mt_fo F n).testBit e = true := hb.mpr ⟨he, c⟩
    have q : ¬ (mt_fo F n / 2 ^ e &&& 1) = 0 := fun w => by rw [(div_bit _ _).mp w] at this; exact absurd this (by decide)
    have q2 : (mt_fo F n / 2 ^ e &&& 1) ≤ 1 := Nat.and_le_right
    omega
  · have : (mt_fo F n).testBit e = false := by
      cases w : (mt_fo F n).testBit e with
      | false => rfl
      | true => exact absurd (hb.mp w).2 c
    rw [(div_bit _ _).mpr this]
    omega
theorem fo_cg {F F' : Nat → Nat} : ∀ n, (∀ p, p < n → F p = F' p) → mt_fo F n = mt_fo F' n
  | 0, _ => rfl
  | n + 1, h => by rw [mt_fo, mt_fo, fo_cg n (fun p hp => h p (by omega)), h n (by omega)]
theorem nx1_fo {N : Nat → Nat → Nat} (hM : mt_MT N) {t : Nat} (ht : t < 18) {F : Nat → Nat} (h : ∀ p, p < 12 → F p < 2) : ∀ p, p ≤ 12 → mo_nx1 N (mt_fo F 12) t p = mt_fo (mk_eo (t / 3) F (t % 3 + 1)) p := by
  intro p
  induction p with
  | zero => intro _; rfl
  | succ p ih =>
    intro hp
    have he := (hM t ht).2 p (by omega)
    have le := mk_ep_lt (t / 3) (ep := fun j => j) (fun j hj => hj) (t % 3 + 1) p (by omega)
    rw [mo_nx1, ih (by omega), he.1, he.2, fo_dig h le, xor_b _ (h _ le) _ (mk_eo_lt (t / 3) (eo := fun _ => 0) (fun _ _ => Nat.succ_pos 1) _ p (by omega))]
    show _ = mt_fo (mk_eo (t / 3) F (t % 3 + 1)) p ||| mk_eo (t / 3) F (t % 3 + 1) p * 2 ^ p
    rw [mk_eo_nf (t / 3) h _ p (by omega)]
def mt_hmQ : Q4 := ((fun j => j), (fun _ => 0), (fun j => j), fun _ => 0)
theorem Lw_hm : mt_Lw mt_hmQ := ⟨⟨fun _ h => h, fun _ _ => Nat.succ_pos 2, fun _ h => h, fun _ _ => Nat.succ_pos 1⟩, fun v hv => ⟨v, hv, rfl⟩, fun v hv => ⟨v, hv, rfl⟩, by decide, by decide, by decide⟩
theorem inv2 {fwq : Nat} {C : Q4 → Prop} (hb : ∀ a, C a → QB a) : ∀ a t, C a → t < 18 → mt_alq fwq t → ∃ t', t' < 18 ∧ mt_alq fwq t' ∧ mkQ t' (mkQ t a) = a ∧ mkQ t (mkQ t' a) = a := by
  intro a t ha ht hal
  unfold mt_alq at hal ⊢
  refine ⟨3 * (t / 3) + (2 - t % 3), by omega, by omega, mkQ_inv ht (hb a ha), ?_⟩
  have := mkQ_inv (t := 3 * (t / 3) + (2 - t % 3)) (by omega) (hb a ha)
  rw [show 3 * ((3 * (t / 3) + (2 - t % 3)) / 3) + (2 - (3 * (t / 3) + (2 - t % 3)) % 3) = t by omega] at this
  exact this
theorem bfLev_0 {nx : Nat → Nat → Nat} {al : Nat → Nat} {T n z : Nat} {g : Nat → Nat} : bfLev nx al T n z (up1 (fl1 100 g n) z 0) 0 := by
  refine ⟨fun k hk => ?_, fun k hk m hm => ?_⟩
  · simp only [up1, fl1]
    by_cases e : k = z
    · rw [if_pos e]; exact Or.inr (Nat.le_refl _)
    · rw [if_neg e, if_pos hk]; exact Or.inl rfl
  · rw [show m = 0 by omega]
    show k = z ↔ _
    simp only [up1, fl1]
    by_cases e : k = z
    · rw [if_pos e]; exact ⟨fun _ => Nat.le_refl _, fun _ => e⟩
    · rw [if_neg e, if_pos hk]; exact ⟨fun q => absurd q e, fun q => absurd q (by decide)⟩
theorem fo_0 {F : Nat → Nat} (h : ∀ p, p < 12 → F p < 2) : mt_fo F 12 = 0 ↔ ∀ p, p < 12 → F p = 0 := by
  constructor
  · intro h0 p hp
    have := fo_dig h hp
    rw [h0, Nat.zero_div, Nat.zero_and] at this
    exact this.symm
  · intro h0
    rw [fo_cg (F' := fun _ => 0) 12 h0]
    decide
theorem G0_fo {q : Q4} (h : mt_Lw q) : mt_fo q.2.2.2 12 = 0 ↔ mt_G0 q := by
  rw [fo_0 h.1.2.2.2]
  constructor
  · intro h0
    exact (sv_0 (sz := sz0) (y := mt_x0 q) 1 sz0_pos).mpr (fun i _ => (mr_0 2 (by decide) 11).mpr (fun j hj => h0 j (by omega)))
  · intro h0 p hp
    have h1 := (mr_0 2 (by decide) 11).mp (show mr_ 2 q.2.2.2 11 = 0 from mt_d0 h0 0 (by decide))
    by_cases e : p < 11
    · exact h1 p e
    · have hs := h.2.2.2.2.1
      rw [sumE_x] at hs
      have h2 := h.1.2.2.2 11 (by decide)
      rw [h1 0 (by decide), h1 1 (by decide), h1 2 (by decide), h1 3 (by decide), h1 4 (by decide), h1 5 (by decide), h1 6 (by decide), h1 7 (by decide), h1 8 (by decide), h1 9 (by decide), h1 10 (by decide)] at hs
      rw [show p = 11 by omega]
      omega
theorem RsH0 {N : Nat → Nat → Nat} (hM : mt_MT N) : mt_RsH mt_Lw mt_G0 (mt_alq 6) bf_one (fun s t => mo_nx1 N s t 12) 18 4096 0 (fun q => mt_fo q.2.2.2 12) (fun i => i) :=
  ⟨fun a t ha ht _ => Lw_mk ht ha, inv2 (fun a h => h.1), fun i hi _ => ⟨hi, Or.inl (show i / 3 < 6 by omega)⟩, fun t ht _ => ⟨t, ht, Nat.one_ne_zero, rfl⟩, fun a i ha hi _ => (nx1_fo hM hi ha.1.2.2.2 12 (Nat.le_refl _)).symm, fun a ha => fo_lt 12 ha.1.2.2.2, fun a ha => G0_fo ha, mt_hmQ, Lw_hm, by decide⟩
theorem near1_d {N : Nat → Nat → Nat} (hM : mt_MT N) : ∃ E, E < 99 ∧ (mo_near1 N E).2 = 0 ∧ (∀ d, d < E → (mo_near1 N d).2 ≠ 0) ∧ ∀ q, mt_Lw q → mt_RQ mt_G0 mkQ (mt_alq 6) ((mo_near1 N E).1 (mt_fo q.2.2.2 12)) q ∧ ∀ m, m < (mo_near1 N E).1 (mt_fo q.2.2.2 12) → ¬ mt_RQ mt_G0 mkQ (mt_alq 6) m q :=
  bf_dist (RsH0 hM) (fun a h => mt_dm0 h) (a := mo_near1 N) rfl bfLev_0 (fun d hd hL => bfW_r1 (T := 18) rfl hd hL (fun k t _ ht _ => mo_nx1_lt N k t (fun j hj => by
    have := ((hM (j / 12) (by omega)).2 (j % 12) (by omega)).2
    rw [show 12 * (j / 12) + j % 12 = j by omega] at this
    rw [this]
    exact mk_eo_lt _ (eo := fun _ => 0) (fun _ _ => Nat.succ_pos 1) _ _ (by omega)) ht 12 (Nat.le_refl _)) 4096 (Nat.le_refl _))
