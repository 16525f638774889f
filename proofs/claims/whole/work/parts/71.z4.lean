theorem sum_sh : ∀ n (I : Nat → Nat), mo_sum I (n + 1) = I 0 + mo_sum (fun p => I (p + 1)) n := by
  intro n
  induction n with
  | zero => intro I; rw [mo_sum, mo_sum, mo_sum]; omega
  | succ n ih => intro I; rw [mo_sum, ih I, mo_sum]; omega
theorem sum_mono {f g : Nat → Nat} : ∀ n, (∀ j, j < n → f j ≤ g j) → mo_sum f n ≤ mo_sum g n
  | 0, _ => Nat.le_refl _
  | n + 1, h => by
    have := sum_mono n (fun j hj => h j (by omega))
    have := h n (by omega)
    rw [mo_sum, mo_sum]; omega
theorem sum_strict {f g : Nat → Nat} {i : Nat} : ∀ n, i < n → (∀ j, j < n → f j ≤ g j) → f i < g i → mo_sum f n < mo_sum g n
  | 0, hi, _, _ => absurd hi (by omega)
  | n + 1, hi, h, hs => by
    rw [mo_sum, mo_sum]
    by_cases e : i = n
    · subst e
      have := sum_mono i (fun j hj => h j (by omega))
      omega
    · have := sum_strict n (by omega) (fun j hj => h j (by omega)) hs
      have := h n (by omega)
      omega
def mt_EL (f : Nat → Nat) (n k i : Nat) : Nat := mo_sum (fun t => if f (k + t) < f i then 1 else 0) (n - k)
theorem EL_s (f : Nat → Nat) {n k : Nat} (hk : k < n) (i : Nat) : mt_EL f n k i = (if f k < f i then 1 else 0) + mt_EL f n (k + 1) i := by
  rw [mt_EL, show n - k = (n - (k + 1)) + 1 by omega, sum_sh, mt_EL]
  rw [mo_sum_congr (g := fun t => if f (k + 1 + t) < f i then 1 else 0) _ (fun t _ => by rw [show k + (t + 1) = k + 1 + t by omega])]
  rfl
theorem EL_self (f : Nat → Nat) {n k : Nat} (hk : k < n) : mt_EL f n k k = mt_EL f n (k + 1) k := by
  rw [EL_s f hk, if_neg (Nat.lt_irrefl _), Nat.zero_add]
theorem ls_EL (f : Nat → Nat) (n k : Nat) : mo_ls f k (n - (k + 1)) = mt_EL f n (k + 1) k := by
  have : ∀ t, mo_ls f k t = mo_sum (fun t => if f (k + 1 + t) < f k then 1 else 0) t := by
    intro t
    induction t with
    | zero => rfl
    | succ t ih => rw [mo_ls, mo_sum, ih]
  rw [this]; rfl
theorem EL_le (f : Nat → Nat) (n k i : Nat) : mt_EL f n k i ≤ n - k := by
  rw [mt_EL]
  have h := sum_mono (f := fun t => if f (k + t) < f i then 1 else 0) (g := fun _ => 1) (n - k) (fun j _ => by split <;> decide)
  have : ∀ m, mo_sum (fun _ => 1) m = m := by
    intro m
    induction m with
    | zero => rfl
    | succ m ih => rw [mo_sum, ih]
  rw [this] at h
  exact h
theorem EL_cmp {f : Nat → Nat} {n k i : Nat} (inj : ∀ a b, a < n → b < n → f a = f b → a = b) (hk : k < i) (hi : i < n) : mt_EL f n (k + 1) i < mt_EL f n (k + 1) k ↔ ¬ f k < f i := by
  constructor
  · intro h c
    have := sum_mono (f := fun t => if f (k + 1 + t) < f k then 1 else 0) (g := fun t => if f (k + 1 + t) < f i then 1 else 0) (n - (k + 1)) (fun j _ => by
      by_cases q : f (k + 1 + j) < f k
      · rw [if_pos q, if_pos (by omega)]; exact Nat.le_refl _
      · rw [if_neg q]; exact Nat.zero_le _)
    rw [mt_EL, mt_EL] at h
    omega
  · intro c
    have hne : f i ≠ f k := fun e => by have := inj i k hi (by omega) e; omega
    rw [mt_EL, mt_EL]
    refine sum_strict (i := i - (k + 1)) _ (by omega) (fun j _ => ?_) ?_
    · by_cases q : f (k + 1 + j) < f i
      · rw [if_pos q, if_pos (by omega)]; exact Nat.le_refl _
      · rw [if_neg q]; exact Nat.zero_le _
    · rw [show k + 1 + (i - (k + 1)) = i by omega, if_neg (Nat.lt_irrefl _), if_pos (by omega)]
      decide
theorem ul_rk (f : Nat → Nat) (n : Nat) : ∀ t, t ≤ n → mo_ul (mo_rk f n n) t = mo_rk f n (n - t) := by
  intro t
  induction t with
  | zero => intro _; rfl
  | succ t ih =>
    intro ht
    have hle := EL_le f n (n - (t + 1) + 1) (n - (t + 1))
    rw [mo_ul, ih (by omega), show n - t = (n - (t + 1)) + 1 by omega, mo_rk, ls_EL, show n - (n - (t + 1)) = t + 1 by omega, Nat.mul_comm, Nat.mul_add_div (by omega), Nat.div_eq_of_lt (by omega), Nat.add_zero]
theorem dg_rk (f : Nat → Nat) {n t : Nat} (ht : t < n) : mo_ul (mo_rk f n n) t % (t + 1) = mt_EL f n (n - 1 - t + 1) (n - 1 - t) := by
  have hle := EL_le f n (n - 1 - t + 1) (n - 1 - t)
  rw [ul_rk f n t (by omega), show n - t = (n - 1 - t) + 1 by omega, mo_rk, ls_EL, show n - (n - 1 - t) = t + 1 by omega, Nat.mul_comm, Nat.mul_add_mod, Nat.mod_eq_of_lt (by omega)]
theorem u1_rk (f : Nat → Nat) (n : Nat) (N : Nat → Nat → Nat) : ∀ t, t ≤ n → ∀ i, n - t ≤ i → i < n → mo_u1 n (mo_rk f n n) t N 36 i = mt_EL f n (i + 1) i := by
  intro t
  induction t with
  | zero => intro _ i h1 h2; omega
  | succ t ih =>
    intro ht i h1 h2
    rw [mo_u1]
    by_cases e : i = n - 1 - t
    · subst e
      rw [dg_rk f (by omega)]
      simp [mo_up]
    · rw [mo_up_ne (Or.inr e)]
      exact ih (by omega) i (by omega) h2
theorem u2i_v {f : Nat → Nat} {n k : Nat} (inj : ∀ a b, a < n → b < n → f a = f b → a = b) (hkn : k < n) {N : Nat → Nat → Nat} (hk : N 36 k = mt_EL f n (k + 1) k) (hi : ∀ i, k < i → i < n → N 36 i = mt_EL f n (k + 1) i) : ∀ s, k + 1 + s ≤ n → (∀ i, i < k + 1 → mo_u2i k s N 36 i = N 36 i) ∧ (∀ i, k < i → i < k + 1 + s → mo_u2i k s N 36 i = mt_EL f n k i) ∧ ∀ i, k + 1 + s ≤ i → mo_u2i k s N 36 i = N 36 i := by
  intro s
  induction s with
  | zero => intro _; exact ⟨fun i _ => rfl, fun i h1 h2 => by omega, fun i _ => rfl⟩
  | succ s ih =>
    intro hs
    obtain ⟨a1, a2, a3⟩ := ih (by omega)
    rw [mo_u2i]
    refine ⟨fun i h => ?_, fun i h1 h2 => ?_, fun i h => ?_⟩
    · rw [mo_up_ne (Or.inr (by omega))]; exact a1 i h
    · by_cases e : i = k + 1 + s
      · subst e
        have b1 := a3 (k + 1 + s) (Nat.le_refl _)
        have b2 := a1 k (by omega)
        have b3 := hi (k + 1 + s) (by omega) (by omega)
        simp only [mo_up]
        simp only [if_true]
        rw [b1, b2, b3, hk, EL_s f hkn]
        have c := EL_cmp inj (show k < k + 1 + s by omega) (show k + 1 + s < n by omega)
        by_cases q : f k < f (k + 1 + s)
        · rw [if_pos q, if_neg (fun w => (c.mp w) q)]; omega
        · rw [if_neg q, if_pos (c.mpr q)]; omega
      · rw [mo_up_ne (Or.inr e)]; exact a2 i h1 (by omega)
    · rw [mo_up_ne (Or.inr (by omega))]; exact a3 i (by omega)
theorem u2_v {f : Nat → Nat} {n : Nat} (hn : 0 < n) (inj : ∀ a b, a < n → b < n → f a = f b → a = b) {N : Nat → Nat → Nat} (h : ∀ i, i < n → N 36 i = mt_EL f n (i + 1) i) : ∀ t, t ≤ n - 1 → (∀ i, i < n - 1 - t → mo_u2 n t N 36 i = mt_EL f n (i + 1) i) ∧ ∀ i, n - 1 - t ≤ i → i < n → mo_u2 n t N 36 i = mt_EL f n (n - 1 - t) i := by
  intro t
  induction t with
  | zero =>
    intro _
    refine ⟨fun i hi => h i (by omega), fun i h1 h2 => ?_⟩
    have e : i = n - 1 := by omega
    rw [mo_u2, h i h2, e, Nat.sub_zero, EL_self f (by omega)]
  | succ t ih =>
    intro ht
    obtain ⟨a1, a2⟩ := ih (by omega)
    have e1 : n - 1 - 1 - t + 1 = n - 1 - t := by omega
    have key := u2i_v inj (k := n - 1 - 1 - t) (by omega) (N := mo_u2 n t N) (a1 _ (by omega)) (fun i h1 h2 => by rw [e1]; exact a2 i (by omega) h2) (t + 1) (by omega)
    rw [mo_u2]
    refine ⟨fun i hi => by rw [key.1 i (by omega)]; exact a1 i (by omega), fun i h1 h2 => ?_⟩
    rw [show n - 1 - (t + 1) = n - 1 - 1 - t by omega] at h1 ⊢
    by_cases e : i = n - 1 - 1 - t
    · rw [e, key.1 _ (by omega), a1 _ (by omega), EL_self f (by omega)]
    · exact key.2.1 i (by omega) (by omega)
theorem EL_all {f : Nat → Nat} {n : Nat} (hs : ∀ v, v < n → ∃ j, j < n ∧ f j = v) {i : Nat} (hl : f i < n) : mt_EL f n 0 i = f i := by
  have h1 : mt_EL f n 0 i = mo_sum (fun j => (fun v => if v < f i then 1 else 0) (f j)) n := by
    rw [mt_EL, Nat.sub_zero]
    exact mo_sum_congr n (fun j _ => by rw [Nat.zero_add])
  rw [h1, sum_perm n f (fun v => if v < f i then 1 else 0) hs]
  have : ∀ m, mo_sum (fun v => if v < f i then 1 else 0) m = if m < f i then m else f i := by
    intro m
    induction m with
    | zero => rw [mo_sum]; split <;> omega
    | succ m ih => rw [mo_sum, ih]; split <;> split <;> omega
  rw [this, if_neg (by omega)]
theorem unr_rk {f : Nat → Nat} {n : Nat} (hn : 0 < n) (hl : ∀ j, j < n → f j < n) (hs : ∀ v, v < n → ∃ j, j < n ∧ f j = v) (N : Nat → Nat → Nat) : ∀ j, j < n → mo_unr n (mo_rk f n n) N 36 j = f j := by
  intro j hj
  have inj := surj_inj hs
  have h1 := u1_rk f n N n (Nat.le_refl _)
  have h2 := (u2_v hn inj (N := mo_u1 n (mo_rk f n n) n N) (fun i hi => h1 i (by omega) hi) (n - 1) (Nat.le_refl _)).2 j (by omega) hj
  rw [mo_unr, h2, show n - 1 - (n - 1) = 0 by omega]
  exact EL_all hs (hl j hj)
theorem rk_cg {f g : Nat → Nat} {n : Nat} (h : ∀ j, j < n → f j = g j) : ∀ k, k ≤ n → mo_rk f n k = mo_rk g n k := by
  intro k
  induction k with
  | zero => intro _; rfl
  | succ k ih =>
    intro hk
    have : ∀ t, k + 1 + t ≤ n → mo_ls f k t = mo_ls g k t := by
      intro t
      induction t with
      | zero => intro _; rfl
      | succ t iht => intro ht; rw [mo_ls, mo_ls, iht (by omega), h (k + 1 + t) (by omega), h k (by omega)]
    rw [mo_rk, mo_rk, ih (by omega), this _ (by omega)]
theorem rk_inj {f g : Nat → Nat} {n : Nat} (hn : 0 < n) (hl : ∀ j, j < n → f j < n) (hs : ∀ v, v < n → ∃ j, j < n ∧ f j = v) (hl' : ∀ j, j < n → g j < n) (hs' : ∀ v, v < n → ∃ j, j < n ∧ g j = v) (e : mo_rk f n n = mo_rk g n n) : ∀ j, j < n → f j = g j := by
  intro j hj
  rw [← unr_rk hn hl hs (fun _ _ => 0) j hj, e, unr_rk hn hl' hs' (fun _ _ => 0) j hj]
