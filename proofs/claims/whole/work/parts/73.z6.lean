theorem inj_surj {m : Nat} {g : Nat → Nat} (hl : ∀ i, i < m → g i < m) (hi : ∀ i j, i < j → j < m → g i ≠ g j) : ∀ v, v < m → ∃ i, i < m ∧ g i = v := by
  classical
  intro v hv
  by_cases c : ∃ i, i < m ∧ g i = v
  · exact c
  · have h1 := mt_pig (m - 1) (fun a => if a < v then a else a + 1) ((List.range m).map g) (nodup_map hi) (fun x hx => by
      rw [List.mem_map] at hx
      obtain ⟨i, him, rfl⟩ := hx
      have him := List.mem_range.mp him
      have hlt := hl i him
      have hne : g i ≠ v := fun e => c ⟨i, him, e⟩
      by_cases w : g i < v
      · exact ⟨g i, by omega, by simp [w]⟩
      · refine ⟨g i - 1, by omega, ?_⟩
        rw [if_neg (by omega)]
        omega)
    rw [List.length_map, List.length_range] at h1
    omega
theorem sum_lt_v (d : Nat) : ∀ m, mo_sum (fun v => if v < d then 1 else 0) m = if m < d then m else d := by
  intro m
  induction m with
  | zero => rw [mo_sum]; split <;> omega
  | succ m ih => rw [mo_sum, ih]; split <;> split <;> omega
theorem u2i_g (k : Nat) (N : Nat → Nat → Nat) : ∀ s, (∀ i, i < k + 1 → mo_u2i k s N 36 i = N 36 i) ∧ (∀ i, k < i → i < k + 1 + s → mo_u2i k s N 36 i = N 36 i + (if N 36 i < N 36 k then 0 else 1)) ∧ ∀ i, k + 1 + s ≤ i → mo_u2i k s N 36 i = N 36 i := by
  intro s
  induction s with
  | zero => exact ⟨fun i _ => rfl, fun i h1 h2 => by omega, fun i _ => rfl⟩
  | succ s ih =>
    obtain ⟨a1, a2, a3⟩ := ih
    rw [mo_u2i]
    refine ⟨fun i h => ?_, fun i h1 h2 => ?_, fun i h => ?_⟩
    · rw [mo_up_ne (Or.inr (by omega))]; exact a1 i h
    · by_cases e : i = k + 1 + s
      · subst e
        simp only [mo_up]
        simp only [if_true]
        rw [a3 (k + 1 + s) (Nat.le_refl _), a1 k (by omega)]
      · rw [mo_up_ne (Or.inr e)]; exact a2 i h1 (by omega)
    · rw [mo_up_ne (Or.inr (by omega))]; exact a3 i (by omega)
def mt_UnI (n : Nat) (dd R : Nat → Nat) (k : Nat) : Prop := (∀ i, i < k → R i = dd i) ∧ (∀ i j, k ≤ i → i < j → j < n → R i ≠ R j) ∧ (∀ i, k ≤ i → i < n → R i < n - k) ∧ ∀ i, k ≤ i → i < n → mt_EL R n (i + 1) i = dd i
theorem UnI_s {n k : Nat} {dd : Nat → Nat} (hd : dd k ≤ n - 1 - k) (hk : k + 1 < n) {N : Nat → Nat → Nat} (h : mt_UnI n dd (N 36) (k + 1)) : mt_UnI n dd (mo_u2i k (n - 1 - k) N 36) k := by
  obtain ⟨h1, h2, h3, h4⟩ := h
  obtain ⟨a1, a2, a3⟩ := u2i_g k N (n - 1 - k)
  have ek : N 36 k = dd k := h1 k (by omega)
  have vk : mo_u2i k (n - 1 - k) N 36 k = dd k := by rw [a1 k (by omega)]; exact ek
  have vi : ∀ i, k < i → i < n → mo_u2i k (n - 1 - k) N 36 i = N 36 i + (if N 36 i < dd k then 0 else 1) := fun i b1 b2 => by rw [a2 i b1 (by omega), ek]
  have sur := inj_surj (m := n - (k + 1)) (g := fun t => N 36 (k + 1 + t)) (fun t ht => h3 _ (by omega) (by omega)) (fun a b hab hb => h2 _ _ (by omega) (by omega) (by omega))
  refine ⟨fun i hi => by rw [a1 i (by omega)]; exact h1 i (by omega), fun i j b1 b2 b3 => ?_, fun i b1 b2 => ?_, fun i b1 b2 => ?_⟩
  · rw [vi j (by omega) b3]
    by_cases e : i = k
    · subst e
      rw [vk]
      split <;> omega
    · rw [vi i (by omega) (by omega)]
      have := h2 i j (by omega) b2 b3
      split <;> split <;> omega
  · by_cases e : i = k
    · subst e; rw [vk]; omega
    · rw [vi i (by omega) b2]
      have := h3 i (by omega) b2
      split <;> omega
  · by_cases e : i = k
    · subst e
      have e1 : mt_EL (mo_u2i i (n - 1 - i) N 36) n (i + 1) i = mo_sum (fun t => (fun v => if v < dd i then 1 else 0) ((fun t => N 36 (i + 1 + t)) t)) (n - (i + 1)) := by
        rw [mt_EL]
        refine mo_sum_congr _ (fun t ht => ?_)
        rw [vk, vi (i + 1 + t) (by omega) (by omega)]
        show _ = if N 36 (i + 1 + t) < dd i then 1 else 0
        by_cases c : N 36 (i + 1 + t) < dd i
        · rw [if_pos c, if_pos c, if_pos (by omega)]
        · rw [if_neg c, if_neg c, if_neg (by omega)]
      rw [e1, sum_perm (n - (i + 1)) (fun t => N 36 (i + 1 + t)) (fun v => if v < dd i then 1 else 0) sur, sum_lt_v, if_neg (by omega)]
    · rw [← h4 i (by omega) b2, mt_EL, mt_EL]
      refine mo_sum_congr _ (fun t ht => ?_)
      rw [vi i (by omega) b2, vi (i + 1 + t) (by omega) (by omega)]
      by_cases c : N 36 (i + 1 + t) < N 36 i
      · rw [if_pos c]
        rw [if_pos (by split <;> split <;> omega)]
      · rw [if_neg c]
        have := h2 i (i + 1 + t) (by omega) (by omega) (by omega)
        rw [if_neg (by split <;> split <;> omega)]
theorem UnI_all {n : Nat} (hn : 0 < n) {dd : Nat → Nat} (hd : ∀ k, k < n → dd k ≤ n - 1 - k) {N : Nat → Nat → Nat} (h : ∀ i, i < n → N 36 i = dd i) : ∀ t, t ≤ n - 1 → mt_UnI n dd (mo_u2 n t N 36) (n - 1 - t) := by
  intro t
  induction t with
  | zero =>
    intro _
    refine ⟨fun i hi => h i (by omega), fun i j b1 b2 b3 => by omega, fun i b1 b2 => ?_, fun i b1 b2 => ?_⟩
    · have := hd i b2
      rw [mo_u2, h i b2]; omega
    · have := hd i b2
      have e : i = n - 1 := by omega
      rw [mt_EL, show n - (i + 1) = 0 by omega, mo_sum]
      omega
  | succ t ih =>
    intro ht
    have a := ih (by omega)
    rw [mo_u2]
    have e1 : n - 1 - (t + 1) = n - 1 - 1 - t := by omega
    rw [e1]
    have e2 : t + 1 = n - 1 - (n - 1 - 1 - t) := by omega
    have := UnI_s (n := n) (k := n - 1 - 1 - t) (dd := dd) (hd _ (by omega)) (by omega) (N := mo_u2 n t N) (by rw [show n - 1 - 1 - t + 1 = n - 1 - t by omega]; exact a)
    rw [← e2] at this
    exact this
theorem u1_g (n r : Nat) (N : Nat → Nat → Nat) : ∀ t, t ≤ n → ∀ i, n - t ≤ i → i < n → mo_u1 n r t N 36 i = mo_ul r (n - 1 - i) % (n - i) := by
  intro t
  induction t with
  | zero => intro _ i h1 h2; omega
  | succ t ih =>
    intro ht i h1 h2
    rw [mo_u1]
    by_cases e : i = n - 1 - t
    · subst e
      rw [show n - 1 - (n - 1 - t) = t by omega, show n - (n - 1 - t) = t + 1 by omega]
      simp [mo_up]
    · rw [mo_up_ne (Or.inr e)]
      exact ih (by omega) i (by omega) h2
theorem rk_unr {r : Nat} (hr : r < 40320) (N : Nat → Nat → Nat) : mt_prm (mo_unr 8 r N 36) ∧ mo_rk (mo_unr 8 r N 36) 8 8 = r := by
  have hd : ∀ k, k < 8 → mo_ul r (8 - 1 - k) % (8 - k) ≤ 8 - 1 - k := fun k hk => by
    have := Nat.mod_lt (mo_ul r (8 - 1 - k)) (show 0 < 8 - k by omega)
    omega
  have h := UnI_all (n := 8) (by decide) (dd := fun k => mo_ul r (8 - 1 - k) % (8 - k)) hd (N := mo_u1 8 r 8 N) (fun i hi => u1_g 8 r N 8 (Nat.le_refl _) i (by omega) hi) 7 (by decide)
  rw [show 8 - 1 - 7 = 0 from rfl] at h
  have hR : mo_u2 8 7 (mo_u1 8 r 8 N) 36 = mo_unr 8 r N 36 := rfl
  rw [hR] at h
  obtain ⟨_, h2, h3, h4⟩ := h
  have hl : ∀ j, j < 8 → mo_unr 8 r N 36 j < 8 := fun j hj => h3 j (Nat.zero_le _) hj
  refine ⟨⟨hl, inj_surj hl (fun i j a b => h2 i j (Nat.zero_le _) a b)⟩, ?_⟩
  have key : ∀ k, k ≤ 8 → mo_rk (mo_unr 8 r N 36) 8 k = mo_ul r (8 - k) := by
    intro k
    induction k with
    | zero =>
      intro _
      have e : mo_ul r 8 = r / 1 / 2 / 3 / 4 / 5 / 6 / 7 / 8 := rfl
      show 0 = mo_ul r 8
      rw [e]; omega
    | succ k ih =>
      intro hk
      rw [mo_rk, ih (by omega), ls_EL, h4 k (Nat.zero_le _) (by omega), show 8 - k = (8 - 1 - k) + 1 by omega, mo_ul, show 8 - (k + 1) = 8 - 1 - k by omega]
      have := Nat.div_add_mod (mo_ul r (8 - 1 - k)) (8 - 1 - k + 1)
      rw [Nat.mul_comm] at this
      show _ + mo_ul r (8 - 1 - k) % (8 - k) = _
      rw [show 8 - k = 8 - 1 - k + 1 by omega]
      exact this
  rw [key 8 (Nat.le_refl _)]
  rfl
