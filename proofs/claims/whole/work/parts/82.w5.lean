def mt_QM (N : Nat → Nat → Nat) : Q4 := (N 0, N 1, N 2, N 3)
theorem os2_s (P : Nat → Nat) (nn : Nat) : ∀ i, i ≤ nn → mt_os2 P (nn + 1) i = mt_os2 P nn i + mo_sum (fun i' => mt_tt2 P i' nn) i := by
  intro i
  induction i with
  | zero => intro _; rfl
  | succ i ih =>
    intro hi
    rw [mt_os2, mt_os2, ih (by omega), mo_sum, show nn + 1 - (i + 1) = (nn - (i + 1)) + 1 by omega, mt_os1, show i + 1 + (nn - (i + 1)) = nn by omega]
    omega
theorem inv_sum (f : Nat → Nat) (p : Nat) : ∀ q, mo_inv f p q = mo_sum (fun i => mt_tt2 f i p) q
  | 0 => rfl
  | q + 1 => by rw [mo_inv, mo_sum, inv_sum f p q, mt_tt2]
theorem swp_os (f : Nat → Nat) (b : Nat) : ∀ n, mo_swp f b n = b + mt_os2 f n n
  | 0 => rfl
  | n + 1 => by
    rw [mo_swp, swp_os f b n, inv_sum, mt_os2, os2_s f n n (Nat.le_refl _), show n + 1 - (n + 1) = 0 by omega, mt_os1]
    omega
theorem thr_cg {f g : Nat → Nat} : ∀ n, (∀ j, j < n → f j = g j) → mo_thr f n = mo_thr g n
  | 0, _ => rfl
  | n + 1, h => by rw [mo_thr, mo_thr, thr_cg n (fun j hj => h j (by omega)), h n (by omega)]
theorem law_eq {N : Nat → Nat → Nat} {q : Q4} (h : mt_qeq (mt_QM N) q) : mo_law N = SlwQ q := by
  have c0 := fun j (hj : j < 8) => (h.1 j hj).1
  have c1 := fun j (hj : j < 8) => (h.1 j hj).2
  have c2 := fun j (hj : j < 12) => (h.2 j hj).1
  have c3 := fun j (hj : j < 12) => (h.2 j hj).2
  have e0 : mo_thr (N 0) 8 = mo_thr q.1 8 := thr_cg 8 c0
  have e2 : mo_thr (N 2) 12 = mo_thr q.2.2.1 12 := thr_cg 12 c2
  have e1 : mo_sum (N 1) 8 = mo_sum q.2.1 8 := mo_sum_congr 8 c1
  have e3 : mo_sum (N 3) 12 = mo_sum q.2.2.2 12 := mo_sum_congr 12 c3
  have o0 : od_ (N 0) 8 8 = od_ q.1 8 8 := od_cg 8 8 (Nat.le_refl _) c0
  have o2 : od_ (N 2) 12 12 = od_ q.2.2.1 12 12 := od_cg 12 12 (Nat.le_refl _) c2
  rw [mo_law, SlwQ, Slw_, e0, e1, e2, e3, swp_os, swp_os, ← o0, ← o2, od_os, od_os]
  by_cases k0 : mo_thr q.1 8 = 255
  case neg => simp only [ne_eq, k0, not_false_eq_true, if_true]
  by_cases k2 : mo_thr q.2.2.1 12 = 4095
  case neg => simp only [ne_eq, k0, k2, not_true_eq_false, not_false_eq_true, if_true, if_false, eq_self_iff_true]
  by_cases k1 : mo_sum q.2.1 8 % 3 = 0
  case neg => simp only [ne_eq, k0, k2, k1, not_true_eq_false, not_false_eq_true, if_true, if_false, eq_self_iff_true]
  by_cases k3 : mo_sum q.2.2.2 12 % 2 = 0
  case neg => simp only [ne_eq, k0, k2, k1, k3, not_true_eq_false, not_false_eq_true, if_true, if_false, eq_self_iff_true]
  simp only [ne_eq, k0, k2, k1, k3, not_true_eq_false, if_false, eq_self_iff_true]
  by_cases k4 : mt_os2 (N 0) 8 8 % 2 = mt_os2 (N 2) 12 12 % 2
  · rw [if_pos k4, if_neg (by omega)]
  · rw [if_neg k4, if_pos (by omega)]
theorem ah_1 (P M : Nat → Nat) : ∀ n, ah_ P M n ≠ 0 ↔ ∀ i, i < n → P i = i ∧ M i = 0 := by
  intro n
  induction n with
  | zero => exact ⟨fun _ i hi => absurd hi (by omega), fun _ => by rw [ah_]; decide⟩
  | succ n ih =>
    rw [ah_]
    by_cases c : ah_ P M n = 1 ∧ P n = n ∧ M n = 0
    · rw [if_pos c]
      refine ⟨fun _ i hi => ?_, fun _ => by decide⟩
      by_cases e : i = n
      · subst e; exact c.2
      · exact ih.mp (by rw [c.1]; decide) i (by omega)
    · rw [if_neg c]
      refine ⟨fun w => absurd rfl w, fun w => ?_⟩
      have h1 := ih.mpr (fun i hi => w i (by omega))
      have h2 := ah_2 P M n
      exact absurd ⟨by omega, w n (by omega)⟩ c
theorem ih_1 (N : Nat → Nat → Nat) : ∀ n, mo_ih N n ≠ 0 ↔ ∀ i, i < n → N 2 i = i ∧ N 3 i = 0 ∧ (7 < i ∨ N 0 i = i ∧ N 1 i = 0) := by
  intro n
  induction n with
  | zero => exact ⟨fun _ i hi => absurd hi (by omega), fun _ => by rw [mo_ih]; decide⟩
  | succ n ih =>
    rw [mo_ih]
    by_cases c : mo_ih N n ≠ 0 ∧ N 2 n = n ∧ N 3 n = 0 ∧ (7 < n ∨ N 0 n = n ∧ N 1 n = 0)
    · rw [if_pos c]
      refine ⟨fun _ i hi => ?_, fun _ => by decide⟩
      by_cases e : i = n
      · subst e; exact c.2
      · exact ih.mp c.1 i (by omega)
    · rw [if_neg c]
      exact ⟨fun w => absurd rfl w, fun w => absurd ⟨ih.mpr (fun i hi => w i (by omega)), w n (by omega)⟩ c⟩
theorem isHome_eq {N : Nat → Nat → Nat} {q : Q4} (h : mt_qeq (mt_QM N) q) : mo_ih N 12 = if ah_ q.1 q.2.1 8 = 0 then 0 else if ah_ q.2.2.1 q.2.2.2 12 = 0 then 0 else 1 := by
  have c0 := fun j (hj : j < 8) => (show N 0 j = q.1 j from (h.1 j hj).1)
  have c1 := fun j (hj : j < 8) => (show N 1 j = q.2.1 j from (h.1 j hj).2)
  have c2 := fun j (hj : j < 12) => (show N 2 j = q.2.2.1 j from (h.2 j hj).1)
  have c3 := fun j (hj : j < 12) => (show N 3 j = q.2.2.2 j from (h.2 j hj).2)
  have i2 := mo_ih_2 N 12
  have key : mo_ih N 12 ≠ 0 ↔ ah_ q.1 q.2.1 8 ≠ 0 ∧ ah_ q.2.2.1 q.2.2.2 12 ≠ 0 := by
    rw [ih_1, ah_1, ah_1]
    constructor
    · intro w
      refine ⟨fun i hi => ?_, fun i hi => ?_⟩
      · have := (w i (by omega)).2.2
        rw [← c0 i hi, ← c1 i hi]
        rcases this with a | a
        · omega
        · exact a
      · rw [← c2 i hi, ← c3 i hi]
        exact ⟨(w i hi).1, (w i hi).2.1⟩
    · rintro ⟨w1, w2⟩ i hi
      have a := w2 i hi
      rw [← c2 i hi, ← c3 i hi] at a
      refine ⟨a.1, a.2, ?_⟩
      by_cases e : 7 < i
      · exact Or.inl e
      · have b := w1 i (by omega)
        rw [← c0 i (by omega), ← c1 i (by omega)] at b
        exact Or.inr b
  by_cases k0 : ah_ q.1 q.2.1 8 = 0
  · rw [if_pos k0]
    by_cases z : mo_ih N 12 = 0
    · exact z
    · exact absurd k0 (key.mp z).1
  · rw [if_neg k0]
    by_cases k1 : ah_ q.2.2.1 q.2.2.2 12 = 0
    · rw [if_pos k1]
      by_cases z : mo_ih N 12 = 0
      · exact z
      · exact absurd k1 (key.mp z).2
    · rw [if_neg k1]
      have := key.mpr ⟨k0, k1⟩
      omega
theorem at_eq {N : Nat → Nat → Nat} {q : Q4} (h : mt_qeq (mt_QM N) q) (a b : Nat) : mo_atR a b N = Sat_ q.1 q.2.1 q.2.2.1 q.2.2.2 a b := by
  have c0 := fun j (hj : j < 8) => (show N 0 j = q.1 j from (h.1 j hj).1)
  have c1 := fun j (hj : j < 8) => (show N 1 j = q.2.1 j from (h.1 j hj).2)
  have c2 := fun j (hj : j < 12) => (show N 2 j = q.2.2.1 j from (h.2 j hj).1)
  have c3 := fun j (hj : j < 12) => (show N 3 j = q.2.2.2 j from (h.2 j hj).2)
  rw [mo_atR, Sat_]
  by_cases k0 : a = 0
  · rw [if_pos k0]
    by_cases k1 : b < 8
    · rw [if_pos ⟨k0, k1⟩, if_pos k1, c0 b k1, c1 b k1]
    · rw [if_neg (fun w => k1 w.2), if_neg (fun w => by omega), if_neg k1]
  · rw [if_neg (fun w => k0 w.1), if_neg k0]
    by_cases k1 : a = 1
    · rw [if_pos k1]
      by_cases k2 : b < 12
      · rw [if_pos ⟨k1, k2⟩, if_pos k2, c2 b k2, c3 b k2]
      · rw [if_neg (fun w => k2 w.2), if_neg k2]
    · rw [if_neg (fun w => k1 w.1), if_neg k1]
