theorem mo_sum_congr {f g : Nat → Nat} : ∀ n, (∀ j, j < n → f j = g j) → mo_sum f n = mo_sum g n
  | 0, _ => rfl
  | n + 1, h => by rw [mo_sum, mo_sum, mo_sum_congr n (fun j hj => h j (by omega)), h n (by omega)]
theorem mo_sum_upd (f : Nat → Nat) (j0 v : Nat) : ∀ n, j0 < n → mo_sum (fun j => if j = j0 then v else f j) n + f j0 = mo_sum f n + v := by
  intro n
  induction n with
  | zero => intro h; omega
  | succ n ih =>
    intro h
    rw [mo_sum, mo_sum]
    by_cases e : j0 = n
    · subst e
      rw [mo_sum_congr (g := f) j0 (fun j hj => if_neg (by omega)), if_pos rfl]
      omega
    · have := ih (by omega)
      rw [if_neg (fun q => e q.symm)]
      omega
theorem sum_perm : ∀ (n : Nat) (P h : Nat → Nat), (∀ v, v < n → ∃ j, j < n ∧ P j = v) → mo_sum (fun j => h (P j)) n = mo_sum h n := by
  intro n
  induction n with
  | zero => intro P h _; rfl
  | succ n ih =>
    intro P h hs
    obtain ⟨j0, hj0, e0⟩ := hs n (by omega)
    rw [mo_sum, mo_sum]
    by_cases c : j0 = n
    · subst c
      have : mo_sum (fun j => h (P j)) j0 = mo_sum h j0 := ih P h (fun v hv => by
        obtain ⟨j, hj, e⟩ := hs v (by omega)
        refine ⟨j, ?_, e⟩
        by_cases q : j = j0
        · rw [q, e0] at e; omega
        · omega)
      rw [this, e0]
    · have h1 := ih (fun j => if j = j0 then P n else P j) h (fun v hv => by
        obtain ⟨j, hj, e⟩ := hs v (by omega)
        have hne : j ≠ j0 := by intro q; rw [q, e0] at e; omega
        by_cases q : j = n
        · exact ⟨j0, by omega, by simp [← q, e]⟩
        · exact ⟨j, by omega, by simp [hne, e]⟩)
      have h2 := mo_sum_upd (fun j => h (P j)) j0 (h (P n)) n (by omega)
      have h3 : mo_sum (fun j => h (if j = j0 then P n else P j)) n = mo_sum (fun j => if j = j0 then h (P n) else h (P j)) n := mo_sum_congr n (fun j _ => by split <;> rfl)
      rw [h3] at h1
      rw [e0] at h2
      omega
theorem qtP_cg {R : Nat → Nat} {a n : Nat} (hR : ∀ j, R j < n) {P P' : Nat → Nat} (h : ∀ j, j < n → P j = P' j) : ∀ j, j < n → qtP R a P j = qtP R a P' j := by
  intro j hj
  rw [qtP_nat, qtP_nat R a P', h _ (idP_lt R a hR j hj)]
theorem qtM_cg {R Gn : Nat → Nat} {k a n : Nat} (hR : ∀ j, R j < n) {P P' : Nat → Nat} (h : ∀ j, j < n → P j = P' j) : ∀ j, j < n → qtM R Gn k a P j = qtM R Gn k a P' j := by
  have key : ∀ t j, j < n → qt_M R Gn k a P t j = qt_M R Gn k a P' t j := by
    intro t
    induction t with
    | zero => exact h
    | succ t ih =>
      intro j hj
      rw [qt_M, qt_M]
      simp only [up1]
      split
      · rw [ih _ (hR _)]
      · exact ih j hj
  intro j hj
  unfold qtM
  simp only [up1]
  split
  · rw [h _ (hR _)]
  · exact key 3 j hj
theorem mk_cp_cg (f : Nat) {P P' : Nat → Nat} (h : ∀ j, j < 8 → P j = P' j) : ∀ n j, j < 8 → mk_cp f P n j = mk_cp f P' n j
  | 0 => h
  | n + 1 => qtP_cg cu_cr_8 (mk_cp_cg f h n)
theorem mk_ep_cg (f : Nat) {P P' : Nat → Nat} (h : ∀ j, j < 12 → P j = P' j) : ∀ n j, j < 12 → mk_ep f P n j = mk_ep f P' n j
  | 0 => h
  | n + 1 => qtP_cg cu_er_12 (mk_ep_cg f h n)
theorem mk_co_cg (f : Nat) {P P' : Nat → Nat} (h : ∀ j, j < 8 → P j = P' j) : ∀ n j, j < 8 → mk_co f P n j = mk_co f P' n j
  | 0 => h
  | n + 1 => qtM_cg cu_cr_8 (mk_co_cg f h n)
theorem mk_eo_cg (f : Nat) {P P' : Nat → Nat} (h : ∀ j, j < 12 → P j = P' j) : ∀ n j, j < 12 → mk_eo f P n j = mk_eo f P' n j
  | 0 => h
  | n + 1 => qtM_cg cu_er_12 (mk_eo_cg f h n)
theorem mr_cg (kk : Nat) {M M' : Nat → Nat} : ∀ n, (∀ j, j < n → M j = M' j) → mr_ kk M n = mr_ kk M' n
  | 0, _ => rfl
  | n + 1, h => by rw [mr_, mr_, mr_cg kk n (fun j hj => h j (by omega)), h n (by omega)]
theorem mr_lt (kk : Nat) {M : Nat → Nat} : ∀ n, (∀ j, j < n → M j < kk) → mr_ kk M n < kk ^ n
  | 0, _ => by rw [mr_]; exact Nat.one_pos
  | n + 1, h => by
    rw [mr_, Nat.pow_succ]
    have h1 := mr_lt kk n (fun j hj => h j (by omega))
    have h2 := h n (by omega)
    calc mr_ kk M n * kk + M n < mr_ kk M n * kk + kk := by omega
      _ = (mr_ kk M n + 1) * kk := by rw [Nat.add_mul, Nat.one_mul]
      _ ≤ kk ^ n * kk := Nat.mul_le_mul_right _ h1
theorem mr_0 (kk : Nat) (hk : 0 < kk) {M : Nat → Nat} : ∀ n, (mr_ kk M n = 0 ↔ ∀ j, j < n → M j = 0)
  | 0 => ⟨fun _ j hj => absurd hj (by omega), fun _ => rfl⟩
  | n + 1 => by
    rw [mr_]
    constructor
    · intro h j hj
      have h1 : M n = 0 := by omega
      have h2 : mr_ kk M n = 0 := by
        rcases Nat.eq_zero_or_pos (mr_ kk M n) with q | q
        · exact q
        · have := Nat.mul_pos q hk; omega
      by_cases e : j = n
      · rw [e]; exact h1
      · exact (mr_0 kk hk n).mp h2 j (by omega)
    · intro h
      rw [(mr_0 kk hk n).mpr (fun j hj => h j (by omega)), h n (by omega), Nat.zero_mul]
theorem ms_r_mr {kk m : Nat} {M0 : Nat → Nat} (h : ∀ j, j < m → M0 j < kk) : ∀ t, t ≤ m → ms_r (mr_ kk M0 m) kk t = mr_ kk M0 (m - t) := by
  intro t
  induction t with
  | zero => intro _; rfl
  | succ t ih =>
    intro ht
    have := h (m - (t + 1)) (by omega)
    rw [ms_r, ih (by omega), show m - t = (m - (t + 1)) + 1 by omega, mr_, Nat.mul_comm, Nat.mul_add_div (by omega), Nat.div_eq_of_lt this, Nat.add_zero]
theorem ms_d_mr {kk m : Nat} {M0 : Nat → Nat} (h : ∀ j, j < m → M0 j < kk) (t : Nat) (ht : t < m) : ms_r (mr_ kk M0 m) kk t % kk = M0 (m - 1 - t) := by
  have := h (m - 1 - t) (by omega)
  rw [ms_r_mr h t (by omega), show m - t = (m - 1 - t) + 1 by omega, mr_, Nat.mul_comm, Nat.mul_add_mod, Nat.mod_eq_of_lt this]
theorem ms_s_mr {kk m : Nat} {M0 : Nat → Nat} (h : ∀ j, j < m → M0 j < kk) : ∀ t, t ≤ m → ms_s (mr_ kk M0 m) kk t + mo_sum M0 (m - t) = mo_sum M0 m := by
  intro t
  induction t with
  | zero => intro _; rw [ms_s, Nat.zero_add]; rfl
  | succ t ih =>
    intro ht
    have h1 := ih (by omega)
    rw [show m - t = (m - (t + 1)) + 1 by omega, mo_sum] at h1
    rw [ms_s, ms_d_mr h t (by omega), show m - 1 - t = m - (t + 1) by omega]
    omega
theorem ms_M_mr {kk m : Nat} {M0 : Nat → Nat} (h : ∀ j, j < m → M0 j < kk) (M : Nat → Nat) : ∀ t, t ≤ m → ∀ j, m - t ≤ j → j < m → ms_M (mr_ kk M0 m) kk (m + 1) M t j = M0 j := by
  intro t
  induction t with
  | zero => intro _ j h1 h2; omega
  | succ t ih =>
    intro ht j h1 h2
    rw [ms_M]
    simp only [up1]
    split
    · next e => rw [ms_d_mr h t (by omega), e]; rfl
    · exact ih (by omega) j (by omega) h2
theorem msM_mr {kk m : Nat} {M0 : Nat → Nat} (hk : 2 ≤ kk) (hk3 : kk ≤ 3) (h : ∀ j, j < m + 1 → M0 j < kk) (hs : mo_sum M0 (m + 1) % kk = 0) (M : Nat → Nat) : ∀ j, j < m + 1 → msM (mr_ kk M0 m) kk (m + 1) M j = M0 j := by
  intro j hj
  unfold msM
  simp only [up1, Nat.add_sub_cancel]
  split
  · next e =>
    have h1 := ms_s_mr (fun j hj => h j (by omega)) m (Nat.le_refl m)
    rw [Nat.sub_self, mo_sum, Nat.add_zero] at h1
    rw [h1, e]
    rw [mo_sum] at hs
    have h2 := h m (by omega)
    rcases (show kk = 2 ∨ kk = 3 by omega) with q | q <;> subst q <;> omega
  · exact ms_M_mr (fun j hj => h j (by omega)) M m (Nat.le_refl _) j (by omega) (by omega)
theorem ms_M_ind {num kk m : Nat} (M M' : Nat → Nat) : ∀ t, t ≤ m → ∀ j, m - t ≤ j → j < m → ms_M num kk (m + 1) M t j = ms_M num kk (m + 1) M' t j := by
  intro t
  induction t with
  | zero => intro _ j h1 h2; omega
  | succ t ih =>
    intro ht j h1 h2
    rw [ms_M, ms_M]
    simp only [up1]
    split
    · rfl
    · next e => exact ih (by omega) j (by have : ¬ j = m + 1 - 1 - 1 - t := e; omega) h2
theorem msM_ind {num kk m : Nat} (M M' : Nat → Nat) : ∀ j, j < m + 1 → msM num kk (m + 1) M j = msM num kk (m + 1) M' j := by
  intro j hj
  unfold msM
  simp only [up1, Nat.add_sub_cancel]
  split
  · rfl
  · exact ms_M_ind M M' m (Nat.le_refl _) j (by omega) (by omega)
theorem msM_b {num kk m : Nat} (hk : 0 < kk) : ∀ j, j < m + 1 → msM num kk (m + 1) (fun _ => 0) j < kk := by
  have key : ∀ t j, ms_M num kk (m + 1) (fun _ => 0) t j < kk := by
    intro t
    induction t with
    | zero => intro j; exact hk
    | succ t ih =>
      intro j
      rw [ms_M]
      simp only [up1]
      split
      · exact Nat.mod_lt _ hk
      · exact ih j
  intro j _
  unfold msM
  simp only [up1]
  split
  · exact Nat.mod_lt _ hk
  · exact key _ j
def mt_stp (fwq f : Nat) : Nat := if f < fwq then 1 else 2
def nxme (j : Nat) : Nat := mr_ 2 (mk_eo (j % 6) (msM (j / 6) 2 12 (fun _ => 0)) (mt_stp 6 (j % 6))) 11
def nxmc (j : Nat) : Nat := mr_ 3 (mk_co (j % 6) (msM (j / 6) 3 8 (fun _ => 0)) (mt_stp 4 (j % 6))) 7
theorem mt_j6 {v f : Nat} (hf : f < 6) : (6 * v + f) / 6 = v ∧ (6 * v + f) % 6 = f := by omega
theorem ln_me : lnI_me nxme := by
  refine ⟨?_, fun num face P M _ h6 _ _ h => absurd h6 (by omega)⟩
  intro num face P M _ h6 _ _ _
  rw [nxme, (mt_j6 h6).1, (mt_j6 h6).2, mt_stp, if_pos h6]
  exact mr_cg 2 11 (fun j hj => mk_eo_cg face (msM_ind (m := 11) _ _) 1 j (by omega))
theorem ln_mc : lnI_mc nxmc := by
  refine ⟨?_, ?_⟩
  · intro num face P M _ h6 _ _ h4
    rw [nxmc, (mt_j6 h6).1, (mt_j6 h6).2, mt_stp, if_pos h4]
    exact mr_cg 3 7 (fun j hj => mk_co_cg face (msM_ind (m := 7) _ _) 1 j (by omega))
  · intro num face P M _ h6 _ _ h4
    rw [nxmc, (mt_j6 h6).1, (mt_j6 h6).2, mt_stp, if_neg (by omega)]
    exact mr_cg 3 7 (fun j hj => mk_co_cg face (msM_ind (m := 7) _ _) 2 j (by omega))
theorem nxme_lt (v f : Nat) : nxme (6 * v + f) < 2048 := mr_lt 2 11 (fun j hj => mk_eo_lt _ (msM_b (m := 11) (by decide)) _ j (by omega))
theorem nxmc_lt (v f : Nat) : nxmc (6 * v + f) < 2187 := mr_lt 3 7 (fun j hj => mk_co_lt _ (msM_b (m := 7) (by decide)) _ j (by omega))
theorem rc_me {f : Nat} (hf : f < 6) {q : Q4} (h : mt_Lw q) : mr_ 2 (mk_eo f q.2.2.2 (mt_stp 6 f)) 11 = nxme (6 * mr_ 2 q.2.2.2 11 + f) := by
  rw [nxme, (mt_j6 hf).1, (mt_j6 hf).2]
  exact mr_cg 2 11 (fun j hj => mk_eo_cg f (fun j hj => (msM_mr (m := 11) (by decide) (by decide) h.1.2.2.2 h.2.2.2.2.1 _ j hj).symm) _ j (by omega))
theorem rc_mc {f : Nat} (hf : f < 6) {q : Q4} (h : mt_Lw q) : mr_ 3 (mk_co f q.2.1 (mt_stp 4 f)) 7 = nxmc (6 * mr_ 3 q.2.1 7 + f) := by
  rw [nxmc, (mt_j6 hf).1, (mt_j6 hf).2]
  exact mr_cg 3 7 (fun j hj => mk_co_cg f (fun j hj => (msM_mr (m := 7) (by decide) (by decide) h.1.2.1 h.2.2.2.1 _ j hj).symm) _ j (by omega))
