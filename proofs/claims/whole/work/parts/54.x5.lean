theorem qt_P_nat (R : Nat → Nat) (a : Nat) (P : Nat → Nat) : ∀ t j, qt_P R a P t j = P (qt_P R a (fun j => j) t j) := by
  intro t
  induction t with
  | zero => intro j; rfl
  | succ t ih =>
    intro j
    rw [qt_P, qt_P]
    simp only [up1]
    split
    · exact ih _
    · exact ih j
theorem qtP_nat (R : Nat → Nat) (a : Nat) (P : Nat → Nat) (j : Nat) : qtP R a P j = P (qtP R a (fun j => j) j) := by
  unfold qtP
  simp only [up1]
  split
  · rfl
  · exact qt_P_nat R a P 3 j
theorem qtP_out (R : Nat → Nat) (a n : Nat) (hR : ∀ j, R j < n) (P : Nat → Nat) {j : Nat} (hj : n ≤ j) : qtP R a P j = P j := by
  have h : ∀ x, ¬ j = R x := fun x e => by have := hR x; omega
  unfold qtP
  simp only [up1, if_neg (h _)]
  have : ∀ t, qt_P R a P t j = P j := by
    intro t
    induction t with
    | zero => rfl
    | succ t ih => rw [qt_P]; simp only [up1, if_neg (h _)]; exact ih
  exact this 3
theorem qtM_out (R Gn : Nat → Nat) (k a n : Nat) (hR : ∀ j, R j < n) (M : Nat → Nat) {j : Nat} (hj : n ≤ j) : qtM R Gn k a M j = M j := by
  have h : ∀ x, ¬ j = R x := fun x e => by have := hR x; omega
  unfold qtM
  simp only [up1, if_neg (h _)]
  have : ∀ t, qt_M R Gn k a M t j = M j := by
    intro t
    induction t with
    | zero => rfl
    | succ t ih => rw [qt_M]; simp only [up1, if_neg (h _)]; exact ih
  exact this 3
theorem qt_M_nf (R Gn : Nat → Nat) (k a n : Nat) (hR : ∀ j, R j < n) {M : Nat → Nat} (hM : ∀ j, j < n → M j < k) : ∀ t j, j < n → qt_M R Gn k a M t j = (M (qt_P R a (fun j => j) t j) + qt_M R Gn k a (fun _ => 0) t j) % k := by
  intro t
  induction t with
  | zero => intro j hj; rw [qt_M, qt_M, qt_P, Nat.add_zero, Nat.mod_eq_of_lt (hM j hj)]
  | succ t ih =>
    intro j hj
    rw [qt_M, qt_M, qt_P]
    simp only [up1]
    split
    · rw [ih _ (hR _), Nat.mod_add_mod, Nat.add_mod_mod, Nat.add_assoc]
    · exact ih j hj
theorem qtM_nf (R Gn : Nat → Nat) (k a n : Nat) (hR : ∀ j, R j < n) {M : Nat → Nat} (hM : ∀ j, j < n → M j < k) (j : Nat) (hj : j < n) : qtM R Gn k a M j = (M (qtP R a (fun j => j) j) + qtM R Gn k a (fun _ => 0) j) % k := by
  unfold qtM qtP
  simp only [up1]
  split
  · rw [Nat.zero_add, Nat.add_mod_mod]
  · exact qt_M_nf R Gn k a n hR hM 3 j hj
def mt_pwQ (f : Nat) (q : Q4) (n : Nat) : Q4 := (mk_cp f q.1 n, mk_co f q.2.1 n, mk_ep f q.2.2.1 n, mk_eo f q.2.2.2 n)
theorem mkQ_pw (t : Nat) (q : Q4) : mkQ t q = mt_pwQ (t / 3) q (t % 3 + 1) := rfl
theorem pwQ_add (f : Nat) (q : Q4) (m : Nat) : ∀ n, mt_pwQ f (mt_pwQ f q m) n = mt_pwQ f q (m + n) := by
  have h1 : ∀ n, mk_cp f (mk_cp f q.1 m) n = mk_cp f q.1 (m + n) := by
    intro n
    induction n with
    | zero => rfl
    | succ n ih => rw [mk_cp, ih]; rfl
  have h2 : ∀ n, mk_co f (mk_co f q.2.1 m) n = mk_co f q.2.1 (m + n) := by
    intro n
    induction n with
    | zero => rfl
    | succ n ih => rw [mk_co, ih]; rfl
  have h3 : ∀ n, mk_ep f (mk_ep f q.2.2.1 m) n = mk_ep f q.2.2.1 (m + n) := by
    intro n
    induction n with
    | zero => rfl
    | succ n ih => rw [mk_ep, ih]; rfl
  have h4 : ∀ n, mk_eo f (mk_eo f q.2.2.2 m) n = mk_eo f q.2.2.2 (m + n) := by
    intro n
    induction n with
    | zero => rfl
    | succ n ih => rw [mk_eo, ih]; rfl
  intro n
  show (_, _, _, _) = (_, _, _, _)
  rw [show (mt_pwQ f q m).1 = mk_cp f q.1 m from rfl, show (mt_pwQ f q m).2.1 = mk_co f q.2.1 m from rfl, show (mt_pwQ f q m).2.2.1 = mk_ep f q.2.2.1 m from rfl, show (mt_pwQ f q m).2.2.2 = mk_eo f q.2.2.2 m from rfl, h1, h2, h3, h4]
theorem QB_pw (f : Nat) {q : Q4} (h : QB q) (n : Nat) : QB (mt_pwQ f q n) := ⟨mk_cp_lt _ h.1 _, mk_co_lt _ h.2.1 _, mk_ep_lt _ h.2.2.1 _, mk_eo_lt _ h.2.2.2 _⟩
theorem mk_cp_nat (f : Nat) (cp : Nat → Nat) : ∀ n j, mk_cp f cp n j = cp (mk_cp f (fun j => j) n j) := by
  intro n
  induction n with
  | zero => intro j; rfl
  | succ n ih => intro j; rw [mk_cp, mk_cp, qtP_nat, ih, qtP_nat _ _ (mk_cp f (fun j => j) n)]
theorem mk_ep_nat (f : Nat) (ep : Nat → Nat) : ∀ n j, mk_ep f ep n j = ep (mk_ep f (fun j => j) n j) := by
  intro n
  induction n with
  | zero => intro j; rfl
  | succ n ih => intro j; rw [mk_ep, mk_ep, qtP_nat, ih, qtP_nat _ _ (mk_ep f (fun j => j) n)]
theorem mk_cp_out (f : Nat) (cp : Nat → Nat) {j : Nat} (hj : 8 ≤ j) : ∀ n, mk_cp f cp n j = cp j := by
  intro n
  induction n with
  | zero => rfl
  | succ n ih => rw [mk_cp, qtP_out _ _ 8 cu_cr_8 _ hj, ih]
theorem mk_ep_out (f : Nat) (ep : Nat → Nat) {j : Nat} (hj : 12 ≤ j) : ∀ n, mk_ep f ep n j = ep j := by
  intro n
  induction n with
  | zero => rfl
  | succ n ih => rw [mk_ep, qtP_out _ _ 12 cu_er_12 _ hj, ih]
theorem mk_co_out (f : Nat) (co : Nat → Nat) {j : Nat} (hj : 8 ≤ j) : ∀ n, mk_co f co n j = co j := by
  intro n
  induction n with
  | zero => rfl
  | succ n ih => rw [mk_co, qtM_out _ _ _ _ 8 cu_cr_8 _ hj, ih]
theorem mk_eo_out (f : Nat) (eo : Nat → Nat) {j : Nat} (hj : 12 ≤ j) : ∀ n, mk_eo f eo n j = eo j := by
  intro n
  induction n with
  | zero => rfl
  | succ n ih => rw [mk_eo, qtM_out _ _ _ _ 12 cu_er_12 _ hj, ih]
theorem idP_lt (R : Nat → Nat) {n : Nat} (a : Nat) (hR : ∀ j, R j < n) : ∀ j, j < n → qtP R a (fun j => j) j < n := qtP_lt R a hR (fun j hj => hj)
theorem mk_co_nf (f : Nat) {co : Nat → Nat} (hc : ∀ j, j < 8 → co j < 3) : ∀ n j, j < 8 → mk_co f co n j = (co (mk_cp f (fun j => j) n j) + mk_co f (fun _ => 0) n j) % 3 := by
  intro n
  induction n with
  | zero => intro j hj; rw [mk_co, mk_co, mk_cp, Nat.add_zero, Nat.mod_eq_of_lt (hc j hj)]
  | succ n ih =>
    intro j hj
    have hl := idP_lt cu_cr (4 * f) cu_cr_8 j hj
    rw [mk_co, mk_co, mk_cp, qtM_nf _ _ _ _ 8 cu_cr_8 (mk_co_lt f hc n) j hj, qtM_nf _ _ _ _ 8 cu_cr_8 (mk_co_lt f (co := fun _ => 0) (fun _ _ => Nat.succ_pos 2) n) j hj, qtP_nat _ _ (mk_cp f (fun j => j) n), ih _ hl, Nat.mod_add_mod, Nat.add_mod_mod, Nat.add_assoc]
theorem mk_eo_nf (f : Nat) {eo : Nat → Nat} (hc : ∀ j, j < 12 → eo j < 2) : ∀ n j, j < 12 → mk_eo f eo n j = (eo (mk_ep f (fun j => j) n j) + mk_eo f (fun _ => 0) n j) % 2 := by
  intro n
  induction n with
  | zero => intro j hj; rw [mk_eo, mk_eo, mk_ep, Nat.add_zero, Nat.mod_eq_of_lt (hc j hj)]
  | succ n ih =>
    intro j hj
    have hl := idP_lt cu_er (4 * f) cu_er_12 j hj
    rw [mk_eo, mk_eo, mk_ep, qtM_nf _ _ _ _ 12 cu_er_12 (mk_eo_lt f hc n) j hj, qtM_nf _ _ _ _ 12 cu_er_12 (mk_eo_lt f (eo := fun _ => 0) (fun _ _ => Nat.succ_pos 1) n) j hj, qtP_nat _ _ (mk_ep f (fun j => j) n), ih _ hl, Nat.mod_add_mod, Nat.add_mod_mod, Nat.add_assoc]
theorem id4c : ∀ f, f < 6 → ∀ j, j < 8 → mk_cp f (fun j => j) 4 j = j ∧ mk_co f (fun _ => 0) 4 j = 0 := by decide +kernel
theorem id4e : ∀ f, f < 6 → ∀ j, j < 12 → mk_ep f (fun j => j) 4 j = j ∧ mk_eo f (fun _ => 0) 4 j = 0 := by decide +kernel
theorem pwQ_4 {f : Nat} (hf : f < 6) {q : Q4} (h : QB q) : mt_pwQ f q 4 = q := by
  have h1 : mk_cp f q.1 4 = q.1 := by
    funext j
    by_cases hj : j < 8
    · rw [mk_cp_nat, (id4c f hf j hj).1]
    · exact mk_cp_out f _ (by omega) 4
  have h2 : mk_co f q.2.1 4 = q.2.1 := by
    funext j
    by_cases hj : j < 8
    · rw [mk_co_nf f h.2.1 4 j hj, (id4c f hf j hj).1, (id4c f hf j hj).2, Nat.add_zero, Nat.mod_eq_of_lt (h.2.1 j hj)]
    · exact mk_co_out f _ (by omega) 4
  have h3 : mk_ep f q.2.2.1 4 = q.2.2.1 := by
    funext j
    by_cases hj : j < 12
    · rw [mk_ep_nat, (id4e f hf j hj).1]
    · exact mk_ep_out f _ (by omega) 4
  have h4 : mk_eo f q.2.2.2 4 = q.2.2.2 := by
    funext j
    by_cases hj : j < 12
    · rw [mk_eo_nf f h.2.2.2 4 j hj, (id4e f hf j hj).1, (id4e f hf j hj).2, Nat.add_zero, Nat.mod_eq_of_lt (h.2.2.2 j hj)]
    · exact mk_eo_out f _ (by omega) 4
  show (_, _, _, _) = q
  rw [h1, h2, h3, h4]
theorem mkQ_inv {t : Nat} (ht : t < 18) {q : Q4} (h : QB q) : mkQ (3 * (t / 3) + (2 - t % 3)) (mkQ t q) = q := by
  rw [mkQ_pw, mkQ_pw, show (3 * (t / 3) + (2 - t % 3)) / 3 = t / 3 by omega, pwQ_add, show t % 3 + 1 + ((3 * (t / 3) + (2 - t % 3)) % 3 + 1) = 4 by omega]
  exact pwQ_4 (by omega) h
theorem pwQ_mod {f : Nat} (hf : f < 6) {q : Q4} (h : QB q) (n : Nat) : mt_pwQ f q (4 + n) = mt_pwQ f q n := by
  rw [← pwQ_add, pwQ_4 hf h]
theorem mkQ_same {fwq t1 t2 : Nat} {q : Q4} (h : QB q) (h1 : t1 < 18) (h2 : t2 < 18) (a1 : mt_alq fwq t1) (a2 : mt_alq fwq t2) (e : t1 / 3 = t2 / 3) : mkQ t2 (mkQ t1 q) = q ∨ ∃ t3, t3 < 18 ∧ mt_alq fwq t3 ∧ mkQ t2 (mkQ t1 q) = mkQ t3 q := by
  have key : mkQ t2 (mkQ t1 q) = mt_pwQ (t1 / 3) q (t1 % 3 + t2 % 3 + 2) := by
    rw [mkQ_pw, mkQ_pw, ← e, pwQ_add]
    congr 1
    omega
  rw [key]
  unfold mt_alq at a1 a2
  by_cases c2 : t1 % 3 + t2 % 3 + 2 = 4
  · rw [c2]; exact Or.inl (pwQ_4 (by omega) h)
  · right
    have hfq : t1 / 3 < fwq := by omega
    by_cases c3 : t1 % 3 + t2 % 3 + 2 < 4
    · refine ⟨3 * (t1 / 3) + (t1 % 3 + t2 % 3 + 1), by omega, Or.inl (by omega), ?_⟩
      rw [mkQ_pw, show (3 * (t1 / 3) + (t1 % 3 + t2 % 3 + 1)) / 3 = t1 / 3 by omega, show (3 * (t1 / 3) + (t1 % 3 + t2 % 3 + 1)) % 3 + 1 = t1 % 3 + t2 % 3 + 2 by omega]
    · refine ⟨3 * (t1 / 3) + (t1 % 3 + t2 % 3 - 3), by omega, Or.inl (by omega), ?_⟩
      rw [mkQ_pw, show (3 * (t1 / 3) + (t1 % 3 + t2 % 3 - 3)) / 3 = t1 / 3 by omega, show (3 * (t1 / 3) + (t1 % 3 + t2 % 3 - 3)) % 3 + 1 = t1 % 3 + t2 % 3 - 2 by omega, show t1 % 3 + t2 % 3 + 2 = 4 + (t1 % 3 + t2 % 3 - 2) by omega]
      exact pwQ_mod (by omega) h _
theorem mt_opc : ∀ g, g < 3 → ∀ j, j < 8 → mk_cp (2 * g + 1) (fun j => j) 1 (mk_cp (2 * g) (fun j => j) 1 j) = mk_cp (2 * g) (fun j => j) 1 (mk_cp (2 * g + 1) (fun j => j) 1 j) ∧ (mk_co (2 * g + 1) (fun _ => 0) 1 (mk_cp (2 * g) (fun j => j) 1 j) + mk_co (2 * g) (fun _ => 0) 1 j) % 3 = (mk_co (2 * g) (fun _ => 0) 1 (mk_cp (2 * g + 1) (fun j => j) 1 j) + mk_co (2 * g + 1) (fun _ => 0) 1 j) % 3 := by decide +kernel
theorem mt_ope : ∀ g, g < 3 → ∀ j, j < 12 → mk_ep (2 * g + 1) (fun j => j) 1 (mk_ep (2 * g) (fun j => j) 1 j) = mk_ep (2 * g) (fun j => j) 1 (mk_ep (2 * g + 1) (fun j => j) 1 j) ∧ (mk_eo (2 * g + 1) (fun _ => 0) 1 (mk_ep (2 * g) (fun j => j) 1 j) + mk_eo (2 * g) (fun _ => 0) 1 j) % 2 = (mk_eo (2 * g) (fun _ => 0) 1 (mk_ep (2 * g + 1) (fun j => j) 1 j) + mk_eo (2 * g + 1) (fun _ => 0) 1 j) % 2 := by decide +kernel
theorem add3 (a b c d e k : Nat) (h : (b + c) % k = (d + e) % k) : ((a + b) % k + c) % k = ((a + d) % k + e) % k := by
  rw [Nat.mod_add_mod, Nat.mod_add_mod, Nat.add_assoc, Nat.add_assoc, Nat.add_mod, h, ← Nat.add_mod]
theorem pwQ_op1 {g : Nat} (hg : g < 3) {q : Q4} (h : QB q) : mt_pwQ (2 * g) (mt_pwQ (2 * g + 1) q 1) 1 = mt_pwQ (2 * g + 1) (mt_pwQ (2 * g) q 1) 1 := by
  have h1 : mk_cp (2 * g) (mk_cp (2 * g + 1) q.1 1) 1 = mk_cp (2 * g + 1) (mk_cp (2 * g) q.1 1) 1 := by
    funext j
    by_cases hj : j < 8
    · rw [mk_cp_nat, mk_cp_nat _ q.1, mk_cp_nat _ (mk_cp (2 * g) q.1 1), mk_cp_nat _ q.1, (mt_opc g hg j hj).1]
    · rw [mk_cp_out _ _ (by omega), mk_cp_out _ _ (by omega), mk_cp_out _ _ (by omega), mk_cp_out _ _ (by omega)]
  have h2 : mk_co (2 * g) (mk_co (2 * g + 1) q.2.1 1) 1 = mk_co (2 * g + 1) (mk_co (2 * g) q.2.1 1) 1 := by
    funext j
    by_cases hj : j < 8
    · rw [mk_co_nf _ (co := mk_co (2 * g + 1) q.2.1 1) (mk_co_lt _ h.2.1 1) 1 j hj, mk_co_nf _ (co := mk_co (2 * g) q.2.1 1) (mk_co_lt _ h.2.1 1) 1 j hj]
      show (mk_co (2 * g + 1) q.2.1 1 _ + _) % 3 = (mk_co (2 * g) q.2.1 1 _ + _) % 3
      rw [mk_co_nf _ h.2.1 1 _ (mk_cp_lt (2 * g) (cp := fun j => j) (fun j hj => hj) 1 j hj), mk_co_nf _ h.2.1 1 _ (mk_cp_lt (2 * g + 1) (cp := fun j => j) (fun j hj => hj) 1 j hj), (mt_opc g hg j hj).1]
      exact add3 _ _ _ _ _ _ (mt_opc g hg j hj).2
    · rw [mk_co_out _ _ (by omega), mk_co_out _ _ (by omega), mk_co_out _ _ (by omega), mk_co_out _ _ (by omega)]
  have h3 : mk_ep (2 * g) (mk_ep (2 * g + 1) q.2.2.1 1) 1 = mk_ep (2 * g + 1) (mk_ep (2 * g) q.2.2.1 1) 1 := by
    funext j
    by_cases hj : j < 12
    · rw [mk_ep_nat, mk_ep_nat _ q.2.2.1, mk_ep_nat _ (mk_ep (2 * g) q.2.2.1 1), mk_ep_nat _ q.2.2.1, (mt_ope g hg j hj).1]
    · rw [mk_ep_out _ _ (by omega), mk_ep_out _ _ (by omega), mk_ep_out _ _ (by omega), mk_ep_out _ _ (by omega)]
  have h4 : mk_eo (2 * g) (mk_eo (2 * g + 1) q.2.2.2 1) 1 = mk_eo (2 * g + 1) (mk_eo (2 * g) q.2.2.2 1) 1 := by
    funext j
    by_cases hj : j < 12
    · rw [mk_eo_nf _ (eo := mk_eo (2 * g + 1) q.2.2.2 1) (mk_eo_lt _ h.2.2.2 1) 1 j hj, mk_eo_nf _ (eo := mk_eo (2 * g) q.2.2.2 1) (mk_eo_lt _ h.2.2.2 1) 1 j hj]
      show (mk_eo (2 * g + 1) q.2.2.2 1 _ + _) % 2 = (mk_eo (2 * g) q.2.2.2 1 _ + _) % 2
      rw [mk_eo_nf _ h.2.2.2 1 _ (mk_ep_lt (2 * g) (ep := fun j => j) (fun j hj => hj) 1 j hj), mk_eo_nf _ h.2.2.2 1 _ (mk_ep_lt (2 * g + 1) (ep := fun j => j) (fun j hj => hj) 1 j hj), (mt_ope g hg j hj).1]
      exact add3 _ _ _ _ _ _ (mt_ope g hg j hj).2
    · rw [mk_eo_out _ _ (by omega), mk_eo_out _ _ (by omega), mk_eo_out _ _ (by omega), mk_eo_out _ _ (by omega)]
  show (_, _, _, _) = (_, _, _, _)
  exact congr (congrArg Prod.mk h1) (congr (congrArg Prod.mk h2) (congr (congrArg Prod.mk h3) h4))
theorem pwQ_op {g : Nat} (hg : g < 3) {q : Q4} (h : QB q) : ∀ m n, mt_pwQ (2 * g) (mt_pwQ (2 * g + 1) q m) n = mt_pwQ (2 * g + 1) (mt_pwQ (2 * g) q n) m := by
  have a : ∀ m (q : Q4), QB q → mt_pwQ (2 * g) (mt_pwQ (2 * g + 1) q m) 1 = mt_pwQ (2 * g + 1) (mt_pwQ (2 * g) q 1) m := by
    intro m
    induction m with
    | zero => intro q _; rfl
    | succ m ih => intro q h; rw [← pwQ_add _ _ m 1, pwQ_op1 hg (QB_pw _ h m), ih q h, pwQ_add]
  intro m n
  induction n with
  | zero => rfl
  | succ n ih => rw [← pwQ_add _ _ n 1, ih, a m _ (QB_pw _ h n), pwQ_add]
theorem mkQ_op {t1 t2 : Nat} {q : Q4} (h : QB q) (h1 : t1 < 18) (e1 : t2 / 3 + 1 = t1 / 3) (e2 : t2 / 3 / 2 = t1 / 3 / 2) : mkQ t2 (mkQ t1 q) = mkQ t1 (mkQ t2 q) := by
  rw [mkQ_pw, mkQ_pw, mkQ_pw, mkQ_pw, show t1 / 3 = 2 * (t1 / 3 / 2) + 1 by omega, show t2 / 3 = 2 * (t1 / 3 / 2) by omega]
  exact pwQ_op (by omega) h _ _
