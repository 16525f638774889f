def mt_cls (P : Nat → Nat) : Nat := pr_N P (fun _ => 0) (fun _ => 0)
theorem cls_lt (P : Nat → Nat) : mt_cls P < 420 := pr_lt _ _ _
theorem cls_rel {P Q : Nat → Nat} (hP : mt_prm P) (hQ : mt_prm Q) (e : mt_cls P = mt_cls Q) : RelP P Q := by
  have h1 := RelP_show hP.1 hP.2 (fun _ => 0) (fun _ => 0)
  have h2 := RelP_show hQ.1 hQ.2 (fun _ => 0) (fun _ => 0)
  rw [show pr_N P (fun _ => 0) (fun _ => 0) = pr_N Q (fun _ => 0) (fun _ => 0) from e] at h1
  exact RelP_trans h1 (RelP_symm h2)
theorem rel_cls {P Q : Nat → Nat} (hP : mt_prm P) (h : RelP P Q) : mt_cls P = mt_cls Q := pr_N_rel h (cE_perm hP.2)
def relq (k : Nat) : Bool := Nat.ble 96 k || all4 (fun a => all4 (fun b => Nat.beq (cu_bc (mt_psq k (cu_ev a)) % 2) 0 && (Nat.beq (cu_bc (mt_psq k (cu_ev a ^^^ 1)) % 2) 1 && all4 (fun c => all4 (fun d => Nat.beq (cu_ev a ^^^ cu_ev b) ((cu_ev c ^^^ 1) ^^^ (cu_ev d ^^^ 1)) == Nat.beq (mt_psq k (cu_ev a) ^^^ mt_psq k (cu_ev b)) (mt_psq k (cu_ev c ^^^ 1) ^^^ mt_psq k (cu_ev d ^^^ 1)))))))
theorem relq_0 : mt_chk relq 5 0 = true := by decide +kernel
theorem relq_1 : mt_chk relq 5 32 = true := by decide +kernel
theorem relq_2 : mt_chk relq 5 64 = true := by decide +kernel
theorem psq_rel {k : Nat} (h : k < 96) : RelP (fun j => j) (mt_psq k) := by
  have hk : relq k = true := by
    rcases (show k < 32 ∨ (32 ≤ k ∧ k < 64) ∨ 64 ≤ k by omega) with w | w | w
    · exact chk_s relq_0 k (Nat.zero_le _) (by simp; omega)
    · exact chk_s relq_1 k w.1 (by simp; omega)
    · exact chk_s relq_2 k w (by simp; omega)
  rw [relq, Bool.or_eq_true] at hk
  rcases hk with hk | hk
  · exact absurd (Nat.le_of_ble_eq_true hk) (by omega)
  have step : ∀ a, a < 4 → ∀ b, b < 4 → _ := fun a ha b hb => all4_s (all4_s hk ha) hb
  have he : ∀ a, a < 4 → mt_evn (mt_psq k (cu_ev a)) ∧ ¬ mt_evn (mt_psq k (cu_ev a ^^^ 1)) := by
    intro a ha
    have := step a ha 0 (by decide)
    rw [Bool.and_eq_true, Bool.and_eq_true] at this
    refine ⟨Nat.eq_of_beq_eq_true this.1, fun w => ?_⟩
    have e := Nat.eq_of_beq_eq_true this.2.1
    have w' : cu_bc (mt_psq k (cu_ev a ^^^ 1)) % 2 = 0 := w
    omega
  refine ⟨fun j hj => ?_, fun a b c d ha hb hc hd ea mt_eb oc od => ?_⟩
  · by_cases c : mt_evn j
    · have e := ev_p j hj c
      have := (he _ e.2).1
      rw [← e.1] at this
      exact ⟨fun _ => this, fun _ => c⟩
    · have e := od_p j hj c
      have := (he _ e.2).2
      rw [← e.1] at this
      exact ⟨fun w => absurd w c, fun w => absurd w this⟩
  · have e1 := ev_p a ha ea
    have e2 := ev_p b hb mt_eb
    have e3 := od_p c hc oc
    have e4 := od_p d hd od
    have := step _ e1.2 _ e2.2
    rw [Bool.and_eq_true, Bool.and_eq_true] at this
    have q := all4_s (all4_s this.2.2 e3.2) e4.2
    rw [← e1.1, ← e2.1, ← e3.1, ← e4.1, beq_iff_eq] at q
    constructor
    · intro w
      have w' : a ^^^ b = c ^^^ d := w
      rw [w', Nat.beq_refl] at q
      exact Nat.eq_of_beq_eq_true q.symm
    · intro w
      rw [w, Nat.beq_refl] at q
      exact Nat.eq_of_beq_eq_true q
def cmpq (k : Nat) (P : Nat → Nat) : Nat → Nat := fun j => mt_psq k (P j)
theorem cmpq_prm {k : Nat} (h : k < 96) {P : Nat → Nat} (hP : mt_prm P) : mt_prm (cmpq k P) := by
  have hk := psq_prm h
  refine ⟨fun j hj => hk.1 _ (hP.1 j hj), fun v hv => ?_⟩
  obtain ⟨x, hx, e⟩ := hk.2 v hv
  obtain ⟨j, hj, e2⟩ := hP.2 x hx
  exact ⟨j, hj, by show mt_psq k (P j) = v; rw [e2, e]⟩
theorem cmpq_rel {k : Nat} (h : k < 96) {P : Nat → Nat} (hP : mt_prm P) : RelP P (cmpq k P) := by
  have hr := psq_rel h
  exact ⟨fun j hj => hr.1 _ (hP.1 j hj), fun a b c d ha hb hc hd ea mt_eb oc od => hr.2 _ _ _ _ (hP.1 a ha) (hP.1 b hb) (hP.1 c hc) (hP.1 d hd) ea mt_eb oc od⟩
def pinv (P : Nat → Nat) (x : Nat) : Nat := if P 0 = x then 0 else if P 1 = x then 1 else if P 2 = x then 2 else if P 3 = x then 3 else if P 4 = x then 4 else if P 5 = x then 5 else if P 6 = x then 6 else 7
theorem pinv_s {P : Nat → Nat} (hP : mt_prm P) {x : Nat} (hx : x < 8) : pinv P x < 8 ∧ P (pinv P x) = x := by
  obtain ⟨j, hj, e⟩ := hP.2 x hx
  unfold pinv
  by_cases c0 : P 0 = x
  · rw [if_pos c0]; exact ⟨by decide, c0⟩
  rw [if_neg c0]
  by_cases c1 : P 1 = x
  · rw [if_pos c1]; exact ⟨by decide, c1⟩
  rw [if_neg c1]
  by_cases c2 : P 2 = x
  · rw [if_pos c2]; exact ⟨by decide, c2⟩
  rw [if_neg c2]
  by_cases c3 : P 3 = x
  · rw [if_pos c3]; exact ⟨by decide, c3⟩
  rw [if_neg c3]
  by_cases c4 : P 4 = x
  · rw [if_pos c4]; exact ⟨by decide, c4⟩
  rw [if_neg c4]
  by_cases c5 : P 5 = x
  · rw [if_pos c5]; exact ⟨by decide, c5⟩
  rw [if_neg c5]
  by_cases c6 : P 6 = x
  · rw [if_pos c6]; exact ⟨by decide, c6⟩
  rw [if_neg c6]
  refine ⟨by decide, ?_⟩
  match j, hj with
  | 0, _ => exact absurd e c0
  | 1, _ => exact absurd e c1
  | 2, _ => exact absurd e c2
  | 3, _ => exact absurd e c3
  | 4, _ => exact absurd e c4
  | 5, _ => exact absurd e c5
  | 6, _ => exact absurd e c6
  | 7, _ => exact e
theorem rel_sq {P Q : Nat → Nat} (hP : mt_prm P) (hQ : mt_prm Q) (h : RelP P Q) : ∃ k, k < 96 ∧ ∀ j, j < 8 → Q j = mt_psq k (P j) := by
  have inj := surj_inj hP.2
  have hpi : ∀ j, j < 8 → pinv P (P j) = j := fun j hj => inj _ _ (pinv_s hP (hP.1 j hj)).1 hj (pinv_s hP (hP.1 j hj)).2
  have hr : RelP (fun j => j) (fun x => Q (pinv P x)) := by
    refine ⟨fun x hx => ?_, fun a b c d ha hb hc hd ea mt_eb oc od => ?_⟩
    · have q := pinv_s hP hx
      have := h.1 _ q.1
      rw [q.2] at this
      exact this
    · have qa := pinv_s hP ha
      have qb := pinv_s hP hb
      have qc := pinv_s hP hc
      have qd := pinv_s hP hd
      have := h.2 _ _ _ _ qa.1 qb.1 qc.1 qd.1 (by rw [qa.2]; exact ea) (by rw [qb.2]; exact mt_eb) (by rw [qc.2]; exact oc) (by rw [qd.2]; exact od)
      rw [qa.2, qb.2, qc.2, qd.2] at this
      exact this
  have hp : mt_prm (fun x => Q (pinv P x)) := by
    refine ⟨fun x hx => hQ.1 _ (pinv_s hP hx).1, fun v hv => ?_⟩
    obtain ⟨j, hj, e⟩ := hQ.2 v hv
    exact ⟨P j, hP.1 j hj, by show Q (pinv P (P j)) = v; rw [hpi j hj, e]⟩
  have hs := shC_ro hp.1 hp.2 hr
  have q := qck_s hs.1
  refine ⟨mt_svq (mt_roC (fun x => Q (pinv P x))), q.2.2.1, fun j hj => ?_⟩
  rw [q.2.2.2.1 _ (hP.1 j hj), hs.2 _ (hP.1 j hj)]
  show Q j = Q (pinv P (P j))
  rw [hpi j hj]
theorem nk_v {N : Nat → Nat → Nat} (h31 : ∀ q, q < 96 → N 31 q = mt_SQL q) {P : Nat → Nat} (hP : mt_prm P) (h9 : ∀ j, j < 8 → N 9 j = P j) (kind : Nat) : ∀ Q, Q ≤ 96 → ∀ x, ((∃ q, q < Q ∧ x = mo_rk (cmpq q P) 8 8) → mo_nk kind Q N 28 x = kind) ∧ ((¬ ∃ q, q < Q ∧ x = mo_rk (cmpq q P) 8 8) → mo_nk kind Q N 28 x = N 28 x) := by
  intro Q
  induction Q with
  | zero => intro _ x; exact ⟨fun ⟨q, hq, _⟩ => absurd hq (by omega), fun _ => rfl⟩
  | succ Q ih =>
    intro hQ x
    have e31 : mo_nk kind Q N 31 = N 31 := mo_nk_k (by decide) (by decide) (by decide) kind N Q
    have e9 : mo_nk kind Q N 9 = N 9 := mo_nk_k (by decide) (by decide) (by decide) kind N Q
    have hr : mo_rk (mo_nkA (mo_nk kind Q N) Q 36) 8 8 = mo_rk (cmpq Q P) 8 8 := by
      refine rk_cg (fun j hj => ?_) 8 (Nat.le_refl _)
      have hs := psq_prm (show Q < 96 by omega)
      rw [mo_nkA_v _ _ j hj, e31, e9, h31 Q (by omega), h9 j hj]
      exact unr_rk (by decide) hs.1 hs.2 _ _ (hP.1 j hj)
    rw [mo_nk, hr]
    obtain ⟨a, b⟩ := ih (by omega) x
    by_cases e : x = mo_rk (cmpq Q P) 8 8
    · refine ⟨fun _ => by rw [e]; simp [mo_up], fun w => absurd ⟨Q, by omega, e⟩ w⟩
    · have e28 : mo_nkA (mo_nk kind Q N) Q 28 = mo_nk kind Q N 28 := mo_nkA_k (by decide) (by decide) _ _
      rw [mo_up_ne (Or.inr e), e28]
      refine ⟨fun ⟨q, h1, h2⟩ => a ⟨q, ?_, h2⟩, fun w => b (fun ⟨q, h1, h2⟩ => w ⟨q, by omega, h2⟩)⟩
      by_cases c : q = Q
      · subst c; exact absurd h2 e
      · omega
