def mt_unq (r : Nat) : Nat → Nat := mo_unr 8 r (fun _ _ => 0) 36
theorem unq_prm {r : Nat} (hr : r < 40320) : mt_prm (mt_unq r) ∧ mo_rk (mt_unq r) 8 8 = r := rk_unr hr _
theorem unq_N {r : Nat} (hr : r < 40320) (N : Nat → Nat → Nat) : ∀ j, j < 8 → mo_unr 8 r N 36 j = mt_unq r j := by
  have h1 := rk_unr hr N
  have h2 := unq_prm hr
  exact rk_inj (by decide) h1.1.1 h1.1.2 h2.1.1 h2.1.2 (h1.2.trans h2.2.symm)
def mt_KdI (N1 N : Nat → Nat → Nat) (c R : Nat) : Prop :=
  (∀ a, a ≠ 9 → a ≠ 28 → a ≠ 29 → a ≠ 36 → a ≠ 37 → N a = N1 a) ∧
  (∀ i, i < c → N 29 i < 40320) ∧
  (∀ P, mt_prm P → N 28 (mo_rk P 8 8) < 2 ^ 31 → N 28 (mo_rk P 8 8) < c ∧ mt_cls P = mt_cls (mt_unq (N 29 (N 28 (mo_rk P 8 8))))) ∧
  (∀ P i, mt_prm P → i < c → mt_cls P = mt_cls (mt_unq (N 29 i)) → N 28 (mo_rk P 8 8) = i) ∧
  (∀ i j, i < j → j < c → mt_cls (mt_unq (N 29 i)) ≠ mt_cls (mt_unq (N 29 j))) ∧
  ∀ r, r < R → N 28 r < 2 ^ 31
theorem KdI_c {N1 N : Nat → Nat → Nat} {c R : Nat} (h : mt_KdI N1 N c R) : c ≤ 420 := by
  have h1 := mt_pig 420 (fun a => a) ((List.range c).map (fun i => mt_cls (mt_unq (N 29 i)))) (nodup_map (fun i j a b => h.2.2.2.2.1 i j a b)) (fun x hx => by
    rw [List.mem_map] at hx
    obtain ⟨i, _, rfl⟩ := hx
    exact ⟨_, cls_lt _, rfl⟩)
  rw [List.length_map, List.length_range] at h1
  exact h1
theorem KdI_s {N1 N : Nat → Nat → Nat} {c R : Nat} (h31 : ∀ q, q < 96 → N1 31 q = mt_SQL q) (hR : R < 40320) (h : mt_KdI N1 N c R) : mt_KdI N1 (mo_kdS R (N, c)).1 (mo_kdS R (N, c)).2 (R + 1) := by
  have hc := KdI_c h
  obtain ⟨k0, k1, k2, k3, k4, k5⟩ := h
  rw [mo_kdS]
  dsimp only
  by_cases e : 2 ^ 31 ≤ N 28 R
  · rw [if_pos e]
    obtain ⟨hP, hrk⟩ := unq_prm hR
    dsimp only
    have m9 : ∀ j, j < 8 → mo_nk1 8 (mo_unr 8 R (mo_up N 29 c R)) 9 j = mt_unq R j := fun j hj => by rw [mo_nk1_v _ 8 j hj]; exact unq_N hR _ j hj
    have m31 : ∀ q, q < 96 → mo_nk1 8 (mo_unr 8 R (mo_up N 29 c R)) 31 q = mt_SQL q := fun q hq => by
      rw [mo_nk1_k (by decide), mo_unr_k (by decide), mo_up_ne (Or.inl (by decide)), k0 31 (by decide) (by decide) (by decide) (by decide) (by decide)]
      exact h31 q hq
    have m28 : mo_nk1 8 (mo_unr 8 R (mo_up N 29 c R)) 28 = N 28 := by
      rw [mo_nk1_k (by decide), mo_unr_k (by decide)]
      funext x; exact mo_up_ne (Or.inl (by decide))
    have v28 := fun x => nk_v m31 hP m9 c 96 (Nat.le_refl _) x
    rw [m28] at v28
    have v29 : ∀ x, mo_name R c (mo_up N 29 c R) 29 x = if x = c then R else N 29 x := by
      intro x
      rw [mo_name, mo_nk_k (by decide) (by decide) (by decide), mo_nk1_k (by decide), mo_unr_k (by decide)]
      simp [mo_up]
    have v29c : mo_name R c (mo_up N 29 c R) 29 c = R := by rw [v29, if_pos rfl]
    have v29i : ∀ i, i < c → mo_name R c (mo_up N 29 c R) 29 i = N 29 i := fun i hi => by rw [v29, if_neg (by omega)]
    have hw : ∀ P, mt_prm P → ((∃ q, q < 96 ∧ mo_rk P 8 8 = mo_rk (cmpq q (mt_unq R)) 8 8) ↔ mt_cls P = mt_cls (mt_unq R)) := by
      intro P hPp
      constructor
      · rintro ⟨q, hq, w⟩
        have hcq := cmpq_prm hq hP
        have hj := rk_inj (by decide) hPp.1 hPp.2 hcq.1 hcq.2 w
        rw [rel_cls hP (cmpq_rel hq hP)]
        exact rel_cls hPp (RelP_eq hj)
      · intro w
        obtain ⟨q, hq, hj⟩ := rel_sq hP hPp (cls_rel hP hPp w.symm)
        exact ⟨q, hq, rk_cg (fun j hj' => hj j hj') 8 (Nat.le_refl _)⟩
    have hnew : ∀ i, i < c → mt_cls (mt_unq (N 29 i)) ≠ mt_cls (mt_unq R) := by
      intro i hi w
      have := k3 (mt_unq R) i hP hi w.symm
      rw [hrk] at this
      omega
    refine ⟨fun a b1 b2 b3 b4 b5 => ?_, fun i hi => ?_, fun P hPp w => ?_, fun P i hPp hi w => ?_, fun i j hij hj => ?_, fun r hr => ?_⟩
    · rw [mo_name, mo_nk_k b4 b5 b2, mo_nk1_k b1, mo_unr_k b4]
      funext x
      rw [mo_up_ne (Or.inl b3), k0 a b1 b2 b3 b4 b5]
    · rw [v29]
      split
      · exact hR
      · exact k1 i (by omega)
    · by_cases q : mt_cls P = mt_cls (mt_unq R)
      · have := (v28 (mo_rk P 8 8)).1 ((hw P hPp).mpr q)
        rw [show mo_name R c (mo_up N 29 c R) 28 (mo_rk P 8 8) = c from this, v29c]
        exact ⟨by omega, q⟩
      · have e2 : mo_name R c (mo_up N 29 c R) 28 (mo_rk P 8 8) = N 28 (mo_rk P 8 8) := (v28 (mo_rk P 8 8)).2 (fun w2 => q ((hw P hPp).mp w2))
        rw [e2] at w ⊢
        have := k2 P hPp w
        rw [v29i _ this.1]
        exact ⟨by omega, this.2⟩
    · by_cases q : i = c
      · subst q
        rw [v29c] at w
        exact (v28 (mo_rk P 8 8)).1 ((hw P hPp).mpr w)
      · have hi' : i < c := by omega
        rw [v29i i hi'] at w
        have e2 : mo_name R c (mo_up N 29 c R) 28 (mo_rk P 8 8) = N 28 (mo_rk P 8 8) := (v28 (mo_rk P 8 8)).2 (fun w2 => hnew i hi' (w.symm.trans ((hw P hPp).mp w2)))
        rw [e2]
        exact k3 P i hPp hi' w
    · by_cases q : j = c
      · subst q
        rw [v29c, v29i i hij]
        exact hnew i hij
      · rw [v29i i (by omega), v29i j (by omega)]
        exact k4 i j hij (by omega)
    · by_cases q : ∃ q, q < 96 ∧ r = mo_rk (cmpq q (mt_unq R)) 8 8
      · rw [show mo_name R c (mo_up N 29 c R) 28 r = c from (v28 r).1 q]; omega
      · rw [show mo_name R c (mo_up N 29 c R) 28 r = N 28 r from (v28 r).2 q]
        by_cases q2 : r = R
        · subst q2
          refine absurd ⟨0, by decide, ?_⟩ q
          have e0 : mo_rk (cmpq 0 (mt_unq r)) 8 8 = mo_rk (mt_unq r) 8 8 := rk_cg (fun j hj => by
            show mt_psq 0 (mt_unq r j) = mt_unq r j
            exact psq_0 _ (hP.1 j hj)) 8 (Nat.le_refl _)
          rw [e0, hrk]
        · exact k5 r (by omega)
  · rw [if_neg e]
    refine ⟨k0, k1, k2, k3, k4, fun r hr => ?_⟩
    by_cases q : r = R
    · subst q; dsimp only; omega
    · exact k5 r (by omega)
theorem KdI_all {N1 N : Nat → Nat → Nat} (h31 : ∀ q, q < 96 → N1 31 q = mt_SQL q) (h : mt_KdI N1 N 0 0) : ∀ R, R ≤ 40320 → mt_KdI N1 (mo_kd R (N, 0)).1 (mo_kd R (N, 0)).2 R := by
  intro R
  induction R with
  | zero => intro _; exact h
  | succ R ih => intro hR; exact KdI_s h31 (by omega) (ih (by omega))
