theorem RelP_eq {P P' : Nat → Nat} (h : ∀ j, j < 8 → P j = P' j) : RelP P P' := ⟨fun j hj => by rw [h j hj], fun a b c d ha hb hc hd _ _ _ _ => by rw [h a ha, h b hb, h c hc, h d hd]⟩
theorem mk_id_sur {f : Nat} (hf : f < 6) : ∀ n, ∀ v, v < 8 → ∃ j, j < 8 ∧ mk_cp f (fun j => j) n j = v := by
  intro n
  induction n with
  | zero => intro v hv; exact ⟨v, hv, rfl⟩
  | succ n ih =>
    intro v hv
    obtain ⟨j, hj, e⟩ := ih v hv
    obtain ⟨i, hi, e2⟩ := surC f hf j hj
    exact ⟨i, hi, by rw [mk_cp, qtP_nat]; rw [show qtP cu_cr (4 * f) (fun j => j) i = j from e2]; exact e⟩
theorem cE_mk {f : Nat} (hf : f < 6) (P : Nat → Nat) (n : Nat) : mt_cE (mk_cp f P n) 8 = mt_cE P 8 := by
  have h1 : mt_cE P 8 = mo_sum (fun j => if mt_evn (P j) then 1 else 0) 8 := sum_perm 8 cu_ps (fun j => if mt_evn (P j) then 1 else 0) ps_sur
  have h2 : mt_cE (mk_cp f P n) 8 = mo_sum (fun j => if mt_evn (P j) then 1 else 0) 8 := by
    refine Eq.trans (mo_sum_congr 8 (fun k _ => ?_)) (sum_perm 8 (fun k => mk_cp f (fun j => j) n (cu_ps k)) (fun j => if mt_evn (P j) then 1 else 0) (fun v hv => ?_))
    · rw [mk_cp_nat]
    · obtain ⟨j, hj, e⟩ := mk_id_sur hf n v hv
      obtain ⟨k, hk, e2⟩ := ps_sur j hj
      exact ⟨k, hk, by show mk_cp f (fun j => j) n (cu_ps k) = v; rw [e2, e]⟩
  rw [h1, h2]
def nxpa (j : Nat) : Nat := pr_N (mk_cp (j % 6) (mt_shP (j / 6)) (mt_stp 2 (j % 6))) (fun _ => 0) (fun _ => 0)
theorem rc_pa {f : Nat} (hf : f < 6) {q : Q4} (h : mt_Lw q) (E O E' O' : Nat → Nat) : pr_N (mk_cp f q.1 (mt_stp 2 f)) E O = nxpa (6 * pr_N q.1 E' O' + f) := by
  rw [nxpa, (mt_j6 hf).1, (mt_j6 hf).2]
  exact pr_N_rel (RelP_mk (RelP_show h.1.1 h.2.1 E' O') f _) (by rw [cE_mk hf]; exact cE_perm h.2.1)
theorem mt_ts8 : ∀ n, n < 70 → mt_pc 8 (cu_ts n 8 8).1 = 4 ∧ (cu_ts n 8 8).1 < 256 := by decide +kernel
theorem and3_lt (a : Nat) : a &&& 3 < 4 := Nat.lt_succ_of_le Nat.and_le_right
theorem cE_sh {n : Nat} (hn : n < 420) : mt_cE (mt_shP n) 8 = 4 := by
  have h1 := mt_ts8 (n / 6) (by omega)
  refine Eq.trans (mo_sum_congr 8 (fun k hk => ?_)) h1.1
  have := (sh_in (cu_ts (n / 6) 8 8).1 (cu_to (n % 6) (fun _ => 0)) (fun _ => 0) 8 (Nat.le_refl _)).2 k hk
  rw [mt_shP, this]
  by_cases c : (cu_ts (n / 6) 8 8).1.testBit k = true
  · rw [if_pos c, if_pos c, if_pos (ev_e _ (and3_lt _)).1]
  · rw [if_neg c, if_neg c, if_neg (ev_e _ (to_4 _ (by omega) _ (and3_lt _))).2]
theorem to_ind (x : Nat) (f f' : Nat → Nat) {a : Nat} (ha : a < 4) : cu_to x f a = cu_to x f' a := by
  match a, ha with
  | 0, _ => rfl
  | 1, _ => rfl
  | 2, _ => rfl
  | 3, _ => rfl
theorem ln_pa : lnI_pa nxpa := by
  have key : ∀ (num face : Nat) (P E O f : Nat → Nat) (s : Nat), num < 420 → face < 6 → s = mt_stp 2 face → pr_N (mk_cp face ((sh_ (cu_ts (num / 6) 8 8).1 (cu_to (num % 6) f) P 8).2) s) E O = nxpa (6 * num + face) := by
    intro num face P E O f s hn h6 hs
    rw [nxpa, (mt_j6 h6).1, (mt_j6 h6).2, ← hs]
    have he : ∀ j, j < 8 → (sh_ (cu_ts (num / 6) 8 8).1 (cu_to (num % 6) f) P 8).2 j = mt_shP num j := by
      intro j hj
      obtain ⟨k, hk, rfl⟩ := ps_sur j hj
      rw [mt_shP, (sh_in _ _ P 8 (Nat.le_refl _)).2 k hk, (sh_in _ _ (fun _ => 0) 8 (Nat.le_refl _)).2 k hk, to_ind (num % 6) f (fun _ => 0) (and3_lt _)]
    have hr := RelP_mk (RelP_eq he) face s
    exact pr_N_rel hr (by rw [RelP_cE hr 8 (Nat.le_refl _), cE_mk h6]; exact cE_sh hn)
  refine ⟨?_, ?_⟩
  · intro num face P M E O f hn h6 _ _ _ _ h2
    exact key num face P E O f 1 hn h6 (if_pos h2).symm
  · intro num face P M E O f hn h6 _ _ _ _ h2
    exact key num face P E O f 2 hn h6 (if_neg (by omega)).symm
theorem pr_lt (P E O : Nat → Nat) : pr_N P E O < 420 := by
  have hoo := mt_oo6 (pr_ P E O 8).2.2.1 (pr_ P E O 8).2.2.2
  have hset : (pr_ P E O 8).1 < 256 := by
    refine Nat.lt_of_not_le (fun hge => ?_)
    obtain ⟨k, hk1, hk2⟩ := Nat.exists_ge_and_testBit_of_ge_two_pow (n := 8) hge
    exact absurd (((pr_in P E O 8).2.1 k).mp hk2).1 (by omega)
  have := (mt_os8 hset).1
  rw [pr_N]
  omega
theorem nxpa_lt (v f : Nat) : nxpa (6 * v + f) < 420 := pr_lt _ _ _
theorem mt_sh0 : ∀ j, j < 8 → mt_shP 0 j = j := by decide +kernel
theorem pa_0 {P : Nat → Nat} (hb : ∀ j, j < 8 → P j < 8) (h : ∀ v, v < 8 → ∃ j, j < 8 ∧ P j = v) (E O : Nat → Nat) (h0 : pr_N P E O = 0) : RelP (fun j => j) P := by
  have := RelP_show hb h E O
  rw [h0] at this
  exact RelP_symm (RelP_trans this (RelP_eq mt_sh0))
def mt_roC (P : Nat → Nat) : Nat := cu_oo (P 0 / 2 ^ 1) (P 3 / 2 ^ 1) (P 5 / 2 ^ 1) (P 6 / 2 ^ 1) * 4 + P 1 / 2 ^ 1
def mt_shC (n : Nat) (f P : Nat → Nat) : Nat → Nat := co_P ((cu_ev (cu_to (n / 4) f 0) ^^^ cu_ev (n % 4)) ^^^ 1) (cu_to (n / 4) f) P 4
theorem shC_v (n : Nat) (f P : Nat → Nat) : mt_shC n f P 0 = cu_ev (cu_to (n / 4) f 0) ∧ mt_shC n f P 3 = cu_ev (cu_to (n / 4) f 1) ∧ mt_shC n f P 5 = cu_ev (cu_to (n / 4) f 2) ∧ mt_shC n f P 6 = cu_ev (cu_to (n / 4) f 3) ∧ mt_shC n f P 1 = cu_ev (cu_to (n / 4) f 0) ^^^ ((cu_ev (cu_to (n / 4) f 0) ^^^ cu_ev (n % 4)) ^^^ 1) ∧ mt_shC n f P 2 = cu_ev (cu_to (n / 4) f 1) ^^^ ((cu_ev (cu_to (n / 4) f 0) ^^^ cu_ev (n % 4)) ^^^ 1) ∧ mt_shC n f P 4 = cu_ev (cu_to (n / 4) f 2) ^^^ ((cu_ev (cu_to (n / 4) f 0) ^^^ cu_ev (n % 4)) ^^^ 1) ∧ mt_shC n f P 7 = cu_ev (cu_to (n / 4) f 3) ^^^ ((cu_ev (cu_to (n / 4) f 0) ^^^ cu_ev (n % 4)) ^^^ 1) := ⟨rfl, rfl, rfl, rfl, rfl, rfl, rfl, rfl⟩
theorem shC_ind (n : Nat) (f f' P P' : Nat → Nat) : ∀ j, j < 8 → mt_shC n f P j = mt_shC n f' P' j := by
  intro j hj
  match j, hj with
  | 0, _ => rfl
  | 1, _ => rfl
  | 2, _ => rfl
  | 3, _ => rfl
  | 4, _ => rfl
  | 5, _ => rfl
  | 6, _ => rfl
  | 7, _ => rfl
theorem roC_cg {P P' : Nat → Nat} (h : ∀ j, j < 8 → P j = P' j) : mt_roC P = mt_roC P' := by
  rw [mt_roC, mt_roC, h 0 (by decide), h 1 (by decide), h 3 (by decide), h 5 (by decide), h 6 (by decide)]
def nxco (j : Nat) : Nat := mt_roC (mk_cp (j % 6) (mt_shC (j / 6) (fun _ => 0) (fun _ => 0)) 2)
theorem ln_co : lnI_co nxco := by
  refine ⟨fun num face P M f _ _ _ _ h => absurd h (by omega), ?_⟩
  intro num face P M f _ h6 _ _ _
  rw [nxco, (mt_j6 h6).1, (mt_j6 h6).2]
  exact roC_cg (mk_cp_cg face (shC_ind num f (fun _ => 0) P (fun _ => 0)) 2)
def mt_ooG (e : Nat) : Nat := cu_oo (mt_fcx e 0) (mt_fcx e 1) (mt_fcx e 2) (mt_fcx e 3)
def mt_ooF (e : Nat) : Bool := !(mt_fcd e 0) || (Nat.ble (mt_ooG e) 23 && (Nat.beq (cu_to (mt_ooG e) (fun _ => 0) 0) (mt_fcx e 0) && (Nat.beq (cu_to (mt_ooG e) (fun _ => 0) 1) (mt_fcx e 1) && (Nat.beq (cu_to (mt_ooG e) (fun _ => 0) 2) (mt_fcx e 2) && Nat.beq (cu_to (mt_ooG e) (fun _ => 0) 3) (mt_fcx e 3)))))
theorem ooF_ok : mt_chk mt_ooF 8 0 = true := by decide +kernel
theorem oo_to (a : Nat) (ha : a < 4) (b : Nat) (hb : b < 4) (c : Nat) (hc : c < 4) (d : Nat) (hd : d < 4) (h1 : a ≠ b) (h2 : a ≠ c) (h3 : a ≠ d) (h4 : b ≠ c) (h5 : b ≠ d) (h6 : c ≠ d) : cu_oo a b c d < 24 ∧ cu_to (cu_oo a b c d) (fun _ => 0) 0 = a ∧ cu_to (cu_oo a b c d) (fun _ => 0) 1 = b ∧ cu_to (cu_oo a b c d) (fun _ => 0) 2 = c ∧ cu_to (cu_oo a b c d) (fun _ => 0) 3 = d := by
  obtain ⟨p0, p1, p2, p3⟩ := fcx_e a b c d 0 ha hb hc hd
  rw [Nat.mul_zero, Nat.add_zero] at p0 p1 p2 p3
  have h := chk_s ooF_ok (a + 4 * b + 16 * c + 64 * d) (Nat.zero_le _) (by simp; omega)
  rw [mt_ooF, fcd_s p0 p1 p2 p3 h1 h2 h3 h4 h5 h6, Bool.not_true, Bool.false_or, mt_ooG, p0, p1, p2, p3, Bool.and_eq_true, Bool.and_eq_true, Bool.and_eq_true, Bool.and_eq_true, Nat.ble_eq] at h
  exact ⟨by omega, Nat.eq_of_beq_eq_true h.2.1, Nat.eq_of_beq_eq_true h.2.2.1, Nat.eq_of_beq_eq_true h.2.2.2.1, Nat.eq_of_beq_eq_true h.2.2.2.2⟩
theorem shC_ro {P : Nat → Nat} (hb : ∀ j, j < 8 → P j < 8) (h : ∀ v, v < 8 → ∃ j, j < 8 ∧ P j = v) (hr : RelP (fun j => j) P) : mt_roC P < 96 ∧ ∀ j, j < 8 → mt_shC (mt_roC P) (fun _ => 0) (fun _ => 0) j = P j := by
  have inj := surj_inj h
  have ne : ∀ a b, a < 8 → b < 8 → a ≠ b → P a ≠ P b := fun a b ha hb hab e => hab (inj a b ha hb e)
  have e0 := ev_p (P 0) (hb 0 (by decide)) ((hr.1 0 (by decide)).mp (by decide))
  have e3 := ev_p (P 3) (hb 3 (by decide)) ((hr.1 3 (by decide)).mp (by decide))
  have e5 := ev_p (P 5) (hb 5 (by decide)) ((hr.1 5 (by decide)).mp (by decide))
  have e6 := ev_p (P 6) (hb 6 (by decide)) ((hr.1 6 (by decide)).mp (by decide))
  have o1 := od_p (P 1) (hb 1 (by decide)) (fun q => absurd ((hr.1 1 (by decide)).mpr q) (by decide))
  have nh : ∀ a b, a < 8 → b < 8 → a ≠ b → P a = cu_ev (P a / 2) → P b = cu_ev (P b / 2) → P a / 2 ≠ P b / 2 := fun a b ha hb hab h1 h2 e => ne a b ha hb hab (by rw [h1, h2, e])
  obtain ⟨t0, t1, t2, t3, t4⟩ := oo_to (P 0 / 2) e0.2 (P 3 / 2) e3.2 (P 5 / 2) e5.2 (P 6 / 2) e6.2 (nh 0 3 (by decide) (by decide) (by decide) e0.1 e3.1) (nh 0 5 (by decide) (by decide) (by decide) e0.1 e5.1) (nh 0 6 (by decide) (by decide) (by decide) e0.1 e6.1) (nh 3 5 (by decide) (by decide) (by decide) e3.1 e5.1) (nh 3 6 (by decide) (by decide) (by decide) e3.1 e6.1) (nh 5 6 (by decide) (by decide) (by decide) e5.1 e6.1)
  have hro : mt_roC P = cu_oo (P 0 / 2) (P 3 / 2) (P 5 / 2) (P 6 / 2) * 4 + P 1 / 2 := rfl
  have hd : mt_roC P / 4 = cu_oo (P 0 / 2) (P 3 / 2) (P 5 / 2) (P 6 / 2) := by have := o1.2; omega
  have hm : mt_roC P % 4 = P 1 / 2 := by have := o1.2; omega
  refine ⟨by have := o1.2; omega, ?_⟩
  have hap : (cu_ev (P 0 / 2) ^^^ cu_ev (P 1 / 2)) ^^^ 1 = P 0 ^^^ P 1 := by
    rw [← e0.1, Nat.xor_assoc, ← o1.1]
  have hx : ∀ i j, i < 8 → j < 8 → mt_evn i → ¬ mt_evn j → i ^^^ 0 = j ^^^ 1 → P i ^^^ (P 0 ^^^ P 1) = P j := by
    intro i j hi hj ei oj he
    have := (hr.2 i 0 j 1 hi (by decide) hj (by decide) ei (by decide) oj (by decide)).mp he
    rw [← Nat.xor_assoc, this, Nat.xor_assoc, Nat.xor_self, Nat.xor_zero]
  obtain ⟨v0, v3, v5, v6, v1, v2, v4, v7⟩ := shC_v (mt_roC P) (fun _ => 0) (fun _ => 0)
  rw [hd, t1] at v0
  rw [hd, t2] at v3
  rw [hd, t3] at v5
  rw [hd, t4] at v6
  rw [hd, hm, t1, hap, ← e0.1] at v1
  rw [hd, hm, t1, t2, hap, ← e3.1] at v2
  rw [hd, hm, t1, t3, hap, ← e5.1] at v4
  rw [hd, hm, t1, t4, hap, ← e6.1] at v7
  intro j hj
  match j, hj with
  | 0, _ => rw [v0]; exact e0.1.symm
  | 1, _ => rw [v1]; exact hx 0 1 (by decide) (by decide) (by decide) (by decide) (by decide)
  | 2, _ => rw [v2]; exact hx 3 2 (by decide) (by decide) (by decide) (by decide) (by decide)
  | 3, _ => rw [v3]; exact e3.1.symm
  | 4, _ => rw [v4]; exact hx 5 4 (by decide) (by decide) (by decide) (by decide) (by decide)
  | 5, _ => rw [v5]; exact e5.1.symm
  | 6, _ => rw [v6]; exact e6.1.symm
  | 7, _ => rw [v7]; exact hx 6 7 (by decide) (by decide) (by decide) (by decide) (by decide)
theorem rc_co {f : Nat} (hf : f < 6) {q : Q4} (h : mt_Lw q) (hr : RelP (fun j => j) q.1) : mt_roC (mk_cp f q.1 2) = nxco (6 * mt_roC q.1 + f) := by
  rw [nxco, (mt_j6 hf).1, (mt_j6 hf).2]
  exact roC_cg (mk_cp_cg f (fun j hj => ((shC_ro h.1.1 h.2.1 hr).2 j hj).symm) 2)
def mt_roE (b : Nat) (P : Nat → Nat) : Nat := cu_oo (P (4 * b) &&& 3) (P (4 * b + 1) &&& 3) (P (4 * b + 2) &&& 3) (P (4 * b + 3) &&& 3)
theorem roE_cg {b : Nat} {P P' : Nat → Nat} (h : ∀ i, i < 4 → P (4 * b + i) = P' (4 * b + i)) : mt_roE b P = mt_roE b P' := by
  rw [mt_roE, mt_roE, h 1 (by decide), h 2 (by decide), h 3 (by decide), show P (4 * b) = P' (4 * b) from h 0 (by decide)]
theorem or_v (first : Nat) (g P : Nat → Nat) : ∀ i, i < 4 → or_P first g P 4 (first + i) = first + g i := by
  have key : ∀ t, t ≤ 4 → ∀ i, i < t → or_P first g P t (first + i) = first + g i := by
    intro t
    induction t with
    | zero => intro _ i hi; omega
    | succ t ih =>
      intro ht i hi
      rw [or_P]
      simp only [up1]
      split
      · next e => rw [show i = t by omega]
      · next e => exact ih (by omega) i (by by_cases q : i = t; · subst q; exact absurd rfl e
                                            · omega)
  exact key 4 (Nat.le_refl _)
def nxor (b j : Nat) : Nat := mt_roE b (mk_ep (j % 6) (or_P (4 * b) (cu_to (j / 6) (fun _ => 0)) (fun _ => 0) 4) 2)
theorem mt_eb : ∀ f, f < 6 → ∀ j, j < 12 → mk_ep f (fun j => j) 2 j / 4 = j / 4 := by decide +kernel
theorem eb_cg {f b : Nat} (hf : f < 6) (hb : b < 3) {P P' : Nat → Nat} (h : ∀ i, i < 4 → P (4 * b + i) = P' (4 * b + i)) : ∀ i, i < 4 → mk_ep f P 2 (4 * b + i) = mk_ep f P' 2 (4 * b + i) := by
  intro i hi
  have h1 := mt_eb f hf (4 * b + i) (by omega)
  rw [mk_ep_nat, mk_ep_nat f P']
  have := h (mk_ep f (fun j => j) 2 (4 * b + i) - 4 * b) (by omega)
  rw [show 4 * b + (mk_ep f (fun j => j) 2 (4 * b + i) - 4 * b) = mk_ep f (fun j => j) 2 (4 * b + i) by omega] at this
  exact this
theorem ln_or (b : Nat) (hb : b < 3) (num face : Nat) (P f : Nat → Nat) (h6 : face < 6) : mt_roE b (mk_ep face (or_P (4 * b) (cu_to num f) P 4) 2) = nxor b (6 * num + face) := by
  rw [nxor, (mt_j6 h6).1, (mt_j6 h6).2]
  exact roE_cg (eb_cg h6 hb (fun i hi => by rw [or_v _ _ _ i hi, or_v _ _ _ i hi, to_ind num f (fun _ => 0) hi]))
theorem ln_or0 : lnI_or0 (nxor 0) := ⟨fun num face P M f _ _ _ _ h => absurd h (by omega), fun num face P M f _ h6 _ _ _ => ln_or 0 (by decide) num face P f h6⟩
theorem ln_or1 : lnI_or1 (nxor 1) := ⟨fun num face P M f _ _ _ _ h => absurd h (by omega), fun num face P M f _ h6 _ _ _ => ln_or 1 (by decide) num face P f h6⟩
theorem ln_or2 : lnI_or2 (nxor 2) := ⟨fun num face P M f _ _ _ _ h => absurd h (by omega), fun num face P M f _ h6 _ _ _ => ln_or 2 (by decide) num face P f h6⟩
theorem and3_v : ∀ b, b < 3 → ∀ p, p < 12 → p / 4 = b → p &&& 3 < 4 ∧ p = 4 * b + (p &&& 3) := by decide
theorem shE_ro {b : Nat} (hb : b < 3) {P : Nat → Nat} (hl : ∀ j, j < 12 → P j < 12) (h : ∀ v, v < 12 → ∃ j, j < 12 ∧ P j = v) (hf : ∀ i, i < 4 → P (4 * b + i) / 4 = b) : mt_roE b P < 24 ∧ ∀ i, i < 4 → or_P (4 * b) (cu_to (mt_roE b P) (fun _ => 0)) (fun _ => 0) 4 (4 * b + i) = P (4 * b + i) := by
  have inj := surj_inj h
  have hv := fun i (hi : i < 4) => and3_v b hb (P (4 * b + i)) (hl _ (by omega)) (hf i hi)
  have ne : ∀ i j, i < 4 → j < 4 → i ≠ j → P (4 * b + i) &&& 3 ≠ P (4 * b + j) &&& 3 := by
    intro i j hi hj hij e
    have := inj (4 * b + i) (4 * b + j) (by omega) (by omega) (by rw [(hv i hi).2, (hv j hj).2, e])
    omega
  obtain ⟨t0, t1, t2, t3, t4⟩ := oo_to (P (4 * b + 0) &&& 3) (hv 0 (by decide)).1 (P (4 * b + 1) &&& 3) (hv 1 (by decide)).1 (P (4 * b + 2) &&& 3) (hv 2 (by decide)).1 (P (4 * b + 3) &&& 3) (hv 3 (by decide)).1 (ne 0 1 (by decide) (by decide) (by decide)) (ne 0 2 (by decide) (by decide) (by decide)) (ne 0 3 (by decide) (by decide) (by decide)) (ne 1 2 (by decide) (by decide) (by decide)) (ne 1 3 (by decide) (by decide) (by decide)) (ne 2 3 (by decide) (by decide) (by decide))
  refine ⟨t0, fun i hi => ?_⟩
  rw [or_v _ _ _ i hi]
  match i, hi with
  | 0, _ => rw [show cu_to (mt_roE b P) (fun _ => 0) 0 = P (4 * b + 0) &&& 3 from t1]; exact (hv 0 (by decide)).2.symm
  | 1, _ => rw [show cu_to (mt_roE b P) (fun _ => 0) 1 = P (4 * b + 1) &&& 3 from t2]; exact (hv 1 (by decide)).2.symm
  | 2, _ => rw [show cu_to (mt_roE b P) (fun _ => 0) 2 = P (4 * b + 2) &&& 3 from t3]; exact (hv 2 (by decide)).2.symm
  | 3, _ => rw [show cu_to (mt_roE b P) (fun _ => 0) 3 = P (4 * b + 3) &&& 3 from t4]; exact (hv 3 (by decide)).2.symm
theorem rc_or {f b : Nat} (hf : f < 6) (hb : b < 3) {q : Q4} (h : mt_Lw q) (hq : ∀ i, i < 4 → q.2.2.1 (4 * b + i) / 4 = b) : mt_roE b (mk_ep f q.2.2.1 2) = nxor b (6 * mt_roE b q.2.2.1 + f) := by
  rw [nxor, (mt_j6 hf).1, (mt_j6 hf).2]
  exact roE_cg (eb_cg hf hb (fun i hi => ((shE_ro hb h.1.2.2.1 h.2.2.1 hq).2 i hi).symm))
theorem nxco_lt : ∀ v, v < 96 → ∀ f, f < 6 → nxco (6 * v + f) < 96 := by decide +kernel
theorem nxor_lt : ∀ b, b < 3 → ∀ v, v < 24 → ∀ f, f < 6 → nxor b (6 * v + f) < 24 := by decide +kernel
