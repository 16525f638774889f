abbrev mt_evn (p : Nat) : Prop := cu_bc p % 2 = 0
def mt_cE (P : Nat → Nat) (i : Nat) : Nat := mo_sum (fun k => if mt_evn (P (cu_ps k)) then 1 else 0) i
theorem cE_le (P : Nat → Nat) : ∀ i, mt_cE P i ≤ i
  | 0 => Nat.le_refl _
  | i + 1 => by have := cE_le P i; unfold mt_cE at this ⊢; rw [mo_sum]; split <;> omega
theorem cE_s (P : Nat → Nat) (i : Nat) : mt_cE P (i + 1) = mt_cE P i + (if mt_evn (P (cu_ps i)) then 1 else 0) := rfl
theorem cE_mono (P : Nat → Nat) {i j : Nat} (h : i ≤ j) : mt_cE P i ≤ mt_cE P j ∧ i - mt_cE P i ≤ j - mt_cE P j := by
  induction j with
  | zero => rw [show i = 0 by omega]; exact ⟨Nat.le_refl _, Nat.le_refl _⟩
  | succ j ih =>
    by_cases e : i = j + 1
    · rw [e]; exact ⟨Nat.le_refl _, Nat.le_refl _⟩
    · have := ih (by omega)
      have h2 := cE_le P j
      rw [cE_s]
      split <;> omega
theorem pr_in (P E O : Nat → Nat) : ∀ i, (pr_ P E O i).2.1 = mt_cE P i ∧ (∀ k, (pr_ P E O i).1.testBit k = true ↔ k < i ∧ mt_evn (P (cu_ps k))) ∧ (∀ k, k < i → mt_evn (P (cu_ps k)) → (pr_ P E O i).2.2.1 (mt_cE P k) = P (cu_ps k)) ∧ ∀ k, k < i → ¬ mt_evn (P (cu_ps k)) → (pr_ P E O i).2.2.2 (k - mt_cE P k) = P (cu_ps k) := by
  intro i
  induction i with
  | zero => exact ⟨rfl, fun k => by rw [pr_]; simp, fun k hk => absurd hk (by omega), fun k hk => absurd hk (by omega)⟩
  | succ i ih =>
    obtain ⟨h1, h2, h3, h4⟩ := ih
    rw [pr_]
    by_cases c : mt_evn (P (cu_ps i))
    · rw [if_pos (show cu_bc (P (cu_ps i)) % 2 = 0 from c)]
      refine ⟨?_, fun k => ?_, fun k hk he => ?_, fun k hk he => ?_⟩
      · dsimp only; rw [h1, cE_s, if_pos c]
      · dsimp only
        rw [Nat.testBit_or, Nat.one_mul, Nat.testBit_two_pow, Bool.or_eq_true, h2, decide_eq_true_eq]
        constructor
        · rintro (⟨a, b⟩ | a)
          · exact ⟨by omega, b⟩
          · subst a; exact ⟨by omega, c⟩
        · rintro ⟨a, b⟩
          by_cases q : k = i
          · exact Or.inr q.symm
          · exact Or.inl ⟨by omega, b⟩
      · dsimp only
        rw [h1]
        simp only [up1]
        by_cases q : k = i
        · subst q; rw [if_pos rfl]
        · have := (cE_mono P (show k + 1 ≤ i by omega)).1
          rw [cE_s, if_pos he] at this
          rw [if_neg (by omega)]
          exact h3 k (by omega) he
      · dsimp only
        by_cases q : k = i
        · subst q; exact absurd c he
        · exact h4 k (by omega) he
    · rw [if_neg (show ¬ cu_bc (P (cu_ps i)) % 2 = 0 from c)]
      refine ⟨?_, fun k => ?_, fun k hk he => ?_, fun k hk he => ?_⟩
      · dsimp only; rw [h1, cE_s, if_neg c]; rfl
      · dsimp only
        rw [h2]
        constructor
        · rintro ⟨a, b⟩; exact ⟨by omega, b⟩
        · rintro ⟨a, b⟩
          refine ⟨?_, b⟩
          by_cases q : k = i
          · subst q; exact absurd b c
          · omega
      · dsimp only
        by_cases q : k = i
        · subst q; exact absurd he c
        · exact h3 k (by omega) he
      · dsimp only
        rw [h1]
        simp only [up1]
        by_cases q : k = i
        · subst q; rw [if_pos rfl]
        · have := (cE_mono P (show k + 1 ≤ i by omega)).2
          rw [cE_s, if_neg he] at this
          have hk2 := cE_le P k
          rw [if_neg (by omega)]
          exact h4 k (by omega) he
theorem cE_ex (P : Nat → Nat) : ∀ n a, a < mt_cE P n → ∃ k, k < n ∧ mt_evn (P (cu_ps k)) ∧ mt_cE P k = a := by
  intro n
  induction n with
  | zero => intro a h; exact absurd h (Nat.not_lt_zero _)
  | succ n ih =>
    intro a h
    by_cases q : a < mt_cE P n
    · obtain ⟨k, h1, h2⟩ := ih a q
      exact ⟨k, by omega, h2⟩
    · rw [cE_s] at h
      by_cases c : mt_evn (P (cu_ps n))
      · rw [if_pos c] at h; exact ⟨n, by omega, c, by omega⟩
      · rw [if_neg c] at h; omega
theorem cO_ex (P : Nat → Nat) : ∀ n a, a < n - mt_cE P n → ∃ k, k < n ∧ ¬ mt_evn (P (cu_ps k)) ∧ k - mt_cE P k = a := by
  intro n
  induction n with
  | zero => intro a h; exact absurd h (by omega)
  | succ n ih =>
    intro a h
    have hn := cE_le P n
    by_cases q : a < n - mt_cE P n
    · obtain ⟨k, h1, h2⟩ := ih a q
      exact ⟨k, by omega, h2⟩
    · rw [cE_s] at h
      by_cases c : mt_evn (P (cu_ps n))
      · rw [if_pos c] at h; omega
      · rw [if_neg c] at h; exact ⟨n, by omega, c, by omega⟩
def RelP (P P' : Nat → Nat) : Prop := (∀ j, j < 8 → (mt_evn (P j) ↔ mt_evn (P' j))) ∧ ∀ a b c d, a < 8 → b < 8 → c < 8 → d < 8 → mt_evn (P a) → mt_evn (P b) → ¬ mt_evn (P c) → ¬ mt_evn (P d) → (P a ^^^ P b = P c ^^^ P d ↔ P' a ^^^ P' b = P' c ^^^ P' d)
theorem RelP_refl (P : Nat → Nat) : RelP P P := ⟨fun _ _ => Iff.rfl, fun _ _ _ _ _ _ _ _ _ _ _ _ => Iff.rfl⟩
theorem RelP_symm {P P' : Nat → Nat} (h : RelP P P') : RelP P' P := ⟨fun j hj => (h.1 j hj).symm, fun a b c d ha hb hc hd ea mt_eb oc od => (h.2 a b c d ha hb hc hd ((h.1 a ha).mpr ea) ((h.1 b hb).mpr mt_eb) (fun q => oc ((h.1 c hc).mp q)) (fun q => od ((h.1 d hd).mp q))).symm⟩
theorem RelP_trans {P P' P'' : Nat → Nat} (h : RelP P P') (h' : RelP P' P'') : RelP P P'' := ⟨fun j hj => (h.1 j hj).trans (h'.1 j hj), fun a b c d ha hb hc hd ea mt_eb oc od => (h.2 a b c d ha hb hc hd ea mt_eb oc od).trans (h'.2 a b c d ha hb hc hd ((h.1 a ha).mp ea) ((h.1 b hb).mp mt_eb) (fun q => oc ((h.1 c hc).mpr q)) (fun q => od ((h.1 d hd).mpr q)))⟩
theorem RelP_mk {P P' : Nat → Nat} (h : RelP P P') (f n : Nat) : RelP (mk_cp f P n) (mk_cp f P' n) := by
  have hl := fun j (hj : j < 8) => mk_cp_lt f (cp := fun j => j) (fun j hj => hj) n j hj
  refine ⟨fun j hj => ?_, fun a b c d ha hb hc hd => ?_⟩
  · rw [mk_cp_nat, mk_cp_nat f P']; exact h.1 _ (hl j hj)
  · rw [mk_cp_nat, mk_cp_nat f P, mk_cp_nat f P, mk_cp_nat f P, mk_cp_nat f P', mk_cp_nat f P', mk_cp_nat f P', mk_cp_nat f P']
    exact h.2 _ _ _ _ (hl a ha) (hl b hb) (hl c hc) (hl d hd)
theorem ps_8 : ∀ k, k < 8 → cu_ps k < 8 := by decide
theorem RelP_cE {P P' : Nat → Nat} (h : RelP P P') (i : Nat) (hi : i ≤ 8) : mt_cE P i = mt_cE P' i := by
  refine mo_sum_congr i (fun k hk => ?_)
  have := h.1 (cu_ps k) (ps_8 k (by omega))
  by_cases c : mt_evn (P (cu_ps k))
  · rw [if_pos c, if_pos (this.mp c)]
  · rw [if_neg c, if_neg (fun q => c (this.mpr q))]
theorem pr_N_rel {P P' E O E' O' : Nat → Nat} (h : RelP P P') (h4 : mt_cE P 8 = 4) : pr_N P E O = pr_N P' E' O' := by
  obtain ⟨a1, a2, a3, a4⟩ := pr_in P E O 8
  obtain ⟨b1, b2, b3, b4⟩ := pr_in P' E' O' 8
  have hset : (pr_ P E O 8).1 = (pr_ P' E' O' 8).1 := by
    refine Nat.eq_of_testBit_eq (fun k => ?_)
    have : (pr_ P E O 8).1.testBit k = true ↔ (pr_ P' E' O' 8).1.testBit k = true := by
      rw [a2, b2]
      constructor
      · rintro ⟨q1, q2⟩; exact ⟨q1, (h.1 _ (ps_8 k q1)).mp q2⟩
      · rintro ⟨q1, q2⟩; exact ⟨q1, (h.1 _ (ps_8 k q1)).mpr q2⟩
    cases e : (pr_ P E O 8).1.testBit k <;> cases e' : (pr_ P' E' O' 8).1.testBit k
    · rfl
    · rw [e, e'] at this; exact absurd (this.mpr rfl) (by decide)
    · rw [e, e'] at this; exact absurd (this.mp rfl) (by decide)
    · rfl
  have hE : ∀ a, a < 4 → ∃ k, k < 8 ∧ mt_evn (P (cu_ps k)) ∧ (pr_ P E O 8).2.2.1 a = P (cu_ps k) ∧ (pr_ P' E' O' 8).2.2.1 a = P' (cu_ps k) := by
    intro a ha
    obtain ⟨k, k1, k2, k3⟩ := cE_ex P 8 a (by omega)
    refine ⟨k, k1, k2, ?_, ?_⟩
    · rw [← k3]; exact a3 k k1 k2
    · rw [← k3, RelP_cE h k (by omega)]; exact b3 k k1 ((h.1 _ (ps_8 k k1)).mp k2)
  have hO : ∀ a, a < 4 → ∃ k, k < 8 ∧ ¬ mt_evn (P (cu_ps k)) ∧ (pr_ P E O 8).2.2.2 a = P (cu_ps k) ∧ (pr_ P' E' O' 8).2.2.2 a = P' (cu_ps k) := by
    intro a ha
    obtain ⟨k, k1, k2, k3⟩ := cO_ex P 8 a (by omega)
    refine ⟨k, k1, k2, ?_, ?_⟩
    · rw [← k3]; exact a4 k k1 k2
    · rw [← k3, RelP_cE h k (by omega)]; exact b4 k k1 (fun q => k2 ((h.1 _ (ps_8 k k1)).mpr q))
  have hpt : ∀ o, o < 4 → pt_ (pr_ P E O 8).2.2.1 (pr_ P E O 8).2.2.2 o = pt_ (pr_ P' E' O' 8).2.2.1 (pr_ P' E' O' 8).2.2.2 o := by
    intro o ho
    obtain ⟨mt_x0, mt_x1, mt_x2, mt_x3, x4⟩ := hE 0 (by decide)
    obtain ⟨y0, y1, y2, y3, y4⟩ := hE 1 (by decide)
    obtain ⟨z0, z1, z2, z3, z4⟩ := hE 2 (by decide)
    obtain ⟨u0, u1, u2, u3, u4⟩ := hO 0 (by decide)
    obtain ⟨v0, v1, v2, v3, v4⟩ := hO o ho
    rw [pt_, pt_, mt_x3, y3, z3, u3, v3, x4, y4, z4, u4, v4]
    have e1 := h.2 _ _ _ _ (ps_8 _ mt_x1) (ps_8 _ y1) (ps_8 _ u1) (ps_8 _ v1) mt_x2 y2 u2 v2
    have e2 := h.2 _ _ _ _ (ps_8 _ mt_x1) (ps_8 _ z1) (ps_8 _ u1) (ps_8 _ v1) mt_x2 z2 u2 v2
    by_cases c1 : P (cu_ps mt_x0) ^^^ P (cu_ps y0) = P (cu_ps u0) ^^^ P (cu_ps v0)
    · rw [if_pos c1, if_pos (e1.mp c1)]
    · rw [if_neg c1, if_neg (fun q => c1 (e1.mpr q))]
      by_cases c2 : P (cu_ps mt_x0) ^^^ P (cu_ps z0) = P (cu_ps u0) ^^^ P (cu_ps v0)
      · rw [if_pos c2, if_pos (e2.mp c2)]
      · rw [if_neg c2, if_neg (fun q => c2 (e2.mpr q))]
  rw [pr_N, pr_N, hset, hpt 1 (by decide), hpt 2 (by decide), hpt 3 (by decide)]
theorem ps_inj : ∀ a, a < 8 → ∀ b, b < 8 → cu_ps a = cu_ps b → a = b := by decide
def mt_cB (set i : Nat) : Nat := mo_sum (fun k => if set.testBit k then 1 else 0) i
theorem cB_le (set : Nat) : ∀ i, mt_cB set i ≤ i
  | 0 => Nat.le_refl _
  | i + 1 => by have := cB_le set i; unfold mt_cB at this ⊢; rw [mo_sum]; split <;> omega
theorem sh_in (set : Nat) (g P : Nat → Nat) : ∀ i, i ≤ 8 → (sh_ set g P i).1 = mt_cB set i ∧ ∀ k, k < i → (sh_ set g P i).2 (cu_ps k) = if set.testBit k then cu_ev (mt_cB set k &&& 3) else cu_ev (g (k - mt_cB set k &&& 3)) ^^^ 1 := by
  intro i
  induction i with
  | zero => intro _; exact ⟨rfl, fun k hk => absurd hk (by omega)⟩
  | succ i ih =>
    intro hi
    obtain ⟨h1, h2⟩ := ih (by omega)
    have hc : mt_cB set (i + 1) = mt_cB set i + (if set.testBit i then 1 else 0) := rfl
    have key : ∀ v k, k < i + 1 → up1 (sh_ set g P i).2 (cu_ps i) v (cu_ps k) = if k = i then v else (sh_ set g P i).2 (cu_ps k) := by
      intro v k hk
      simp only [up1]
      by_cases q : k = i
      · subst q; rw [if_pos rfl, if_pos rfl]
      · rw [if_neg q, if_neg (fun e => q (ps_inj k (by omega) i (by omega) e))]
    rw [sh_]
    by_cases c : (set / 2 ^ i &&& 1) = 0
    · have cb := (div_bit set i).mp c
      rw [if_pos c]
      refine ⟨?_, fun k hk => ?_⟩
      · dsimp only; rw [hc, cb]; simp [h1]
      · dsimp only
        rw [key _ k hk]
        by_cases q : k = i
        · subst q; rw [if_pos rfl, cb, h1]; rfl
        · rw [if_neg q]; exact h2 k (by omega)
    · have cb : set.testBit i = true := by
        cases e : set.testBit i with
        | true => rfl
        | false => exact absurd ((div_bit _ _).mpr e) c
      rw [if_neg c]
      refine ⟨?_, fun k hk => ?_⟩
      · dsimp only; rw [hc, cb, h1]; rfl
      · dsimp only
        rw [key _ k hk]
        by_cases q : k = i
        · subst q; rw [if_pos rfl, cb, if_pos rfl, h1]
        · rw [if_neg q]; exact h2 k (by omega)
def mt_fcx (n : Nat) (a : Nat) : Nat := n / 4 ^ a % 4
def mt_fcd (n o : Nat) : Bool := !(Nat.beq (mt_fcx n o) (mt_fcx n (o + 1))) && !(Nat.beq (mt_fcx n o) (mt_fcx n (o + 2))) && !(Nat.beq (mt_fcx n o) (mt_fcx n (o + 3))) && !(Nat.beq (mt_fcx n (o + 1)) (mt_fcx n (o + 2))) && !(Nat.beq (mt_fcx n (o + 1)) (mt_fcx n (o + 3))) && !(Nat.beq (mt_fcx n (o + 2)) (mt_fcx n (o + 3)))
def mt_fcE (n a : Nat) : Nat := cu_ev (mt_fcx n a)
def mt_fcO (n a : Nat) : Nat := cu_ev (mt_fcx n (4 + a)) ^^^ 1
def mt_fcg (n : Nat) : Nat := cu_oo 0 (pt_ (mt_fcE n) (mt_fcO n) 1) (pt_ (mt_fcE n) (mt_fcO n) 2) (pt_ (mt_fcE n) (mt_fcO n) 3)
def all4 (f : Nat → Bool) : Bool := f 0 && f 1 && f 2 && f 3
theorem all4_s {f : Nat → Bool} (h : all4 f = true) {a : Nat} (ha : a < 4) : f a = true := by
  rw [all4, Bool.and_eq_true, Bool.and_eq_true, Bool.and_eq_true] at h
  match a, ha with
  | 0, _ => exact h.1.1.1
  | 1, _ => exact h.1.1.2
  | 2, _ => exact h.1.2
  | 3, _ => exact h.2
def mt_fcq (n x y : Nat) : Bool := all4 (fun a => all4 (fun b => all4 (fun c => all4 (fun d => (Nat.beq (mt_fcE n a ^^^ mt_fcE n b) (mt_fcO n c ^^^ mt_fcO n d)) == (Nat.beq (cu_ev a ^^^ cu_ev b) ((cu_ev (cu_to x (fun _ => y) c) ^^^ 1) ^^^ (cu_ev (cu_to x (fun _ => y) d) ^^^ 1)))))))
def mt_fcf (e : Nat) : Bool := !(mt_fcd e 0) || mt_chk (fun o => !(mt_fcd o 0) || mt_fcq (e + 256 * o) (mt_fcg (e + 256 * o)) 0) 8 0
theorem fcf_ok : mt_chk mt_fcf 8 0 = true := by decide +kernel
theorem ev_p : ∀ p, p < 8 → mt_evn p → p = cu_ev (p / 2) ∧ p / 2 < 4 := by decide
theorem od_p : ∀ p, p < 8 → ¬ mt_evn p → p = cu_ev (p / 2) ^^^ 1 ∧ p / 2 < 4 := by decide
theorem fcx_e (a b c d o : Nat) (ha : a < 4) (hb : b < 4) (hc : c < 4) (hd : d < 4) : mt_fcx (a + 4 * b + 16 * c + 64 * d + 256 * o) 0 = a ∧ mt_fcx (a + 4 * b + 16 * c + 64 * d + 256 * o) 1 = b ∧ mt_fcx (a + 4 * b + 16 * c + 64 * d + 256 * o) 2 = c ∧ mt_fcx (a + 4 * b + 16 * c + 64 * d + 256 * o) 3 = d := by
  refine ⟨?_, ?_, ?_, ?_⟩
  · show _ / 1 % 4 = _; omega
  · show _ / 4 % 4 = _; omega
  · show _ / 16 % 4 = _; omega
  · show _ / 64 % 4 = _; omega
theorem fcx_o (e a b c d : Nat) (he : e < 256) (ha : a < 4) (hb : b < 4) (hc : c < 4) (hd : d < 4) : mt_fcx (e + 256 * (a + 4 * b + 16 * c + 64 * d)) 4 = a ∧ mt_fcx (e + 256 * (a + 4 * b + 16 * c + 64 * d)) 5 = b ∧ mt_fcx (e + 256 * (a + 4 * b + 16 * c + 64 * d)) 6 = c ∧ mt_fcx (e + 256 * (a + 4 * b + 16 * c + 64 * d)) 7 = d := by
  refine ⟨?_, ?_, ?_, ?_⟩
  · show _ / 256 % 4 = _; omega
  · show _ / 1024 % 4 = _; omega
  · show _ / 4096 % 4 = _; omega
  · show _ / 16384 % 4 = _; omega
theorem fcd_s {n o a b c d : Nat} (ea : mt_fcx n o = a) (mt_eb : mt_fcx n (o + 1) = b) (ec : mt_fcx n (o + 2) = c) (ed : mt_fcx n (o + 3) = d) (h1 : a ≠ b) (h2 : a ≠ c) (h3 : a ≠ d) (h4 : b ≠ c) (h5 : b ≠ d) (h6 : c ≠ d) : mt_fcd n o = true := by
  have nb : ∀ x y : Nat, x ≠ y → (!(Nat.beq x y)) = true := fun x y h => by
    cases e : Nat.beq x y with
    | false => rfl
    | true => exact absurd (Nat.eq_of_beq_eq_true e) h
  rw [mt_fcd, ea, mt_eb, ec, ed, nb _ _ h1, nb _ _ h2, nb _ _ h3, nb _ _ h4, nb _ _ h5, nb _ _ h6]
  rfl
theorem fc_use {E O : Nat → Nat} (hE : ∀ a, a < 4 → E a < 8 ∧ mt_evn (E a)) (hO : ∀ a, a < 4 → O a < 8 ∧ ¬ mt_evn (O a)) (iE : ∀ a b, a < 4 → b < 4 → E a = E b → a = b) (iO : ∀ a b, a < 4 → b < 4 → O a = O b → a = b) : ∀ a b c d, a < 4 → b < 4 → c < 4 → d < 4 → (E a ^^^ E b = O c ^^^ O d ↔ cu_ev a ^^^ cu_ev b = (cu_ev (cu_to (cu_oo 0 (pt_ E O 1) (pt_ E O 2) (pt_ E O 3)) (fun _ => 0) c) ^^^ 1) ^^^ (cu_ev (cu_to (cu_oo 0 (pt_ E O 1) (pt_ E O 2) (pt_ E O 3)) (fun _ => 0) d) ^^^ 1)) := by
  have hx := fun a (ha : a < 4) => ev_p (E a) (hE a ha).1 (hE a ha).2
  have hy := fun a (ha : a < 4) => od_p (O a) (hO a ha).1 (hO a ha).2
  have nx : ∀ a b, a < 4 → b < 4 → a ≠ b → E a / 2 ≠ E b / 2 := fun a b ha hb hab q => hab (iE a b ha hb (by rw [(hx a ha).1, (hx b hb).1, q]))
  have ny : ∀ a b, a < 4 → b < 4 → a ≠ b → O a / 2 ≠ O b / 2 := fun a b ha hb hab q => hab (iO a b ha hb (by rw [(hy a ha).1, (hy b hb).1, q]))
  have mt_x0 := (hx 0 (by decide)).2
  have mt_x1 := (hx 1 (by decide)).2
  have mt_x2 := (hx 2 (by decide)).2
  have mt_x3 := (hx 3 (by decide)).2
  have y0 := (hy 0 (by decide)).2
  have y1 := (hy 1 (by decide)).2
  have y2 := (hy 2 (by decide)).2
  have y3 := (hy 3 (by decide)).2
  obtain ⟨p0, p1, p2, p3⟩ := fcx_e (E 0 / 2) (E 1 / 2) (E 2 / 2) (E 3 / 2) 0 mt_x0 mt_x1 mt_x2 mt_x3
  obtain ⟨q0, q1, q2, q3⟩ := fcx_e (O 0 / 2) (O 1 / 2) (O 2 / 2) (O 3 / 2) 0 y0 y1 y2 y3
  rw [Nat.mul_zero, Nat.add_zero] at p0 p1 p2 p3 q0 q1 q2 q3
  generalize he : E 0 / 2 + 4 * (E 1 / 2) + 16 * (E 2 / 2) + 64 * (E 3 / 2) = e at p0 p1 p2 p3
  generalize ho : O 0 / 2 + 4 * (O 1 / 2) + 16 * (O 2 / 2) + 64 * (O 3 / 2) = o at q0 q1 q2 q3
  have he256 : e < 256 := by omega
  have ho256 : o < 256 := by omega
  have h1 := chk_s fcf_ok e (Nat.zero_le _) (by simpa using he256)
  rw [mt_fcf, fcd_s p0 p1 p2 p3 (nx 0 1 (by decide) (by decide) (by decide)) (nx 0 2 (by decide) (by decide) (by decide)) (nx 0 3 (by decide) (by decide) (by decide)) (nx 1 2 (by decide) (by decide) (by decide)) (nx 1 3 (by decide) (by decide) (by decide)) (nx 2 3 (by decide) (by decide) (by decide)), Bool.not_true, Bool.false_or] at h1
  have h2 := chk_s h1 o (Nat.zero_le _) (by simpa using ho256)
  rw [fcd_s q0 q1 q2 q3 (ny 0 1 (by decide) (by decide) (by decide)) (ny 0 2 (by decide) (by decide) (by decide)) (ny 0 3 (by decide) (by decide) (by decide)) (ny 1 2 (by decide) (by decide) (by decide)) (ny 1 3 (by decide) (by decide) (by decide)) (ny 2 3 (by decide) (by decide) (by decide)), Bool.not_true, Bool.false_or] at h2
  obtain ⟨r0, r1, r2, r3⟩ := fcx_e (E 0 / 2) (E 1 / 2) (E 2 / 2) (E 3 / 2) o mt_x0 mt_x1 mt_x2 mt_x3
  obtain ⟨s0, s1, s2, s3⟩ := fcx_o e (O 0 / 2) (O 1 / 2) (O 2 / 2) (O 3 / 2) he256 y0 y1 y2 y3
  rw [he] at r0 r1 r2 r3
  rw [ho] at s0 s1 s2 s3
  have eE : ∀ a, a < 4 → mt_fcE (e + 256 * o) a = E a := by
    intro a ha
    rw [mt_fcE]
    match a, ha with
    | 0, _ => rw [r0]; exact (hx 0 (by decide)).1.symm
    | 1, _ => rw [r1]; exact (hx 1 (by decide)).1.symm
    | 2, _ => rw [r2]; exact (hx 2 (by decide)).1.symm
    | 3, _ => rw [r3]; exact (hx 3 (by decide)).1.symm
  have eO : ∀ a, a < 4 → mt_fcO (e + 256 * o) a = O a := by
    intro a ha
    rw [mt_fcO]
    match a, ha with
    | 0, _ => rw [show 4 + 0 = 4 from rfl, s0]; exact (hy 0 (by decide)).1.symm
    | 1, _ => rw [show 4 + 1 = 5 from rfl, s1]; exact (hy 1 (by decide)).1.symm
    | 2, _ => rw [show 4 + 2 = 6 from rfl, s2]; exact (hy 2 (by decide)).1.symm
    | 3, _ => rw [show 4 + 3 = 7 from rfl, s3]; exact (hy 3 (by decide)).1.symm
  have ept : ∀ k, k < 4 → pt_ (mt_fcE (e + 256 * o)) (mt_fcO (e + 256 * o)) k = pt_ E O k := by
    intro k hk
    rw [pt_, pt_, eE 0 (by decide), eE 1 (by decide), eE 2 (by decide), eO 0 (by decide), eO k hk]
  rw [mt_fcg, ept 1 (by decide), ept 2 (by decide), ept 3 (by decide)] at h2
  intro a b c d ha hb hc hd
  have h3 := all4_s (all4_s (all4_s (all4_s h2 ha) hb) hc) hd
  rw [eE a ha, eE b hb, eO c hc, eO d hd, beq_iff_eq] at h3
  constructor
  · intro q
    rw [q, Nat.beq_refl] at h3
    exact Nat.eq_of_beq_eq_true h3.symm
  · intro q
    rw [q, Nat.beq_refl] at h3
    exact Nat.eq_of_beq_eq_true h3
theorem ps_sur : ∀ j, j < 8 → ∃ k, k < 8 ∧ cu_ps k = j := by decide
theorem evn_id : mo_sum (fun j => if mt_evn j then 1 else 0) 8 = 4 := by decide
theorem cE_perm {P : Nat → Nat} (h : ∀ v, v < 8 → ∃ j, j < 8 ∧ P j = v) : mt_cE P 8 = 4 := by
  refine Eq.trans (sum_perm 8 (fun k => P (cu_ps k)) (fun v => if mt_evn v then 1 else 0) (fun v hv => ?_)) evn_id
  obtain ⟨j, hj, e⟩ := h v hv
  obtain ⟨k, hk, e2⟩ := ps_sur j hj
  exact ⟨k, hk, by show P (cu_ps k) = v; rw [e2, e]⟩
def mt_shP (n : Nat) : Nat → Nat := (sh_ (cu_ts (n / 6) 8 8).1 (cu_to (n % 6) (fun _ => 0)) (fun _ => 0) 8).2
theorem mt_oo6 (E O : Nat → Nat) : cu_oo 0 (pt_ E O 1) (pt_ E O 2) (pt_ E O 3) < 6 := by
  have h : ∀ o, 1 ≤ pt_ E O o ∧ pt_ E O o ≤ 3 := fun o => by rw [pt_]; split; omega; split <;> omega
  have h1 := h 1
  rw [cu_oo]
  split <;> split <;> omega
theorem ev_e : ∀ a, a < 4 → mt_evn (cu_ev a) ∧ ¬ mt_evn (cu_ev a ^^^ 1) := by decide
theorem to_4 : ∀ x, x < 6 → ∀ a, a < 4 → cu_to x (fun _ => 0) a < 4 := by decide
theorem mt_and3 {a : Nat} (h : a < 4) : a &&& 3 = a := by
  match a, h with
  | 0, _ => rfl
  | 1, _ => rfl
  | 2, _ => rfl
  | 3, _ => rfl
theorem RelP_show {P : Nat → Nat} (hb : ∀ j, j < 8 → P j < 8) (h : ∀ v, v < 8 → ∃ j, j < 8 ∧ P j = v) (E O : Nat → Nat) : RelP P (mt_shP (pr_N P E O)) := by
  have h4 := cE_perm h
  have inj := surj_inj h
  obtain ⟨a1, a2, a3, a4⟩ := pr_in P E O 8
  have hoo := mt_oo6 (pr_ P E O 8).2.2.1 (pr_ P E O 8).2.2.2
  have hset : (pr_ P E O 8).1 < 256 := by
    refine Nat.lt_of_not_le (fun hge => ?_)
    obtain ⟨k, hk1, hk2⟩ := Nat.exists_ge_and_testBit_of_ge_two_pow (n := 8) hge
    exact absurd ((a2 k).mp hk2).1 (by omega)
  have hcB : ∀ k, k ≤ 8 → mt_cB (pr_ P E O 8).1 k = mt_cE P k := by
    intro k hk
    refine mo_sum_congr k (fun i hi => ?_)
    by_cases c : mt_evn (P (cu_ps i))
    · rw [if_pos c, if_pos ((a2 i).mpr ⟨by omega, c⟩)]
    · rw [if_neg c, if_neg (fun q => c ((a2 i).mp q).2)]
  have hpc : mt_pc 8 (pr_ P E O 8).1 = 4 := (hcB 8 (Nat.le_refl _)).trans h4
  have hn6 : pr_N P E O / 6 = (cu_os (pr_ P E O 8).1 8).1 := by rw [pr_N]; omega
  have hm6 : pr_N P E O % 6 = cu_oo 0 (pt_ (pr_ P E O 8).2.2.1 (pr_ P E O 8).2.2.2 1) (pt_ (pr_ P E O 8).2.2.1 (pr_ P E O 8).2.2.2 2) (pt_ (pr_ P E O 8).2.2.1 (pr_ P E O 8).2.2.2 3) := by rw [pr_N]; omega
  have hsh : ∀ k, k < 8 → mt_shP (pr_N P E O) (cu_ps k) = if mt_evn (P (cu_ps k)) then cu_ev (mt_cE P k) else cu_ev (cu_to (pr_N P E O % 6) (fun _ => 0) (k - mt_cE P k)) ^^^ 1 := by
    intro k hk
    have := (sh_in (pr_ P E O 8).1 (cu_to (pr_N P E O % 6) (fun _ => 0)) (fun _ => 0) 8 (Nat.le_refl _)).2 k hk
    rw [mt_shP, hn6, ((mt_os8 hset).2 hpc).1, this, hcB k (by omega)]
    by_cases c : mt_evn (P (cu_ps k))
    · have hlt := (cE_mono P (show k + 1 ≤ 8 by omega)).1
      rw [cE_s, if_pos c, h4] at hlt
      rw [if_pos c, if_pos ((a2 k).mpr ⟨hk, c⟩), mt_and3 (by omega)]
    · have hlt := (cE_mono P (show k + 1 ≤ 8 by omega)).2
      rw [cE_s, if_neg c, h4] at hlt
      have := cE_le P k
      rw [if_neg c, if_neg (fun q => c ((a2 k).mp q).2), mt_and3 (by omega)]
  have hlE : ∀ k, k < 8 → mt_evn (P (cu_ps k)) → mt_cE P k < 4 := fun k hk c => by
    have hlt := (cE_mono P (show k + 1 ≤ 8 by omega)).1
    rw [cE_s, if_pos c, h4] at hlt; omega
  have hlO : ∀ k, k < 8 → ¬ mt_evn (P (cu_ps k)) → k - mt_cE P k < 4 := fun k hk c => by
    have hlt := (cE_mono P (show k + 1 ≤ 8 by omega)).2
    rw [cE_s, if_neg c, h4] at hlt
    have := cE_le P k
    omega
  have hto := to_4 (pr_N P E O % 6) (by rw [hm6]; exact hoo)
  have hfc := fc_use (E := (pr_ P E O 8).2.2.1) (O := (pr_ P E O 8).2.2.2) (by
    intro a ha
    obtain ⟨k, k1, k2, k3⟩ := cE_ex P 8 a (by omega)
    rw [← k3, a3 k k1 k2]
    exact ⟨hb _ (ps_8 k k1), k2⟩) (by
    intro a ha
    obtain ⟨k, k1, k2, k3⟩ := cO_ex P 8 a (by omega)
    rw [← k3, a4 k k1 k2]
    exact ⟨hb _ (ps_8 k k1), k2⟩) (by
    intro a b ha hb' e
    obtain ⟨k, k1, k2, k3⟩ := cE_ex P 8 a (by omega)
    obtain ⟨m, m1, m2, m3⟩ := cE_ex P 8 b (by omega)
    rw [← k3, ← m3, a3 k k1 k2, a3 m m1 m2] at e
    have := ps_inj k k1 m m1 (inj _ _ (ps_8 k k1) (ps_8 m m1) e)
    rw [← k3, ← m3, this]) (by
    intro a b ha hb' e
    obtain ⟨k, k1, k2, k3⟩ := cO_ex P 8 a (by omega)
    obtain ⟨m, m1, m2, m3⟩ := cO_ex P 8 b (by omega)
    rw [← k3, ← m3, a4 k k1 k2, a4 m m1 m2] at e
    have := ps_inj k k1 m m1 (inj _ _ (ps_8 k k1) (ps_8 m m1) e)
    rw [← k3, ← m3, this])
  refine ⟨fun j hj => ?_, fun a b c d ha hb' hc hd ea mt_eb oc od => ?_⟩
  · obtain ⟨k, hk, rfl⟩ := ps_sur j hj
    rw [hsh k hk]
    by_cases c : mt_evn (P (cu_ps k))
    · rw [if_pos c]; exact ⟨fun _ => (ev_e _ (hlE k hk c)).1, fun _ => c⟩
    · rw [if_neg c]; exact ⟨fun q => absurd q c, fun q => absurd q (ev_e _ (hto _ (hlO k hk c))).2⟩
  · obtain ⟨ka, ha', rfl⟩ := ps_sur a ha
    obtain ⟨kb, hb2, rfl⟩ := ps_sur b hb'
    obtain ⟨kc, hc', rfl⟩ := ps_sur c hc
    obtain ⟨kd, hd', rfl⟩ := ps_sur d hd
    rw [hsh ka ha', hsh kb hb2, hsh kc hc', hsh kd hd', if_pos ea, if_pos mt_eb, if_neg oc, if_neg od, hm6]
    have := hfc (mt_cE P ka) (mt_cE P kb) (kc - mt_cE P kc) (kd - mt_cE P kd) (hlE ka ha' ea) (hlE kb hb2 mt_eb) (hlO kc hc' oc) (hlO kd hd' od)
    rw [a3 ka ha' ea, a3 kb hb2 mt_eb, a4 kc hc' oc, a4 kd hd' od] at this
    exact this
