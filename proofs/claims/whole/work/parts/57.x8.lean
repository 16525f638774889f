def mt_chk (f : Nat → Bool) : Nat → Nat → Bool
  | 0, b => f b
  | k + 1, b => mt_chk f k b && mt_chk f k (b + 2 ^ k)
theorem chk_s {f : Nat → Bool} : ∀ {k b : Nat}, mt_chk f k b = true → ∀ s, b ≤ s → s < b + 2 ^ k → f s = true := by
  intro k
  induction k with
  | zero => intro b h s h1 h2; rw [show s = b by omega]; exact h
  | succ k ih =>
    intro b h s h1 h2
    rw [mt_chk, Bool.and_eq_true] at h
    rw [Nat.pow_succ] at h2
    by_cases c : s < b + 2 ^ k
    · exact ih h.1 s h1 c
    · exact ih h.2 s (by omega) (by omega)
def mt_pc (n s : Nat) : Nat := mo_sum (fun i => if s.testBit i then 1 else 0) n
def mt_f12 (s : Nat) : Bool := Nat.ble (cu_os s 12).1 494 && (!(Nat.beq (mt_pc 12 s) 4) || (Nat.beq (cu_ts (cu_os s 12).1 12 12).1 s && (!(Nat.beq (cu_os s 12).1 0) || Nat.beq s 15)))
theorem f12_ok : mt_chk mt_f12 12 0 = true := by decide +kernel
def mt_f8 (s : Nat) : Bool := Nat.ble (cu_os s 8).1 69 && (!(Nat.beq (mt_pc 8 s) 4) || (Nat.beq (cu_ts (cu_os s 8).1 8 8).1 s && (!(Nat.beq (cu_os s 8).1 0) || Nat.beq s 15)))
theorem f8_ok : mt_chk mt_f8 8 0 = true := by decide +kernel
theorem div_bit (s i : Nat) : (s / 2 ^ i &&& 1) = 0 ↔ s.testBit i = false := by
  rw [Nat.and_one_is_mod, Nat.testBit_eq_decide_div_mod_eq]
  constructor
  · intro h; exact decide_eq_false (by omega)
  · intro h; have := of_decide_eq_false h; omega
theorem pl_bit (P : Nat → Nat) (fam psn i : Nat) : ∀ n, (pl_s P fam psn n).testBit i = true ↔ i < n ∧ P ((4 * fam + i) % psn) / 4 = fam := by
  intro n
  induction n with
  | zero => rw [pl_s]; simp
  | succ n ih =>
    rw [pl_s]
    split
    · next h =>
      rw [Nat.testBit_or, Nat.one_mul, Nat.testBit_two_pow, Bool.or_eq_true, ih, decide_eq_true_eq]
      constructor
      · rintro (⟨h1, h2⟩ | h1)
        · exact ⟨by omega, h2⟩
        · subst h1; exact ⟨by omega, h⟩
      · rintro ⟨h1, h2⟩
        by_cases q : i = n
        · exact Or.inr q.symm
        · exact Or.inl ⟨by omega, h2⟩
    · next h =>
      rw [ih]
      constructor
      · rintro ⟨h1, h2⟩; exact ⟨by omega, h2⟩
      · rintro ⟨h1, h2⟩
        refine ⟨?_, h2⟩
        by_cases q : i = n
        · subst q; exact absurd h2 h
        · omega
theorem pl_cg {P P' : Nat → Nat} {fam psn : Nat} : ∀ n, (∀ i, i < n → (P ((4 * fam + i) % psn) / 4 = fam ↔ P' ((4 * fam + i) % psn) / 4 = fam)) → pl_s P fam psn n = pl_s P' fam psn n
  | 0, _ => rfl
  | n + 1, h => by
    rw [pl_s, pl_s, pl_cg n (fun i hi => h i (by omega))]
    by_cases c : P ((4 * fam + n) % psn) / 4 = fam
    · rw [if_pos c, if_pos ((h n (by omega)).mp c)]
    · rw [if_neg c, if_neg (fun q => c ((h n (by omega)).mpr q))]
theorem pl_lt (P : Nat → Nat) (fam psn n : Nat) : pl_s P fam psn n < 2 ^ n := by
  induction n with
  | zero => rw [pl_s]; decide
  | succ n ih =>
    rw [pl_s]
    have h1 : pl_s P fam psn n < 2 ^ (n + 1) := Nat.lt_of_lt_of_le ih (Nat.pow_le_pow_right (by decide) (by omega))
    split
    · exact Nat.or_lt_two_pow h1 (by rw [Nat.one_mul]; exact Nat.pow_lt_pow_right (by decide) (by omega))
    · exact h1
theorem pc_pl (P : Nat → Nat) (fam psn n : Nat) : mt_pc n (pl_s P fam psn n) = mo_sum (fun i => if P ((4 * fam + i) % psn) / 4 = fam then 1 else 0) n := by
  refine mo_sum_congr n (fun i hi => ?_)
  by_cases c : P ((4 * fam + i) % psn) / 4 = fam
  · rw [if_pos c, if_pos ((pl_bit P fam psn i n).mpr ⟨hi, c⟩)]
  · rw [if_neg c, if_neg (fun q => c ((pl_bit P fam psn i n).mp q).2)]
theorem ps_v12 (set : Nat) (P : Nat → Nat) : ∀ t, t ≤ 12 → ∀ i, i < t → ps_P set 2 12 P t ((4 * 2 + i) % 12) = if (set / 2 ^ i &&& 1) = 0 then 4 * ((2 + 1) % 3) else 4 * 2 := by
  intro t
  induction t with
  | zero => intro _ i hi; omega
  | succ t ih =>
    intro ht i hi
    rw [ps_P]
    simp only [up1]
    split
    · next e => rw [show i = t by omega]
    · next e => exact ih (by omega) i (by by_cases q : i = t; · subst q; exact absurd rfl e
                                          · omega)
theorem ps_v8 (set : Nat) (P : Nat → Nat) : ∀ t, t ≤ 8 → ∀ i, i < t → ps_P set 0 8 P t ((4 * 0 + i) % 8) = if (set / 2 ^ i &&& 1) = 0 then 4 * ((0 + 1) % 3) else 4 * 0 := by
  intro t
  induction t with
  | zero => intro _ i hi; omega
  | succ t ih =>
    intro ht i hi
    rw [ps_P]
    simp only [up1]
    split
    · next e => rw [show i = t by omega]
    · next e => exact ih (by omega) i (by by_cases q : i = t; · subst q; exact absurd rfl e
                                          · omega)
theorem ps_i12 (set : Nat) (P P' : Nat → Nat) (j : Nat) (hj : j < 12) : ps_P set 2 12 P 12 j = ps_P set 2 12 P' 12 j := by
  have h1 := ps_v12 set P 12 (Nat.le_refl _) ((j + 4) % 12) (by omega)
  have h2 := ps_v12 set P' 12 (Nat.le_refl _) ((j + 4) % 12) (by omega)
  rw [show (4 * 2 + (j + 4) % 12) % 12 = j by omega] at h1 h2
  rw [h1, h2]
theorem ps_i8 (set : Nat) (P P' : Nat → Nat) (j : Nat) (hj : j < 8) : ps_P set 0 8 P 8 j = ps_P set 0 8 P' 8 j := by
  have h1 := ps_v8 set P 8 (Nat.le_refl _) j hj
  have h2 := ps_v8 set P' 8 (Nat.le_refl _) j hj
  rw [show (4 * 0 + j) % 8 = j by omega] at h1 h2
  rw [h1, h2]
def nxp12 (j : Nat) : Nat := (cu_os (pl_s (mk_ep (j % 6) (ps_P (cu_ts (j / 6) 12 12).1 2 12 (fun _ => 0) 12) (mt_stp 4 (j % 6))) 2 12 12) 12).1
def nxp8 (j : Nat) : Nat := (cu_os (pl_s (mk_ep (j % 6) (ps_P (cu_ts (j / 6) 8 8).1 0 8 (fun _ => 0) 8) (mt_stp 2 (j % 6))) 0 8 8) 8).1
theorem mt_e8 : ∀ f, f < 6 → ∀ j, j < 8 → mk_ep f (fun j => j) (mt_stp 2 f) j < 8 := by decide +kernel
theorem ep8_cg {f : Nat} (hf : f < 6) {P P' : Nat → Nat} (h : ∀ j, j < 8 → P j = P' j) : ∀ j, j < 8 → mk_ep f P (mt_stp 2 f) j = mk_ep f P' (mt_stp 2 f) j := by
  intro j hj
  rw [mk_ep_nat, mk_ep_nat f P', h _ (mt_e8 f hf j hj)]
theorem ln_pl12 : lnI_pl12 nxp12 := by
  refine ⟨?_, ?_⟩
  · intro num face P M _ h6 _ _ h4
    rw [nxp12, (mt_j6 h6).1, (mt_j6 h6).2, mt_stp, if_pos h4]
    exact congrArg (fun s => (cu_os s 12).1) (pl_cg 12 (fun i hi => by rw [show qtP cu_er (4 * face) (ps_P (cu_ts num 12 12).1 2 12 P 12) ((4 * 2 + i) % 12) = mk_ep face (ps_P (cu_ts num 12 12).1 2 12 (fun _ => 0) 12) 1 ((4 * 2 + i) % 12) from mk_ep_cg face (ps_i12 _ _ _) 1 _ (by omega)]))
  · intro num face P M _ h6 _ _ h4
    rw [nxp12, (mt_j6 h6).1, (mt_j6 h6).2, mt_stp, if_neg (by omega)]
    exact congrArg (fun s => (cu_os s 12).1) (pl_cg 12 (fun i hi => by rw [show qtP cu_er (4 * face) (qtP cu_er (4 * face) (ps_P (cu_ts num 12 12).1 2 12 P 12)) ((4 * 2 + i) % 12) = mk_ep face (ps_P (cu_ts num 12 12).1 2 12 (fun _ => 0) 12) 2 ((4 * 2 + i) % 12) from mk_ep_cg face (ps_i12 _ _ _) 2 _ (by omega)]))
theorem ln_pl8 : lnI_pl8 nxp8 := by
  refine ⟨?_, ?_⟩
  · intro num face P M _ h6 _ _ h4
    have hs : mt_stp 2 face = 1 := if_pos h4
    have hc := ep8_cg h6 (ps_i8 (cu_ts num 8 8).1 P (fun _ => 0))
    rw [nxp8, (mt_j6 h6).1, (mt_j6 h6).2, hs]
    rw [hs] at hc
    exact congrArg (fun s => (cu_os s 8).1) (pl_cg 8 (fun i hi => by rw [show qtP cu_er (4 * face) (ps_P (cu_ts num 8 8).1 0 8 P 8) ((4 * 0 + i) % 8) = mk_ep face (ps_P (cu_ts num 8 8).1 0 8 (fun _ => 0) 8) 1 ((4 * 0 + i) % 8) from hc _ (by omega)]))
  · intro num face P M _ h6 _ _ h4
    have hs : mt_stp 2 face = 2 := if_neg (by omega)
    have hc := ep8_cg h6 (ps_i8 (cu_ts num 8 8).1 P (fun _ => 0))
    rw [nxp8, (mt_j6 h6).1, (mt_j6 h6).2, hs]
    rw [hs] at hc
    exact congrArg (fun s => (cu_os s 8).1) (pl_cg 8 (fun i hi => by rw [show qtP cu_er (4 * face) (qtP cu_er (4 * face) (ps_P (cu_ts num 8 8).1 0 8 P 8)) ((4 * 0 + i) % 8) = mk_ep face (ps_P (cu_ts num 8 8).1 0 8 (fun _ => 0) 8) 2 ((4 * 0 + i) % 8) from hc _ (by omega)]))
theorem os12 {s : Nat} (hs : s < 4096) : (cu_os s 12).1 < 495 ∧ (mt_pc 12 s = 4 → (cu_ts (cu_os s 12).1 12 12).1 = s ∧ ((cu_os s 12).1 = 0 → s = 15)) := by
  have h := chk_s f12_ok s (Nat.zero_le _) (by simpa using hs)
  rw [mt_f12, Bool.and_eq_true, Nat.ble_eq] at h
  refine ⟨by omega, fun hp => ?_⟩
  have h2 := h.2
  rw [hp, show Nat.beq 4 4 = true from rfl, Bool.not_true, Bool.false_or, Bool.and_eq_true] at h2
  refine ⟨Nat.eq_of_beq_eq_true h2.1, fun h0 => ?_⟩
  have h3 := h2.2
  rw [h0, show Nat.beq 0 0 = true from rfl, Bool.not_true, Bool.false_or] at h3
  exact Nat.eq_of_beq_eq_true h3
theorem mt_os8 {s : Nat} (hs : s < 256) : (cu_os s 8).1 < 70 ∧ (mt_pc 8 s = 4 → (cu_ts (cu_os s 8).1 8 8).1 = s ∧ ((cu_os s 8).1 = 0 → s = 15)) := by
  have h := chk_s f8_ok s (Nat.zero_le _) (by simpa using hs)
  rw [mt_f8, Bool.and_eq_true, Nat.ble_eq] at h
  refine ⟨by omega, fun hp => ?_⟩
  have h2 := h.2
  rw [hp, show Nat.beq 4 4 = true from rfl, Bool.not_true, Bool.false_or, Bool.and_eq_true] at h2
  refine ⟨Nat.eq_of_beq_eq_true h2.1, fun h0 => ?_⟩
  have h3 := h2.2
  rw [h0, show Nat.beq 0 0 = true from rfl, Bool.not_true, Bool.false_or] at h3
  exact Nat.eq_of_beq_eq_true h3
theorem nxp12_lt (v f : Nat) : nxp12 (6 * v + f) < 495 := (os12 (pl_lt _ 2 12 12)).1
theorem nxp8_lt (v f : Nat) : nxp8 (6 * v + f) < 70 := (mt_os8 (pl_lt _ 0 8 8)).1
theorem pc12 {q : Q4} (h : mt_Lw q) : mt_pc 12 (pl_s q.2.2.1 2 12 12) = 4 := by
  rw [pc_pl]
  exact (sum_perm 12 (fun i => q.2.2.1 ((4 * 2 + i) % 12)) (fun v => if v / 4 = 2 then 1 else 0) (fun v hv => by
    obtain ⟨j, hj, e⟩ := h.2.2.1 v hv
    exact ⟨(j + 4) % 12, by omega, by show q.2.2.1 ((4 * 2 + (j + 4) % 12) % 12) = v; rw [show (4 * 2 + (j + 4) % 12) % 12 = j by omega, e]⟩)).trans (by decide)
theorem rc_p12 {f : Nat} (hf : f < 6) {q : Q4} (h : mt_Lw q) : (cu_os (pl_s (mk_ep f q.2.2.1 (mt_stp 4 f)) 2 12 12) 12).1 = nxp12 (6 * (cu_os (pl_s q.2.2.1 2 12 12) 12).1 + f) := by
  rw [nxp12, (mt_j6 hf).1, (mt_j6 hf).2, ((os12 (pl_lt _ 2 12 12)).2 (pc12 h)).1]
  have hm : ∀ j, j < 12 → (q.2.2.1 j / 4 = 2 ↔ ps_P (pl_s q.2.2.1 2 12 12) 2 12 (fun _ => 0) 12 j / 4 = 2) := by
    intro j hj
    have h1 := ps_v12 (pl_s q.2.2.1 2 12 12) (fun _ => 0) 12 (Nat.le_refl _) ((j + 4) % 12) (by omega)
    have h2 := pl_bit q.2.2.1 2 12 ((j + 4) % 12) 12
    rw [show (4 * 2 + (j + 4) % 12) % 12 = j by omega] at h1 h2
    rw [h1]
    by_cases c : (pl_s q.2.2.1 2 12 12 / 2 ^ ((j + 4) % 12) &&& 1) = 0
    · rw [if_pos c]
      rw [(div_bit _ _).mp c] at h2
      constructor
      · intro hq; exact absurd (h2.mpr ⟨by omega, hq⟩) (by decide)
      · intro hq; exact absurd hq (by decide)
    · rw [if_neg c]
      have c2 : (pl_s q.2.2.1 2 12 12).testBit ((j + 4) % 12) = true := by
        cases e : (pl_s q.2.2.1 2 12 12).testBit ((j + 4) % 12) with
        | true => rfl
        | false => exact absurd ((div_bit _ _).mpr e) c
      exact ⟨fun _ => by decide, fun _ => (h2.mp c2).2⟩
  exact congrArg (fun s => (cu_os s 12).1) (pl_cg 12 (fun i hi => by
    rw [mk_ep_nat, mk_ep_nat f (ps_P _ _ _ _ _)]
    exact hm _ (mk_ep_lt f (ep := fun j => j) (fun j hj => hj) _ _ (by omega))))
theorem rc_p8 {f : Nat} (hf : f < 6) {q : Q4} (hp : mt_pc 8 (pl_s q.2.2.1 0 8 8) = 4) : (cu_os (pl_s (mk_ep f q.2.2.1 (mt_stp 2 f)) 0 8 8) 8).1 = nxp8 (6 * (cu_os (pl_s q.2.2.1 0 8 8) 8).1 + f) := by
  rw [nxp8, (mt_j6 hf).1, (mt_j6 hf).2, ((mt_os8 (pl_lt _ 0 8 8)).2 hp).1]
  have hm : ∀ j, j < 8 → (q.2.2.1 j / 4 = 0 ↔ ps_P (pl_s q.2.2.1 0 8 8) 0 8 (fun _ => 0) 8 j / 4 = 0) := by
    intro j hj
    have h1 := ps_v8 (pl_s q.2.2.1 0 8 8) (fun _ => 0) 8 (Nat.le_refl _) j hj
    have h2 := pl_bit q.2.2.1 0 8 j 8
    rw [show (4 * 0 + j) % 8 = j by omega] at h1 h2
    rw [h1]
    by_cases c : (pl_s q.2.2.1 0 8 8 / 2 ^ j &&& 1) = 0
    · rw [if_pos c]
      rw [(div_bit _ _).mp c] at h2
      constructor
      · intro hq; exact absurd (h2.mpr ⟨hj, hq⟩) (by decide)
      · intro hq; exact absurd hq (by decide)
    · rw [if_neg c]
      have c2 : (pl_s q.2.2.1 0 8 8).testBit j = true := by
        cases e : (pl_s q.2.2.1 0 8 8).testBit j with
        | true => rfl
        | false => exact absurd ((div_bit _ _).mpr e) c
      exact ⟨fun _ => by decide, fun _ => (h2.mp c2).2⟩
  exact congrArg (fun s => (cu_os s 8).1) (pl_cg 8 (fun i hi => by
    rw [mk_ep_nat, mk_ep_nat f (ps_P _ _ _ _ _)]
    exact hm _ (mt_e8 f hf _ (by omega))))
