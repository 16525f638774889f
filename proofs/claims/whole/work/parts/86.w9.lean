theorem wkW_k {st : Nat} {fw : (Nat → Nat → Nat) → Nat → Nat → Nat} {k : Nat} (hfw : ∀ M, fw M k = M k) (h4 : k ≠ 4) (h5 : k ≠ 5) (h6 : k ≠ 6) (h7 : k ≠ 7) (h8 : k ≠ 8) (h9 : k ≠ 9) (N : Nat → Nat → Nat) : ∀ t, wk_W st fw N t k = N k := by
  intro t
  induction t with
  | zero => rfl
  | succ t ih =>
    rw [wk_W]
    split
    · exact ih
    · rw [mo_turn_k h4 h5 h6 h7 h8 h9, hfw, mo_turn_k h4 h5 h6 h7 h8 h9, ih]
theorem wkS_k {st : Nat} {fv : (Nat → Nat → Nat) → Nat} {fw : (Nat → Nat → Nat) → Nat → Nat → Nat} {k : Nat} (hfw : ∀ M, fw M k = M k) (h4 : k ≠ 4) (h5 : k ≠ 5) (h6 : k ≠ 6) (h7 : k ≠ 7) (h8 : k ≠ 8) (h9 : k ≠ 9) (h16 : k ≠ 16) (h17 : k ≠ 17) (d : Nat) (N : Nat → Nat → Nat) : wk_S st fv fw d N k = N k := by
  funext x
  rw [wk_S, mo_up_ne (Or.inl h16), mo_up_ne (Or.inl h17), wk_M, hfw, mo_turn_k h4 h5 h6 h7 h8 h9, wkW_k hfw h4 h5 h6 h7 h8 h9]
theorem wkD_k {st : Nat} {fv : (Nat → Nat → Nat) → Nat} {fw : (Nat → Nat → Nat) → Nat → Nat → Nat} {k : Nat} (hfw : ∀ M, fw M k = M k) (h4 : k ≠ 4) (h5 : k ≠ 5) (h6 : k ≠ 6) (h7 : k ≠ 7) (h8 : k ≠ 8) (h9 : k ≠ 9) (h16 : k ≠ 16) (h17 : k ≠ 17) : ∀ d N, wk_D st fv fw d N k = N k := by
  intro d
  induction d with
  | zero => intro N; rfl
  | succ d ih => intro N; rw [wk_D, ih, wkS_k hfw h4 h5 h6 h7 h8 h9 h16 h17]
theorem wkR_k {st : Nat} {fv : (Nat → Nat → Nat) → Nat} {fw : (Nat → Nat → Nat) → Nat → Nat → Nat} {k : Nat} (hfw : ∀ M, fw M k = M k) (h4 : k ≠ 4) (h5 : k ≠ 5) (h6 : k ≠ 6) (h7 : k ≠ 7) (h8 : k ≠ 8) (h9 : k ≠ 9) (h16 : k ≠ 16) (h17 : k ≠ 17) (h18 : k ≠ 18) (N : Nat → Nat → Nat) : wk_R st fv fw N k = N k := by
  rw [wk_R, wkD_k hfw h4 h5 h6 h7 h8 h9 h16 h17]
  funext x
  rw [mo_up_ne (Or.inl h18), hfw]
def OneW (st : Nat) (N : Nat → Nat → Nat) (q : Q4) (p : Nat × List Nat) : Prop := ∃ N', (∀ (l : Launch) (D : va_G) (cI mt_cB cS cJ cF cG : ClassId) (zz : (Nat → Prop) → State → Heap → Prop) (_ : gw_zT zz) (o : Nat) (ad : Nat → Nat), gw_CV l yX11_walk wsX11_walk 2 50 0 0 D (mo_ty cI mt_cB cS cJ cF cG) zz (mo_ws o ad cI mt_cB cS N) [.ref o, iN st] (fun M => M = N') (fun M => mo_ws o ad cI mt_cB cS M)) ∧ mt_TbN N' ∧ mt_qeq (mt_QN N') (wkQ p.2 q p.1) ∧ N' 16 0 = N 16 0 + p.1 ∧ (∀ i, N' 18 i = if i = st then p.1 else N 18 i) ∧ (∀ i, N' 17 i = if N 16 0 ≤ i ∧ i < N 16 0 + p.1 then p.2.getD (i - N 16 0) 0 else N 17 i) ∧ ∀ k, (k ≤ 3 ∨ k = 14 ∨ k = 15) → N' k = N k
theorem one_walk {st fwq : Nat} {fv : (Nat → Nat → Nat) → Nat} {fw : (Nat → Nat → Nat) → Nat → Nat → Nat} {C G : Q4 → Prop} (H : mt_WkC st fwq fv fw (mt_PkC C) C G) (hst : st < 4) (hfk : ∀ M k, k ≠ 36 → fw M k = M k) (hfar : ∀ (l : Launch) (D : va_G) (cI mt_cB cS cJ cF cG : ClassId) (zz : (Nat → Prop) → State → Heap → Prop) (_ : gw_zT zz) (o : Nat) (ad : Nat → Nat) M, mt_PkC C M → gw_CI l yX11_far wsX11_far 1 25 0 0 D (mo_ty cI mt_cB cS cJ cF cG) zz (mo_ws o ad cI mt_cB cS M) [.ref o, iN st] (fun r N' => r = nI (fv M) ∧ N' = fw M) (fun N' => mo_ws o ad cI mt_cB cS N')) {N : Nat → Nat → Nat} {q : Q4} {p : Nat × List Nat} (hT : mt_TbN N) (hq : C q) (e : mt_qeq (mt_QN N) q) (hf : mt_Fnd C G fwq q p) (h15 : p.1 ≤ 15) (h16 : N 16 0 ≤ 85) : OneW st N q p := by
  obtain ⟨w, a1, a2, a3, a4, a5, a6, a7, a8, a9⟩ := WK_R H ⟨hT, q, hq, e⟩ hq e
  have hp := Fnd_uniq (p' := (fv N, w)) hf a1 a2 a3
  subst hp
  refine ⟨wk_R st fv fw N, fun l D cI mt_cB cS cJ cF cG zz hz o ad => ?_, a5.1, a6, a7, a8, a9, fun k hk => ?_⟩
  · exact c_walk2 l D cI mt_cB cS cJ cF cG zz hz o ad N st hst fv fw (mt_PkC C) H.1 (hfar l D cI mt_cB cS cJ cF cG zz hz o ad) ⟨hT, q, hq, e⟩ (by dsimp only at h15; omega) a4
  · exact wkR_k (fun M => hfk M k (by omega)) (by omega) (by omega) (by omega) (by omega) (by omega) (by omega) (by omega) (by omega) (by omega) N
theorem stS_v (L : List Nat) (St : Nat → Nat) (c : Nat) : ∀ n i, stS L St c n i = if c ≤ i ∧ i < c + n then L.getD (i - c) 0 else St i := by
  intro n
  induction n with
  | zero => intro i; rw [stS, if_neg (by omega)]
  | succ n ih =>
    intro i
    rw [stS, up1]
    by_cases h : i = c + n
    · rw [if_pos h, if_pos (by omega), show i - c = n by omega]
    · rw [if_neg h, ih i]
      by_cases h2 : c ≤ i ∧ i < c + n
      · rw [if_pos h2, if_pos (by omega)]
      · rw [if_neg h2, if_neg (by omega)]
theorem lk_v (N : Nat → Nat → Nat) : ∀ p j, j < p → mo_lk p N 6 j = N 2 j ∧ mo_lk p N 7 j = N 3 j ∧ (j < 8 → mo_lk p N 4 j = N 0 j ∧ mo_lk p N 5 j = N 1 j) := by
  intro p
  induction p with
  | zero => intro j h; omega
  | succ p ih =>
    intro j h
    have k0 := mo_lk_k (k := 0) (by decide) (by decide) (by decide) (by decide) N p
    have k1 := mo_lk_k (k := 1) (by decide) (by decide) (by decide) (by decide) N p
    have k2 := mo_lk_k (k := 2) (by decide) (by decide) (by decide) (by decide) N p
    have k3 := mo_lk_k (k := 3) (by decide) (by decide) (by decide) (by decide) N p
    rw [mo_lk, mo_lkS]
    by_cases e : j = p
    · subst e
      by_cases c : j < 8
      · rw [if_pos c]; simp [mo_up, k0, k1, k2, k3]
      · rw [if_neg c]; simp [mo_up, k0, k1, k2, k3, c]
    · have ih := ih j (by omega)
      by_cases c : p < 8
      · rw [if_pos c]; simp [mo_up, e]; exact ih
      · rw [if_neg c]; simp [mo_up, e]; exact ih
theorem lk_qeq (M : Nat → Nat → Nat) : mt_qeq (mt_QN (mo_lk 12 M)) (mt_QM M) :=
  ⟨fun j hj => (lk_v M 12 j (by omega)).2.2 hj, fun j hj => ⟨(lk_v M 12 j hj).1, (lk_v M 12 j hj).2.1⟩⟩
theorem FrN_cg {N N' : Nat → Nat → Nat} (h : mt_FrN N) (e : ∀ k, 10 ≤ k → k ≤ 35 → (k ≤ 13 ∨ 19 ≤ k) → N' k = N k) : mt_FrN N' :=
  ⟨MT_of h.1 (e 10 (by decide) (by decide) (by decide)) (e 11 (by decide) (by decide) (by decide)) (e 12 (by decide) (by decide) (by decide)) (e 13 (by decide) (by decide) (by decide)), fun k h1 h2 => by rw [e k (by omega) h2 (by omega)]; exact h.2.1 k h1 h2, by rw [e 19 (by decide) (by decide) (by decide)]; exact h.2.2⟩
def mt_TsN (N : Nat → Nat → Nat) : Prop := mt_FrN N ∨ mt_TbN N
theorem TsN_cg {N N' : Nat → Nat → Nat} (h : mt_TsN N) (e : ∀ k, 10 ≤ k → k ≤ 35 → (k ≤ 13 ∨ 19 ≤ k) → N' k = N k) : mt_TsN N' := h.elim (fun h => Or.inl (FrN_cg h e)) (fun h => Or.inr (TbN_cg h e))
theorem TsN_MT {N : Nat → Nat → Nat} (h : mt_TsN N) : mt_MT N := h.elim (fun h => h.1) (fun h => h.1)
theorem make_any {N : Nat → Nat → Nat} (h : mt_TsN N) : ∃ M, mt_TbN M ∧ (∀ k, k ≤ 18 → k ≠ 9 → M k = N k) ∧ ∀ (l : Launch) (D : va_G) (cI mt_cB cS cJ cF cG : ClassId) (zz : (Nat → Prop) → State → Heap → Prop) (_ : gw_zT zz) (o : Nat) (ad : Nat → Nat), gw_CV l yX11_make wsX11_make 3 76 0 0 D (mo_ty cI mt_cB cS cJ cF cG) zz (mo_ws o ad cI mt_cB cS N) [.ref o] (fun N' => N' = M) (fun N' => mo_ws o ad cI mt_cB cS N') := by
  rcases h with h | h
  · exact make_ex h
  · exact ⟨N, h, fun _ _ _ => rfl, fun l D cI mt_cB cS cJ cF cG zz hz o ad => c_make_made l D cI mt_cB cS cJ cF cG zz hz o ad N h.2.2.2.2.2.2.2.2.2⟩
theorem sl_C3 {q : Q4} (h : mt_C3 q) : ∀ sl p, sl < 3 → p < 4 → 4 * sl ≤ q.2.2.1 (4 * sl + p) ∧ q.2.2.1 (4 * sl + p) < 4 * sl + 4 := fun sl p hs hp => by
  have := blk_v h hs hp
  omega
