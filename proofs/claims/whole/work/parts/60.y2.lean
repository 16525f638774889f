def mt_NX : Nat → Nat → Nat → Nat
  | 0, _ => nxme
  | 1, 0 => nxmc
  | 1, _ => nxp12
  | 2, 0 => nxpa
  | 2, _ => nxp8
  | _, 0 => nxco
  | _, i + 1 => nxor i
def mt_x0 (q : Q4) : Nat → Nat := rv0 q.1 q.2.1 q.2.2.1 q.2.2.2 (fun _ _ => 0)
def mt_x1 (q : Q4) : Nat → Nat := rv1 q.1 q.2.1 q.2.2.1 q.2.2.2 (fun _ _ => 0)
def mt_x2 (q : Q4) : Nat → Nat := rv2 q.1 q.2.1 q.2.2.1 q.2.2.2 (fun _ _ => 0)
def mt_x3 (q : Q4) : Nat → Nat := rv3 q.1 q.2.1 q.2.2.1 q.2.2.2 (fun _ _ => 0)
def mt_C1 (q : Q4) : Prop := mt_Lw q ∧ sv0q q = 0
def mt_C2 (q : Q4) : Prop := mt_C1 q ∧ sv1q q = 0
def mt_C3 (q : Q4) : Prop := mt_C2 q ∧ sv2q q = 0
def mt_G0 (q : Q4) : Prop := sv0q q = 0
def mt_G1 (q : Q4) : Prop := sv1q q = 0
def mt_G2 (q : Q4) : Prop := sv2q q = 0
def mt_G3 (q : Q4) : Prop := sv3q q = 0
theorem sv_0 {sz y : Nat → Nat} : ∀ n, (∀ i, i < n → 0 < sz i) → (sv_ sz y n = 0 ↔ ∀ i, i < n → y i = 0)
  | 0, _ => ⟨fun _ i hi => absurd hi (by omega), fun _ => rfl⟩
  | n + 1, hz => by
    have ih := sv_0 (sz := sz) (y := y) n (fun i hi => hz i (by omega))
    rw [sv_]
    constructor
    · intro h i hi
      have h1 : y n = 0 := by omega
      have h2 : sv_ sz y n = 0 := by
        rcases Nat.eq_zero_or_pos (sv_ sz y n) with q | q
        · exact q
        · have := Nat.mul_pos q (hz n (by omega)); omega
      by_cases e : i = n
      · rw [e]; exact h1
      · exact ih.mp h2 i (by omega)
    · intro h
      rw [ih.mpr (fun i hi => h i (by omega)), h n (by omega), Nat.zero_mul]
theorem yI_pw {C : Q4 → Prop} {nx : Nat → Nat → Nat} {nf fwq : Nat} {x : Q4 → Nat → Nat} (hC : ∀ a f, C a → f < 6 → C (mt_pwQ f a (mt_stp fwq f))) (hR : ∀ a f j, C a → f < 6 → j < nf → x (mt_pwQ f a (mt_stp fwq f)) j = nx j (6 * x a j + f)) {a : Q4} {f : Nat} (ha : C a) (hf : f < 6) : ∀ i, C (mt_pwQ f a (i * mt_stp fwq f)) ∧ ∀ j, j < nf → yI nx f (x a) i j = x (mt_pwQ f a (i * mt_stp fwq f)) j := by
  intro i
  induction i with
  | zero => rw [Nat.zero_mul]; exact ⟨ha, fun j _ => rfl⟩
  | succ i ih =>
    have e : mt_pwQ f a ((i + 1) * mt_stp fwq f) = mt_pwQ f (mt_pwQ f a (i * mt_stp fwq f)) (mt_stp fwq f) := by rw [pwQ_add, Nat.add_mul, Nat.one_mul]
    rw [e]
    refine ⟨hC _ f ih.1 hf, fun j hj => ?_⟩
    rw [hR _ f j ih.1 hf hj, yI, av_, ih.2 j hj]
theorem yI_mk {C : Q4 → Prop} {nx : Nat → Nat → Nat} {nf fwq : Nat} {x : Q4 → Nat → Nat} (hC : ∀ a f, C a → f < 6 → C (mt_pwQ f a (mt_stp fwq f))) (hR : ∀ a f j, C a → f < 6 → j < nf → x (mt_pwQ f a (mt_stp fwq f)) j = nx j (6 * x a j + f)) : ∀ a f i, C a → f < 6 → i < to_ fwq f → ∀ j, j < nf → yI nx f (x a) (i + 1) j = x (mkQ (ft_ fwq f + i) a) j := by
  intro a f i ha hf hi j hj
  rw [(yI_pw hC hR ha hf (i + 1)).2 j hj, mkQ_pw]
  unfold to_ at hi
  unfold ft_ mt_stp
  split at hi
  · next h => rw [if_pos h, if_pos h, show (3 * f + i) / 3 = f by omega, show (3 * f + i) % 3 + 1 = (i + 1) * 1 by omega]
  · next h => rw [if_neg h, if_neg h, show (3 * f + 1 + i) / 3 = f by omega, show (3 * f + 1 + i) % 3 + 1 = (i + 1) * 2 by omega]
theorem pw_al {C : Q4 → Prop} {fwq : Nat} (hC : ∀ a f, C a → f < 6 → C (mt_pwQ f a (mt_stp fwq f))) : ∀ a t, C a → t < 18 → mt_alq fwq t → C (mkQ t a) := by
  intro a t ha ht hal
  have key : ∀ i, C (mt_pwQ (t / 3) a (i * mt_stp fwq (t / 3))) := by
    intro i
    induction i with
    | zero => rw [Nat.zero_mul]; exact ha
    | succ i ih => rw [Nat.add_mul, Nat.one_mul, ← pwQ_add]; exact hC _ _ ih (by omega)
  rw [mkQ_pw]
  unfold mt_alq at hal
  by_cases c : t / 3 < fwq
  · have := key (t % 3 + 1)
    rw [mt_stp, if_pos c, Nat.mul_one] at this
    exact this
  · have := key 1
    rw [mt_stp, if_neg c, Nat.one_mul] at this
    rw [show t % 3 + 1 = 2 by omega]
    exact this
theorem z_keep {C : Q4 → Prop} {nx : Nat → Nat → Nat} {nf fwq fw2 : Nat} {x : Q4 → Nat → Nat} (hC : ∀ a f, C a → f < 6 → C (mt_pwQ f a (mt_stp fwq f))) (hR : ∀ a f j, C a → f < 6 → j < nf → x (mt_pwQ f a (mt_stp fwq f)) j = nx j (6 * x a j + f)) (hf2 : fw2 ≤ fwq) (hz : ∀ f, f < 6 → ∀ j, j < nf → yI nx f (fun _ => 0) (if f < fwq then mt_stp fw2 f else 1) j = 0) {a : Q4} {f : Nat} (ha : C a) (hf : f < 6) (h0 : ∀ j, j < nf → x a j = 0) : C (mt_pwQ f a (mt_stp fw2 f)) ∧ ∀ j, j < nf → x (mt_pwQ f a (mt_stp fw2 f)) j = 0 := by
  have h1 := yI_pw hC hR ha hf (if f < fwq then mt_stp fw2 f else 1)
  have e : (if f < fwq then mt_stp fw2 f else 1) * mt_stp fwq f = mt_stp fw2 f := by
    unfold mt_stp
    by_cases c : f < fwq
    · rw [if_pos c, if_pos c, Nat.mul_one]
    · rw [if_neg c, if_neg c, if_neg (by omega)]
  rw [e] at h1
  refine ⟨h1.1, fun j hj => ?_⟩
  rw [← h1.2 j hj, yI_congr nx f (y := fun _ => 0) h0 _ j hj]
  exact hz f hf j hj
theorem Lw_st {fwq : Nat} : ∀ a f, mt_Lw a → f < 6 → mt_Lw (mt_pwQ f a (mt_stp fwq f)) := fun _ _ h hf => Lw_pw hf h _
theorem mt_rc0 : ∀ a f j, mt_Lw a → f < 6 → j < 1 → mt_x0 (mt_pwQ f a (mt_stp 6 f)) j = mt_NX 0 j (6 * mt_x0 a j + f) := fun _ _ _ h hf _ => rc_me hf h
theorem mt_lt0 : ∀ a, mt_Lw a → ∀ i, i < 1 → mt_x0 a i < sz0 i := fun _ h _ _ => mr_lt 2 11 (fun j hj => h.1.2.2.2 j (by omega))
theorem mt_z0' : ∀ f, f < 6 → ∀ j, j < 1 → yI (mt_NX 0) f (fun _ => 0) (if f < 6 then mt_stp 4 f else 1) j = 0 := by decide +kernel
theorem mt_d0 {q : Q4} (h : sv0q q = 0) : ∀ j, j < 1 → mt_x0 q j = 0 := (sv_0 (sz := sz0) (y := mt_x0 q) 1 sz0_pos).mp h
theorem C1_st {a : Q4} {f : Nat} (h : mt_C1 a) (hf : f < 6) : mt_C1 (mt_pwQ f a (mt_stp 4 f)) := by
  have := z_keep (C := mt_Lw) (fwq := 6) (fw2 := 4) Lw_st mt_rc0 (by decide) mt_z0' h.1 hf (mt_d0 h.2)
  exact ⟨this.1, (sv_0 (sz := sz0) (y := mt_x0 _) 1 sz0_pos).mpr this.2⟩
theorem mt_rc1 : ∀ a f j, mt_Lw a → f < 6 → j < 2 → mt_x1 (mt_pwQ f a (mt_stp 4 f)) j = mt_NX 1 j (6 * mt_x1 a j + f) := by
  intro a f j h hf hj
  match j, hj with
  | 0, _ => exact rc_mc hf h
  | 1, _ => exact rc_p12 hf h
theorem mt_lt1 : ∀ a, mt_Lw a → ∀ i, i < 2 → mt_x1 a i < sz1 i := by
  intro a h i hi
  match i, hi with
  | 0, _ => exact mr_lt 3 7 (fun j hj => h.1.2.1 j (by omega))
  | 1, _ => exact (os12 (pl_lt _ 2 12 12)).1
theorem mt_z1' : ∀ f, f < 6 → ∀ j, j < 2 → yI (mt_NX 1) f (fun _ => 0) (if f < 4 then mt_stp 2 f else 1) j = 0 := by decide +kernel
theorem mt_d1 {q : Q4} (h : sv1q q = 0) : ∀ j, j < 2 → mt_x1 q j = 0 := (sv_0 (sz := sz1) (y := mt_x1 q) 2 sz1_pos).mp h
theorem C1_st2 {a : Q4} {f : Nat} (h : mt_C1 a) (hf : f < 6) : mt_C1 (mt_pwQ f a (mt_stp 2 f)) := by
  by_cases c : f < 2
  · have := C1_st h hf
    rw [mt_stp, if_pos (by omega)] at this
    rw [mt_stp, if_pos c]; exact this
  · by_cases c4 : f < 4
    · have h1 := C1_st h hf
      have h2 := C1_st h1 hf
      rw [pwQ_add, mt_stp, if_pos c4] at h2
      rw [mt_stp, if_neg c]; exact h2
    · have := C1_st h hf
      rw [mt_stp, if_neg c4] at this
      rw [mt_stp, if_neg c]; exact this
theorem C2_st {a : Q4} {f : Nat} (h : mt_C2 a) (hf : f < 6) : mt_C2 (mt_pwQ f a (mt_stp 2 f)) := by
  have := z_keep (C := mt_Lw) (fwq := 4) (fw2 := 2) Lw_st mt_rc1 (by decide) mt_z1' h.1.1 hf (mt_d1 h.2)
  exact ⟨C1_st2 h.1 hf, (sv_0 (sz := sz1) (y := mt_x1 _) 2 sz1_pos).mpr this.2⟩
theorem bits15 : ∀ i, i < 12 → (Nat.testBit 15 i = true ↔ i < 4) := by decide
theorem mt_f1s {q : Q4} (h : mt_Lw q) (h0 : sv1q q = 0) : (∀ j, 8 ≤ j → j < 12 → q.2.2.1 j / 4 = 2) ∧ ∀ j, j < 8 → q.2.2.1 j / 4 ≠ 2 := by
  have e := ((os12 (pl_lt q.2.2.1 2 12 12)).2 (pc12 h)).2 (mt_d1 h0 1 (by decide))
  have hb := fun i => pl_bit q.2.2.1 2 12 i 12
  rw [e] at hb
  refine ⟨fun j h1 h2 => ?_, fun j hj c => ?_⟩
  · have := ((hb (j - 8)).mp ((bits15 _ (by omega)).mpr (by omega))).2
    rw [show (4 * 2 + (j - 8)) % 12 = j by omega] at this
    exact this
  · have := (bits15 (j + 4) (by omega)).mp ((hb (j + 4)).mpr ⟨by omega, by rw [show (4 * 2 + (j + 4)) % 12 = j by omega]; exact c⟩)
    omega
theorem mt_pc8 {q : Q4} (h : mt_C2 q) : mt_pc 8 (pl_s q.2.2.1 0 8 8) = 4 := by
  have hs := mt_f1s h.1.1 h.2
  have h12 : mo_sum (fun j => if q.2.2.1 j / 4 = 0 then 1 else 0) 12 = 4 := (sum_perm 12 q.2.2.1 (fun v => if v / 4 = 0 then 1 else 0) h.1.1.2.2.1).trans (by decide)
  have mt_e8 : ∀ F : Nat → Nat, mo_sum F 12 = mo_sum F 8 + F 8 + F 9 + F 10 + F 11 := fun F => rfl
  have z : ∀ j, 8 ≤ j → j < 12 → (if q.2.2.1 j / 4 = 0 then 1 else 0) = 0 := fun j h1 h2 => if_neg (by rw [hs.1 j h1 h2]; decide)
  rw [mt_e8, z 8 (by decide) (by decide), z 9 (by decide) (by decide), z 10 (by decide) (by decide), z 11 (by decide) (by decide)] at h12
  have h8 : mo_sum (fun j => if q.2.2.1 j / 4 = 0 then 1 else 0) 8 = 4 := by omega
  rw [pc_pl]
  exact (mo_sum_congr 8 (fun i hi => by rw [show (4 * 0 + i) % 8 = i by omega])).trans h8
theorem mt_rc2 : ∀ a f j, mt_C2 a → f < 6 → j < 2 → mt_x2 (mt_pwQ f a (mt_stp 2 f)) j = mt_NX 2 j (6 * mt_x2 a j + f) := by
  intro a f j h hf hj
  match j, hj with
  | 0, _ => exact rc_pa hf h.1.1 (fun _ => 0) (fun _ => 0) (fun _ => 0) (fun _ => 0)
  | 1, _ => exact rc_p8 hf (mt_pc8 h)
theorem mt_lt2 : ∀ a, mt_C2 a → ∀ i, i < 2 → mt_x2 a i < sz2 i := by
  intro a h i hi
  match i, hi with
  | 0, _ => exact pr_lt _ _ _
  | 1, _ => exact (mt_os8 (pl_lt _ 0 8 8)).1
theorem mt_z2' : ∀ f, f < 6 → ∀ j, j < 2 → yI (mt_NX 2) f (fun _ => 0) (if f < 2 then mt_stp 0 f else 1) j = 0 := by decide +kernel
theorem mt_d2 {q : Q4} (h : sv2q q = 0) : ∀ j, j < 2 → mt_x2 q j = 0 := (sv_0 (sz := sz2) (y := mt_x2 q) 2 sz2_pos).mp h
theorem C2_pw : ∀ a f, mt_C2 a → f < 6 → mt_C2 (mt_pwQ f a (mt_stp 2 f)) := fun _ _ h hf => C2_st h hf
theorem C3_st {a : Q4} {f : Nat} (h : mt_C3 a) (hf : f < 6) : mt_C3 (mt_pwQ f a (mt_stp 0 f)) := by
  have := z_keep (C := mt_C2) (fwq := 2) (fw2 := 0) C2_pw mt_rc2 (by decide) mt_z2' h.1 hf (mt_d2 h.2)
  exact ⟨this.1, (sv_0 (sz := sz2) (y := mt_x2 _) 2 sz2_pos).mpr this.2⟩
theorem mt_f2r {q : Q4} (h : mt_C3 q) : RelP (fun j => j) q.1 := pa_0 h.1.1.1.1.1 h.1.1.1.2.1 (fun _ => 0) (fun _ => 0) (mt_d2 h.2 0 (by decide))
theorem mt_f2s {q : Q4} (h : mt_C3 q) : ∀ b, b < 3 → ∀ i, i < 4 → q.2.2.1 (4 * b + i) / 4 = b := by
  have hs := mt_f1s h.1.1.1 h.1.2
  have e := ((mt_os8 (pl_lt q.2.2.1 0 8 8)).2 (mt_pc8 h.1)).2 (mt_d2 h.2 1 (by decide))
  have hb := fun i => pl_bit q.2.2.1 0 8 i 8
  rw [e] at hb
  intro b hb3 i hi
  have hl := h.1.1.1.1.2.2.1 (4 * b + i) (by omega)
  match b, hb3 with
  | 0, _ =>
    have := ((hb i).mp ((bits15 i (by omega)).mpr hi)).2
    rw [show (4 * 0 + i) % 8 = i by omega] at this
    rw [show 4 * 0 + i = i by omega]; exact this
  | 1, _ =>
    have h2 := hs.2 (4 * 1 + i) (by omega)
    have h0 : q.2.2.1 (4 * 1 + i) / 4 ≠ 0 := by
      intro c
      have := (bits15 (4 * 1 + i) (by omega)).mp ((hb (4 * 1 + i)).mpr ⟨by omega, by rw [show (4 * 0 + (4 * 1 + i)) % 8 = 4 * 1 + i by omega]; exact c⟩)
      omega
    omega
  | 2, _ => exact hs.1 (4 * 2 + i) (by omega) (by omega)
theorem mt_rc3 : ∀ a f j, mt_C3 a → f < 6 → j < 4 → mt_x3 (mt_pwQ f a (mt_stp 0 f)) j = mt_NX 3 j (6 * mt_x3 a j + f) := by
  intro a f j h hf hj
  have hL := h.1.1.1
  have e2 : mt_stp 0 f = 2 := rfl
  rw [e2]
  match j, hj with
  | 0, _ => exact rc_co hf hL (mt_f2r h)
  | 1, _ => exact rc_or (b := 0) hf (by decide) hL (mt_f2s h 0 (by decide))
  | 2, _ => exact rc_or (b := 1) hf (by decide) hL (mt_f2s h 1 (by decide))
  | 3, _ => exact rc_or (b := 2) hf (by decide) hL (mt_f2s h 2 (by decide))
theorem mt_lt3 : ∀ a, mt_C3 a → ∀ i, i < 4 → mt_x3 a i < sz3 i := by
  intro a h i hi
  have hL := h.1.1.1
  match i, hi with
  | 0, _ => exact (shC_ro hL.1.1 hL.2.1 (mt_f2r h)).1
  | 1, _ => exact (shE_ro (b := 0) (by decide) hL.1.2.2.1 hL.2.2.1 (mt_f2s h 0 (by decide))).1
  | 2, _ => exact (shE_ro (b := 1) (by decide) hL.1.2.2.1 hL.2.2.1 (mt_f2s h 1 (by decide))).1
  | 3, _ => exact (shE_ro (b := 2) (by decide) hL.1.2.2.1 hL.2.2.1 (mt_f2s h 2 (by decide))).1
theorem C3_pw : ∀ a f, mt_C3 a → f < 6 → mt_C3 (mt_pwQ f a (mt_stp 0 f)) := fun _ _ h hf => C3_st h hf
theorem C1_pw : ∀ a f, mt_C1 a → f < 6 → mt_C1 (mt_pwQ f a (mt_stp 4 f)) := fun _ _ h hf => C1_st h hf
theorem rc1' : ∀ a f j, mt_C1 a → f < 6 → j < 2 → mt_x1 (mt_pwQ f a (mt_stp 4 f)) j = mt_NX 1 j (6 * mt_x1 a j + f) := fun a f j h => mt_rc1 a f j h.1
theorem nxP0 : nxP (mt_NX 0) sz0 1 := fun fc _ i _ v _ => nxme_lt v fc
theorem nxP1 : nxP (mt_NX 1) sz1 2 := by
  intro fc _ i hi v _
  match i, hi with
  | 0, _ => exact nxmc_lt v fc
  | 1, _ => exact nxp12_lt v fc
theorem nxP2 : nxP (mt_NX 2) sz2 2 := by
  intro fc _ i hi v _
  match i, hi with
  | 0, _ => exact nxpa_lt v fc
  | 1, _ => exact nxp8_lt v fc
theorem nxP3 : nxP (mt_NX 3) sz3 4 := by
  intro fc hf i hi v hv
  match i, hi with
  | 0, _ => exact nxco_lt v hv fc hf
  | 1, _ => exact nxor_lt 0 (by decide) v hv fc hf
  | 2, _ => exact nxor_lt 1 (by decide) v hv fc hf
  | 3, _ => exact nxor_lt 2 (by decide) v hv fc hf
theorem mt_lnA : ln0 (mt_NX 0) ∧ ln1 (mt_NX 1) ∧ ln2 (mt_NX 2) ∧ ln3 (mt_NX 3) := ⟨ln_me, ⟨ln_mc, ln_pl12⟩, ⟨ln_pa, ln_pl8⟩, ⟨ln_co, ln_or0, ln_or1, ln_or2⟩⟩
theorem okA0 {q : Q4} (h : mt_Lw q) : ok0q q := ⟨h.1, fun _ _ _ _ => by unfold rv0; rfl, mt_lt0 q h⟩
theorem okA1 {q : Q4} (h : mt_C1 q) : ok1q q := ⟨h.1.1, fun _ _ _ _ => by unfold rv1; rfl, mt_lt1 q h.1⟩
theorem okA2 {q : Q4} (h : mt_C2 q) : ok2q q := ⟨h.1.1.1, fun s hs i hi => by
  match i, hi with
  | 0, _ => exact pr_N_rel (RelP_refl _) (cE_perm h.1.1.2.1)
  | 1, _ => unfold rv2; rw [if_neg (by decide), if_neg (by decide)], mt_lt2 q h⟩
theorem okA3 {q : Q4} (h : mt_C3 q) : ok3q q := ⟨h.1.1.1.1, fun _ _ _ _ => by unfold rv3; rfl, mt_lt3 q h⟩
theorem inv_al {fwq : Nat} {C : Q4 → Prop} (hb : ∀ a, C a → QB a) : ∀ a t, C a → t < 18 → mt_alq fwq t → ∃ t', t' < 18 ∧ mt_alq fwq t' ∧ mkQ t' (mkQ t a) = a := by
  intro a t ha ht hal
  unfold mt_alq at hal ⊢
  exact ⟨3 * (t / 3) + (2 - t % 3), by omega, by omega, mkQ_inv ht (hb a ha)⟩
theorem stageA {C G : Q4 → Prop} {x : Q4 → Nat → Nat} {nx : Nat → Nat → Nat} {sz : Nat → Nat} {nf fwq rch ql NL : Nat} (hb : ∀ a, C a → QB a) (hC : ∀ a f, C a → f < 6 → C (mt_pwQ f a (mt_stp fwq f))) (hR : ∀ a f j, C a → f < 6 → j < nf → x (mt_pwQ f a (mt_stp fwq f)) j = nx j (6 * x a j + f)) (hlt : ∀ a, C a → ∀ i, i < nf → x a i < sz i) (hG : ∀ a, C a → (sv_ sz (x a) nf = 0 ↔ G a)) (hz : ∀ i, i < nf → 0 < sz i) (hnx : nxP nx sz nf) (hsv : ∀ y : Nat → Nat, (∀ i, i < nf → y i < sz i) → sv_ sz y nf < 2 ^ 4 * NL) (hNL : 0 < NL) (hr : 1 ≤ rch) (hr2 : rch ≤ 13) (hq : 1 ≤ ql) (hcap : ∀ l : List Nat, l.Nodup → (∀ x ∈ l, mt_Bq (mt_nbS nx sz nf fwq) (rch - 1) x) → l.length ≤ ql) : ∃ E, sfP nx sz nf fwq rch ql NL E ∧ mt_DvH nx sz nf rch fwq (sf_ nx sz nf fwq rch ql E).1 C G mkQ x :=
  stage_H hz hnx hsv hNL hr hr2 hq hcap (pw_al hC) (fun a t1 t2 ha h1 h2 a1 a2 e => mkQ_same (hb a ha) h1 h2 a1 a2 e) (fun a t1 t2 ha h1 _ _ _ e1 e2 => mkQ_op (hb a ha) h1 e1 e2) (inv_al hb) (yI_mk hC hR) hlt hG
