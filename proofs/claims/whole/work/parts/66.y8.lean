theorem wkQ_cons (t : Nat) (L : List Nat) (q : Q4) : ∀ i, wkQ (t :: L) q (i + 1) = wkQ L (mkQ t q) i := by
  intro i
  induction i with
  | zero => rfl
  | succ i ih => rw [wkQ, ih, wkQ]; rfl
theorem LxQ_end {C G : Q4 → Prop} {al : Nat → Prop} (hC : ∀ a t, C a → t < 18 → al t → C (mkQ t a)) : ∀ n a w, C a → mt_RQ G mkQ al n a → mt_LxQ G mkQ al n a w → C (wkQ w a n) ∧ G (wkQ w a n) := by
  intro n
  induction n with
  | zero => intro a w ha h _; exact ⟨ha, h⟩
  | succ n ih =>
    intro a w ha _ h
    obtain ⟨t, w', e, h1, h2, h3, _, h5⟩ := h
    rw [e, wkQ_cons]
    exact ih _ _ (hC a t ha h1 h2) h3 h5
def mt_Fnd (C G : Q4 → Prop) (fwq : Nat) (q : Q4) (p : Nat × List Nat) : Prop := mt_RQ G mkQ (mt_alq fwq) p.1 q ∧ (∀ m, m < p.1 → ¬ mt_RQ G mkQ (mt_alq fwq) m q) ∧ mt_LxQ G mkQ (mt_alq fwq) p.1 q p.2 ∧ C (wkQ p.2 q p.1) ∧ G (wkQ p.2 q p.1)
theorem Fnd_of {C G : Q4 → Prop} {x : Q4 → Nat → Nat} {nx : Nat → Nat → Nat} {sz : Nat → Nat} {nf fwq rch : Nat} {g : Nat → Nat} (H : mt_DvH nx sz nf rch fwq g C G mkQ x) (hd : ∀ q, C q → mt_RQ G mkQ (mt_alq fwq) 15 q) {q : Q4} (h : C q) : mt_Fnd C G fwq q (fd_ nx sz nf rch fwq g (x q)) := by
  obtain ⟨n, hn, hR, hm⟩ := least18 (P := fun n => mt_RQ G mkQ (mt_alq fwq) n q) 16 ⟨15, by decide, hd q h⟩
  obtain ⟨w, e, hw⟩ := fd_main H h hR hm (by omega)
  rw [e]
  exact ⟨hR, hm, hw, LxQ_end H.1 n q w h hR hw⟩
theorem Fnd_uniq {C G : Q4 → Prop} {fwq : Nat} {q : Q4} {p p' : Nat × List Nat} (h : mt_Fnd C G fwq q p) (h1 : mt_RQ G mkQ (mt_alq fwq) p'.1 q) (h2 : ∀ m, m < p'.1 → ¬ mt_RQ G mkQ (mt_alq fwq) m q) (h3 : mt_LxQ G mkQ (mt_alq fwq) p'.1 q p'.2) : p = p' := by
  have e : p.1 = p'.1 := by
    rcases Nat.lt_trichotomy p.1 p'.1 with a | a | a
    · exact absurd h.1 (h2 _ a)
    · exact a
    · exact absurd h1 (h.2.1 _ a)
  obtain ⟨n, w⟩ := p
  obtain ⟨n', w'⟩ := p'
  dsimp only at e h1 h2 h3
  subst e
  have ew : w = w' := LxQ_uniq h.2.2.1 h3
  rw [ew]
theorem stages : ∃ EE : Nat → Nat, mtA mt_NX EE ∧ (∀ q, mt_Lw q → mt_Fnd mt_Lw mt_G0 6 q (fd0q (mt_NX 0) (EE 0) q)) ∧ (∀ q, mt_C1 q → mt_Fnd mt_C1 mt_G1 4 q (fd1q (mt_NX 1) (EE 1) q)) ∧ (∀ q, mt_C2 q → mt_Fnd mt_C2 mt_G2 2 q (fd2q (mt_NX 2) (EE 2) q)) ∧ ∀ q, mt_C3 q → mt_Fnd mt_C3 mt_G3 0 q (fd3q (mt_NX 3) (EE 3) q) := by
  obtain ⟨E0, a0, b0⟩ := stageA (C := mt_Lw) (G := mt_G0) (x := mt_x0) (nx := mt_NX 0) (sz := sz0) (nf := 1) (fwq := 6) (rch := 7) (ql := 2048) (NL := 128) (fun a h => h.1) Lw_st mt_rc0 mt_lt0 (fun _ _ => Iff.rfl) sz0_pos nxP0 sv_lt0 (by decide) (by decide) (by decide) (by decide) cap0
  obtain ⟨E1, a1, b1⟩ := stageA (C := mt_C1) (G := mt_G1) (x := mt_x1) (nx := mt_NX 1) (sz := sz1) (nf := 2) (fwq := 4) (rch := 5) (ql := 2048) (NL := 67661) (fun a h => h.1.1) C1_pw rc1' (fun a h => mt_lt1 a h.1) (fun _ _ => Iff.rfl) sz1_pos nxP1 sv_lt1 (by decide) (by decide) (by decide) (by decide) cap1
  obtain ⟨E2, a2, b2⟩ := stageA (C := mt_C2) (G := mt_G2) (x := mt_x2) (nx := mt_NX 2) (sz := sz2) (nf := 2) (fwq := 2) (rch := 7) (ql := 4096) (NL := 1838) (fun a h => h.1.1.1) C2_pw mt_rc2 mt_lt2 (fun _ _ => Iff.rfl) sz2_pos nxP2 sv_lt2 (by decide) (by decide) (by decide) (by decide) cap2
  obtain ⟨E3, a3, b3⟩ := stageA (C := mt_C3) (G := mt_G3) (x := mt_x3) (nx := mt_NX 3) (sz := sz3) (nf := 4) (fwq := 0) (rch := 7) (ql := 10240) (NL := 82944) (fun a h => h.1.1.1.1) C3_pw mt_rc3 mt_lt3 (fun _ _ => Iff.rfl) sz3_pos nxP3 sv_lt3 (by decide) (by decide) (by decide) (by decide) cap3
  refine ⟨fun k => if k = 0 then E0 else if k = 1 then E1 else if k = 2 then E2 else E3, ⟨⟨nxP0, mt_lnA.1, a0⟩, ⟨nxP1, mt_lnA.2.1, a1⟩, ⟨nxP2, mt_lnA.2.2.1, a2⟩, ⟨nxP3, mt_lnA.2.2.2, a3⟩⟩, fun q h => Fnd_of b0 (fun q h => mt_dm0 h) h, fun q h => Fnd_of b1 (fun q h => mt_dm1 h) h, fun q h => Fnd_of b2 (fun q h => mt_dm2 h) h, fun q h => Fnd_of b3 (fun q h => mt_dm3 h) h⟩
theorem solves {EE : Nat → Nat} (H0 : ∀ q, mt_Lw q → mt_Fnd mt_Lw mt_G0 6 q (fd0q (mt_NX 0) (EE 0) q)) (H1 : ∀ q, mt_C1 q → mt_Fnd mt_C1 mt_G1 4 q (fd1q (mt_NX 1) (EE 1) q)) (H2 : ∀ q, mt_C2 q → mt_Fnd mt_C2 mt_G2 2 q (fd2q (mt_NX 2) (EE 2) q)) (H3 : ∀ q, mt_C3 q → mt_Fnd mt_C3 mt_G3 0 q (fd3q (mt_NX 3) (EE 3) q)) {q : Q4} (h : mt_Lw q) : mt_Lw (so_q mt_NX EE q 0) ∧ mt_C1 (so_q mt_NX EE q 1) ∧ mt_C2 (so_q mt_NX EE q 2) ∧ mt_C3 (so_q mt_NX EE q 3) ∧ so_ok mt_NX EE q := by
  have h1 : mt_C1 (so_q mt_NX EE q 1) := (H0 q h).2.2.2
  have h2 : mt_C2 (so_q mt_NX EE q 2) := (H1 _ h1).2.2.2
  have h3 : mt_C3 (so_q mt_NX EE q 3) := (H2 _ h2).2.2.2
  exact ⟨h, h1, h2, h3, okA0 h, okA1 h1, okA2 h2, okA3 h3⟩
