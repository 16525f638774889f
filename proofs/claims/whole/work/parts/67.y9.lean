theorem mo_t1_8 (N : Nat → Nat → Nat) : ∀ p j, j < p → mo_t1 p N 8 j = N 4 j := by
  intro p
  induction p with
  | zero => intro j h; omega
  | succ p ih =>
    intro j h
    rw [mo_t1]
    by_cases e : j = p
    · subst e
      simp only [mo_up]
      simp [mo_t1_k (k := 4) (by decide) (by decide)]
    · simp only [mo_up]
      simp [e]
      exact ih j (by omega)
theorem mo_t3_8 (N : Nat → Nat → Nat) : ∀ p j, j < p → mo_t3 p N 8 j = N 6 j := by
  intro p
  induction p with
  | zero => intro j h; omega
  | succ p ih =>
    intro j h
    rw [mo_t3]
    by_cases e : j = p
    · subst e
      simp only [mo_up]
      simp [mo_t3_k (k := 6) (by decide) (by decide)]
    · simp only [mo_up]
      simp [e]
      exact ih j (by omega)
theorem mo_t3_9 (N : Nat → Nat → Nat) : ∀ p j, j < p → mo_t3 p N 9 j = N 7 j := by
  intro p
  induction p with
  | zero => intro j h; omega
  | succ p ih =>
    intro j h
    rw [mo_t3]
    by_cases e : j = p
    · subst e
      simp only [mo_up]
      simp [mo_t3_k (k := 7) (by decide) (by decide)]
    · simp only [mo_up]
      simp [e]
      exact ih j (by omega)
theorem mo_t2_v (t : Nat) (N : Nat → Nat → Nat) : ∀ p j, j < p → mo_t2 t p N 4 j = N 8 (N 10 (8 * t + j)) ∧ mo_t2 t p N 5 j = (N 9 (N 10 (8 * t + j)) + N 11 (8 * t + j)) % 3 := by
  intro p
  induction p with
  | zero => intro j h; omega
  | succ p ih =>
    intro j h
    rw [mo_t2]
    rw [mo_t2_k (k := 8) (by decide) (by decide), mo_t2_k (k := 9) (by decide) (by decide), mo_t2_k (k := 10) (by decide) (by decide), mo_t2_k (k := 11) (by decide) (by decide)]
    by_cases e : j = p
    · subst e
      simp [mo_up]
    · have := ih j (by omega)
      simp only [mo_up]
      simp [e]
      exact this
theorem mo_t4_v (t : Nat) (N : Nat → Nat → Nat) : ∀ p j, j < p → mo_t4 t p N 6 j = N 8 (N 12 (12 * t + j)) ∧ mo_t4 t p N 7 j = N 9 (N 12 (12 * t + j)) ^^^ N 13 (12 * t + j) := by
  intro p
  induction p with
  | zero => intro j h; omega
  | succ p ih =>
    intro j h
    rw [mo_t4]
    rw [mo_t4_k (k := 8) (by decide) (by decide), mo_t4_k (k := 9) (by decide) (by decide), mo_t4_k (k := 12) (by decide) (by decide), mo_t4_k (k := 13) (by decide) (by decide)]
    by_cases e : j = p
    · subst e
      simp [mo_up]
    · have := ih j (by omega)
      simp only [mo_up]
      simp [e]
      exact this
theorem mo_turn_c {t : Nat} {N : Nat → Nat → Nat} {j : Nat} (hj : j < 8) (h : N 10 (8 * t + j) < 8) : mo_turn t N 4 j = N 4 (N 10 (8 * t + j)) ∧ mo_turn t N 5 j = (N 5 (N 10 (8 * t + j)) + N 11 (8 * t + j)) % 3 := by
  rw [mo_turn, mo_t4_k (k := 4) (by decide) (by decide), mo_t4_k (k := 5) (by decide) (by decide), mo_t3_k (k := 4) (by decide) (by decide), mo_t3_k (k := 5) (by decide) (by decide)]
  have := mo_t2_v t (mo_t1 8 N) 8 j hj
  rw [mo_t1_k (k := 10) (by decide) (by decide), mo_t1_k (k := 11) (by decide) (by decide), mo_t1_8 N 8 _ h, mo_t1_9 N 8 _ h] at this
  exact this
theorem mo_turn_e {t : Nat} {N : Nat → Nat → Nat} {j : Nat} (hj : j < 12) (h : N 12 (12 * t + j) < 12) : mo_turn t N 6 j = N 6 (N 12 (12 * t + j)) ∧ mo_turn t N 7 j = N 7 (N 12 (12 * t + j)) ^^^ N 13 (12 * t + j) := by
  rw [mo_turn]
  have := mo_t4_v t (mo_t3 12 (mo_t2 t 8 (mo_t1 8 N))) 12 j hj
  rw [mo_t3_k (k := 12) (by decide) (by decide), mo_t3_k (k := 13) (by decide) (by decide), mo_t2_k (k := 12) (by decide) (by decide), mo_t2_k (k := 13) (by decide) (by decide), mo_t1_k (k := 12) (by decide) (by decide), mo_t1_k (k := 13) (by decide) (by decide), mo_t3_8 _ 12 _ h, mo_t3_9 _ 12 _ h, mo_t2_k (k := 6) (by decide) (by decide), mo_t2_k (k := 7) (by decide) (by decide), mo_t1_k (k := 6) (by decide) (by decide), mo_t1_k (k := 7) (by decide) (by decide)] at this
  exact this
def mt_MT (N : Nat → Nat → Nat) : Prop := ∀ t, t < 18 → (∀ j, j < 8 → N 10 (8 * t + j) = mk_cp (t / 3) (fun j => j) (t % 3 + 1) j ∧ N 11 (8 * t + j) = mk_co (t / 3) (fun _ => 0) (t % 3 + 1) j) ∧ ∀ j, j < 12 → N 12 (12 * t + j) = mk_ep (t / 3) (fun j => j) (t % 3 + 1) j ∧ N 13 (12 * t + j) = mk_eo (t / 3) (fun _ => 0) (t % 3 + 1) j
def mt_QN (N : Nat → Nat → Nat) : Q4 := (N 4, N 5, N 6, N 7)
def mt_qeq (q q' : Q4) : Prop := (∀ j, j < 8 → q.1 j = q'.1 j ∧ q.2.1 j = q'.2.1 j) ∧ ∀ j, j < 12 → q.2.2.1 j = q'.2.2.1 j ∧ q.2.2.2 j = q'.2.2.2 j
theorem xor_b : ∀ a, a < 2 → ∀ b, b < 2 → a ^^^ b = (a + b) % 2 := by decide
theorem qeq_QB {q q' : Q4} (h : mt_qeq q q') (hb : QB q') : QB q := ⟨fun j hj => by rw [(h.1 j hj).1]; exact hb.1 j hj, fun j hj => by rw [(h.1 j hj).2]; exact hb.2.1 j hj, fun j hj => by rw [(h.2 j hj).1]; exact hb.2.2.1 j hj, fun j hj => by rw [(h.2 j hj).2]; exact hb.2.2.2 j hj⟩
theorem qeq_mk {q q' : Q4} (h : mt_qeq q q') (t : Nat) : mt_qeq (mkQ t q) (mkQ t q') := ⟨fun j hj => ⟨mk_cp_cg _ (fun j hj => (h.1 j hj).1) _ j hj, mk_co_cg _ (fun j hj => (h.1 j hj).2) _ j hj⟩, fun j hj => ⟨mk_ep_cg _ (fun j hj => (h.2 j hj).1) _ j hj, mk_eo_cg _ (fun j hj => (h.2 j hj).2) _ j hj⟩⟩
theorem qeq_trans {a b c : Q4} (h : mt_qeq a b) (h' : mt_qeq b c) : mt_qeq a c := ⟨fun j hj => ⟨(h.1 j hj).1.trans (h'.1 j hj).1, (h.1 j hj).2.trans (h'.1 j hj).2⟩, fun j hj => ⟨(h.2 j hj).1.trans (h'.2 j hj).1, (h.2 j hj).2.trans (h'.2 j hj).2⟩⟩
theorem qeq_refl (a : Q4) : mt_qeq a a := ⟨fun _ _ => ⟨rfl, rfl⟩, fun _ _ => ⟨rfl, rfl⟩⟩
theorem QN_turn {N : Nat → Nat → Nat} (hM : mt_MT N) {t : Nat} (ht : t < 18) (hb : QB (mt_QN N)) : mt_qeq (mt_QN (mo_turn t N)) (mkQ t (mt_QN N)) := by
  obtain ⟨hc, he⟩ := hM t ht
  have lc := fun j (hj : j < 8) => mk_cp_lt (t / 3) (cp := fun j => j) (fun j hj => hj) (t % 3 + 1) j hj
  have le := fun j (hj : j < 12) => mk_ep_lt (t / 3) (ep := fun j => j) (fun j hj => hj) (t % 3 + 1) j hj
  refine ⟨fun j hj => ?_, fun j hj => ?_⟩
  · have h1 := mo_turn_c (t := t) (N := N) hj (by rw [(hc j hj).1]; exact lc j hj)
    rw [(hc j hj).1, (hc j hj).2] at h1
    refine ⟨?_, ?_⟩
    · show mo_turn t N 4 j = mk_cp (t / 3) (N 4) (t % 3 + 1) j
      rw [h1.1, mk_cp_nat (t / 3) (N 4)]
    · show mo_turn t N 5 j = mk_co (t / 3) (N 5) (t % 3 + 1) j
      rw [h1.2, mk_co_nf (t / 3) (co := N 5) hb.2.1 _ j hj]
  · have h1 := mo_turn_e (t := t) (N := N) hj (by rw [(he j hj).1]; exact le j hj)
    rw [(he j hj).1, (he j hj).2] at h1
    refine ⟨?_, ?_⟩
    · show mo_turn t N 6 j = mk_ep (t / 3) (N 6) (t % 3 + 1) j
      rw [h1.1, mk_ep_nat (t / 3) (N 6)]
    · show mo_turn t N 7 j = mk_eo (t / 3) (N 7) (t % 3 + 1) j
      rw [h1.2, mk_eo_nf (t / 3) (eo := N 7) hb.2.2.2 _ j hj]
      exact xor_b _ (hb.2.2.2 _ (le j hj)) _ (mk_eo_lt (t / 3) (eo := fun _ => 0) (fun _ _ => Nat.succ_pos 1) _ j hj)
section RS
variable {C G : Q4 → Prop} {al : Nat → Prop} {alN : Nat → Nat} {nx : Nat → Nat → Nat} {T n z : Nat} {s : Q4 → Nat} {tn : Nat → Nat}
def mt_RsH (C G : Q4 → Prop) (al : Nat → Prop) (alN : Nat → Nat) (nx : Nat → Nat → Nat) (T n z : Nat) (s : Q4 → Nat) (tn : Nat → Nat) : Prop :=
  (∀ a t, C a → t < 18 → al t → C (mkQ t a)) ∧
  (∀ a t, C a → t < 18 → al t → ∃ t', t' < 18 ∧ al t' ∧ mkQ t' (mkQ t a) = a ∧ mkQ t (mkQ t' a) = a) ∧
  (∀ i, i < T → alN i ≠ 0 → tn i < 18 ∧ al (tn i)) ∧
  (∀ t, t < 18 → al t → ∃ i, i < T ∧ alN i ≠ 0 ∧ tn i = t) ∧
  (∀ a i, C a → i < T → alN i ≠ 0 → s (mkQ (tn i) a) = nx (s a) i) ∧
  (∀ a, C a → s a < n) ∧
  (∀ a, C a → (s a = z ↔ G a)) ∧
  ∃ a, C a ∧ s a = z
theorem Sf_C (H : mt_RsH C G al alN nx T n z s tn) : ∀ m k, mt_Sf nx alN T n z m k → ∃ a, C a ∧ s a = k := by
  obtain ⟨h1, h2, h3, h4, h5, h6, h7, a0, ha0, hz⟩ := H
  intro m
  induction m with
  | zero => intro k h; exact ⟨a0, ha0, by rw [hz]; exact (show k = z from h).symm⟩
  | succ m ih =>
    intro k h
    rcases h with h | ⟨k', i, hk', h, hi, hal, e⟩
    · exact ih k h
    · obtain ⟨a, ha, es⟩ := ih k' h
      have q := h3 i hi hal
      exact ⟨mkQ (tn i) a, h1 a _ ha q.1 q.2, by rw [h5 a i ha hi hal, es, e]⟩
theorem Sf_R (H : mt_RsH C G al alN nx T n z s tn) : ∀ m a, C a → mt_Sf nx alN T n z m (s a) → mt_RQ G mkQ al m a := by
  have H0 := H
  obtain ⟨h1, h2, h3, h4, h5, h6, h7, h8⟩ := H
  intro m
  induction m with
  | zero => intro a ha h; exact (h7 a ha).mp h
  | succ m ih =>
    intro a ha h
    rcases h with h | ⟨k', i, hk', h, hi, hal, e⟩
    · exact RQ_s (ih a ha h)
    · obtain ⟨b, hb, es⟩ := Sf_C H0 m k' h
      have q := h3 i hi hal
      obtain ⟨t', ht', al', e1, _⟩ := h2 b _ hb q.1 q.2
      obtain ⟨i', hi', hal', ei'⟩ := h4 t' ht' al'
      have hbt := h1 b _ hb q.1 q.2
      refine Or.inr ⟨t', ht', al', ih _ (h1 a t' ha ht' al') ?_⟩
      have e2 : s (mkQ t' a) = k' := by
        rw [← ei', h5 a i' ha hi' hal', ← e, ← es, ← h5 b i hb hi hal, ← h5 _ i' hbt hi' hal', ei', e1]
      rw [e2]; exact h
theorem R_Sf (H : mt_RsH C G al alN nx T n z s tn) : ∀ m a, C a → mt_RQ G mkQ al m a → mt_Sf nx alN T n z m (s a) := by
  obtain ⟨h1, h2, h3, h4, h5, h6, h7, h8⟩ := H
  intro m
  induction m with
  | zero => intro a ha h; exact (h7 a ha).mpr h
  | succ m ih =>
    intro a ha h
    rcases h with h | ⟨t, ht, hal, h⟩
    · exact Sf_le nx alN T n z (m := 0) ((h7 a ha).mpr h) (Nat.zero_le _)
    · have hb := h1 a t ha ht hal
      obtain ⟨t', ht', al', e1, _⟩ := h2 a t ha ht hal
      obtain ⟨i', hi', hal', ei'⟩ := h4 t' ht' al'
      refine Or.inr ⟨s (mkQ t a), i', h6 _ hb, ih _ hb h, hi', hal', ?_⟩
      rw [← h5 _ i' hb hi' hal', ei', e1]
theorem bf_dist (H : mt_RsH C G al alN nx T n z s tn) (hd : ∀ a, C a → mt_RQ G mkQ al 15 a) {a : Nat → (Nat → Nat) × Nat} (ha : (a 0).2 = 1) (h0 : bfLev nx alN T n z (a 0).1 0) (hs : ∀ d, d < 99 → bfLev nx alN T n z (a d).1 d → mt_bfW nx alN T n z (a d).1 d n (a (d + 1))) : ∃ E, E < 99 ∧ (a E).2 = 0 ∧ (∀ d, d < E → (a d).2 ≠ 0) ∧ ∀ q, C q → mt_RQ G mkQ al ((a E).1 (s q)) q ∧ ∀ m, m < (a E).1 (s q) → ¬ mt_RQ G mkQ al m q := by
  obtain ⟨E, e1, e2, e3, e4⟩ := bf_run (M := 15) ha h0 hs (by decide) (fun k _ hk => by
    obtain ⟨b, hb, es⟩ := Sf_C H 16 k hk
    rw [← es]
    exact R_Sf H 15 b hb (hd b hb))
  refine ⟨E, e1, e2, e3, fun q hq => ?_⟩
  have hS := R_Sf H 15 q hq (hd q hq)
  have hl := H.2.2.2.2.2.1 q hq
  refine ⟨Sf_R H _ q hq (e4 _ hl 15 hS).2, fun m hm hR => ?_⟩
  have := (e4 _ hl m (R_Sf H m q hq hR)).1
  omega
end RS
