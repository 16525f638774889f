def mt_nbI (nx : Nat → Nat → Nat) (sz : Nat → Nat) (nf f : Nat) (x : Nat → Nat) : Nat → List Nat
  | 0 => []
  | i + 1 => mt_nbI nx sz nf f x i ++ [sv_ sz (yI nx f x (i + 1)) nf]
def mt_nbO (nx : Nat → Nat → Nat) (sz : Nat → Nat) (nf fwq : Nat) (x : Nat → Nat) : Nat → List Nat
  | 0 => []
  | f + 1 => mt_nbO nx sz nf fwq x f ++ mt_nbI nx sz nf f x (to_ fwq f)
def mt_nbS (nx : Nat → Nat → Nat) (sz : Nat → Nat) (nf fwq s : Nat) : List Nat := mt_nbO nx sz nf fwq (dg_ sz nf s) 6
section ST
variable {nx : Nat → Nat → Nat} {sz : Nat → Nat} {nf fwq rch ql : Nat}
theorem spI_fq (tn f : Nat) (x : Nat → Nat) (S : sp_T) : ∀ i, spI nx sz nf tn rch ql f x S i = mt_fq tn rch ql S (mt_nbI nx sz nf f x i) := by
  intro i
  induction i with
  | zero => rfl
  | succ i ih => rw [spI, ih, mt_nbI, mt_fq, mt_fq, List.foldl_append]; rfl
theorem spO_fq (tn : Nat) (x : Nat → Nat) (S : sp_T) : ∀ f, spO nx sz nf tn fwq rch ql x S f = mt_fq tn rch ql S (mt_nbO nx sz nf fwq x f) := by
  intro f
  induction f with
  | zero => rfl
  | succ f ih => rw [spO, ih, spI_fq, mt_nbO, mt_fq, mt_fq, mt_fq, List.foldl_append]
theorem sf_sfA : ∀ i, sf_ nx sz nf fwq rch ql i = mt_sfA (mt_nbS nx sz nf fwq) rch ql i := by
  intro i
  induction i with
  | zero => rfl
  | succ i ih => rw [sf_, mt_sfA, spO_fq, ih]; rfl
theorem mem_nbI {f : Nat} {x : Nat → Nat} {b : Nat} : ∀ {i : Nat}, b ∈ mt_nbI nx sz nf f x i ↔ ∃ j, j < i ∧ b = sv_ sz (yI nx f x (j + 1)) nf := by
  intro i
  induction i with
  | zero => rw [mt_nbI]; simp
  | succ i ih =>
    rw [mt_nbI, List.mem_append, ih, List.mem_singleton]
    constructor
    · rintro (⟨j, h1, h2⟩ | h)
      · exact ⟨j, by omega, h2⟩
      · exact ⟨i, by omega, h⟩
    · rintro ⟨j, h1, h2⟩
      by_cases e : j = i
      · subst e; exact Or.inr h2
      · exact Or.inl ⟨j, by omega, h2⟩
theorem mem_nbO {x : Nat → Nat} {b : Nat} : ∀ {n : Nat}, b ∈ mt_nbO nx sz nf fwq x n ↔ ∃ f j, f < n ∧ j < to_ fwq f ∧ b = sv_ sz (yI nx f x (j + 1)) nf := by
  intro n
  induction n with
  | zero => rw [mt_nbO]; simp
  | succ n ih =>
    rw [mt_nbO, List.mem_append, ih, mem_nbI]
    constructor
    · rintro (⟨f, j, h1, h2⟩ | ⟨j, h1, h2⟩)
      · exact ⟨f, j, by omega, h2⟩
      · exact ⟨n, j, by omega, h1, h2⟩
    · rintro ⟨f, j, h1, h2, h3⟩
      by_cases e : f = n
      · subst e; exact Or.inr ⟨j, h2, h3⟩
      · exact Or.inl ⟨f, j, by omega, h2, h3⟩
theorem ss_r_sv {y : Nat → Nat} (h : ∀ i, i < nf → y i < sz i) : ∀ t, t ≤ nf → ss_r sz nf (sv_ sz y nf) t = sv_ sz y (nf - t) := by
  intro t
  induction t with
  | zero => intro _; rfl
  | succ t ih =>
    intro ht
    rw [ss_r, ih (by omega), show nf - t = (nf - 1 - t) + 1 by omega, sv_, show nf - (t + 1) = nf - 1 - t by omega]
    have := h (nf - 1 - t) (by omega)
    rw [Nat.mul_comm, Nat.mul_add_div (by omega), Nat.div_eq_of_lt this, Nat.add_zero]
theorem dg_sv {y : Nat → Nat} (h : ∀ i, i < nf → y i < sz i) : ∀ i, i < nf → dg_ sz nf (sv_ sz y nf) i = y i := by
  have : ∀ t, t ≤ nf → ∀ i, nf - t ≤ i → i < nf → ss_N sz nf (sv_ sz y nf) (fun _ => 0) t i = y i := by
    intro t
    induction t with
    | zero => intro _ i h1 h2; exact absurd h1 (by omega)
    | succ t ih =>
      intro ht i h1 h2
      rw [ss_N]
      simp only [up1]
      split
      · next e =>
        rw [ss_r_sv h t (by omega), show nf - t = (nf - 1 - t) + 1 by omega, sv_, e, Nat.mul_comm, Nat.mul_add_mod]
        exact Nat.mod_eq_of_lt (h _ (by omega))
      · exact ih (by omega) i (by omega) h2
  intro i hi
  exact this nf (Nat.le_refl _) i (by omega) hi
theorem Bq_lt {NN : Nat} (hz : ∀ i, i < nf → 0 < sz i) (hnx : nxP nx sz nf) (hsv : ∀ y : Nat → Nat, (∀ i, i < nf → y i < sz i) → sv_ sz y nf < NN) (hNN : 0 < NN) : ∀ m s, mt_Bq (mt_nbS nx sz nf fwq) m s → s < NN := by
  intro m
  induction m with
  | zero => intro s h; rw [show s = 0 from h]; exact hNN
  | succ m ih =>
    intro s h
    rcases h with h | ⟨y, hy, hs⟩
    · exact ih s h
    · obtain ⟨f, j, h1, h2, h3⟩ := mem_nbO.mp hs
      rw [h3]
      exact hsv _ (yI_lt (hnx f h1) (dg_lt sz nf y hz) _)
theorem sf_run {NL : Nat} (hz : ∀ i, i < nf → 0 < sz i) (hnx : nxP nx sz nf) (hsv : ∀ y : Nat → Nat, (∀ i, i < nf → y i < sz i) → sv_ sz y nf < 2 ^ 4 * NL) (hNL : 0 < NL) (hr : 1 ≤ rch) (hr2 : rch ≤ 13) (hq : 1 ≤ ql) (hcap : ∀ l : List Nat, l.Nodup → (∀ x ∈ l, mt_Bq (mt_nbS nx sz nf fwq) (rch - 1) x) → l.length ≤ ql) : ∃ E, sfP nx sz nf fwq rch ql NL E ∧ (∀ m s, mt_Bq (mt_nbS nx sz nf fwq) m s → tg_ rch (sf_ nx sz nf fwq rch ql E).1 s ≤ m) ∧ ∀ s, tg_ rch (sf_ nx sz nf fwq rch ql E).1 s = 0 → s = 0 := by
  obtain ⟨E, h1, h2, h3, h4, h5, h6⟩ := Bq_run (nbs := mt_nbS nx sz nf fwq) hr hq hcap
  refine ⟨E, ⟨?_, ?_, h3, ?_, ?_⟩, ?_, ?_⟩
  · intro i hi; rw [sf_sfA]; exact ⟨h1 i hi, by omega⟩
  · rw [sf_sfA]; exact Or.inl h2
  · intro i hi
    rw [sf_sfA]
    have q := h4 i hi
    refine ⟨fun s => ?_, q.2.2.2.2.2.2⟩
    by_cases e : (mt_sfA (mt_nbS nx sz nf fwq) rch ql i).1 s = 0
    · rw [e]; decide
    · have := (q.1 s e).1; omega
  · intro i hi
    rw [sf_sfA]
    have q := h4 i (by omega)
    have q2 := q.2.1 i (h1 i hi)
    exact ⟨Bq_lt hz hnx hsv (by omega) _ _ (q.1 _ q2.1).2.1, by omega⟩
  · rw [sf_sfA]; exact h5
  · rw [sf_sfA]; exact h6
variable {α : Type} {C G : α → Prop} {τ : Nat → α → α} {x : α → Nat → Nat}
theorem RQ_Bq (hC : ∀ a t, C a → t < 18 → mt_alq fwq t → C (τ t a)) (hinv : ∀ a t, C a → t < 18 → mt_alq fwq t → ∃ t', t' < 18 ∧ mt_alq fwq t' ∧ τ t' (τ t a) = a) (h1 : ∀ a f i, C a → f < 6 → i < to_ fwq f → ∀ j, j < nf → yI nx f (x a) (i + 1) j = x (τ (ft_ fwq f + i) a) j) (hlt : ∀ a, C a → ∀ i, i < nf → x a i < sz i) (h4 : ∀ a, C a → (sv_ sz (x a) nf = 0 ↔ G a)) : ∀ m a, C a → mt_RQ G τ (mt_alq fwq) m a → mt_Bq (mt_nbS nx sz nf fwq) m (sv_ sz (x a) nf) := by
  intro m
  induction m with
  | zero => intro a ha h; exact (h4 a ha).mpr h
  | succ m ih =>
    intro a ha h
    rcases h with h | ⟨t, ht, hal, h⟩
    · exact Bq_le (m := 0) ((h4 a ha).mpr h) (Nat.zero_le _)
    · have ha1 := hC a t ha ht hal
      have h2 := ih _ ha1 h
      obtain ⟨t', ht', hal', he⟩ := hinv a t ha ht hal
      obtain ⟨i, hi, hft⟩ := al_ft ht' hal'
      refine Or.inr ⟨_, h2, mem_nbO.mpr ⟨t' / 3, i, by omega, hi, ?_⟩⟩
      have h3 := h1 (τ t a) (t' / 3) i ha1 (by omega) hi
      rw [hft, he] at h3
      refine (sv_congr sz nf (fun j hj => ?_)).symm
      rw [← h3 j hj]
      exact yI_congr nx _ (dg_sv (hlt _ ha1)) (i + 1) j hj
theorem stage_H {NL : Nat} (hz : ∀ i, i < nf → 0 < sz i) (hnx : nxP nx sz nf) (hsv : ∀ y : Nat → Nat, (∀ i, i < nf → y i < sz i) → sv_ sz y nf < 2 ^ 4 * NL) (hNL : 0 < NL) (hr : 1 ≤ rch) (hr2 : rch ≤ 13) (hq : 1 ≤ ql) (hcap : ∀ l : List Nat, l.Nodup → (∀ x ∈ l, mt_Bq (mt_nbS nx sz nf fwq) (rch - 1) x) → l.length ≤ ql) (hC : ∀ a t, C a → t < 18 → mt_alq fwq t → C (τ t a)) (hS : ∀ a t1 t2, C a → t1 < 18 → t2 < 18 → mt_alq fwq t1 → mt_alq fwq t2 → t1 / 3 = t2 / 3 → τ t2 (τ t1 a) = a ∨ ∃ t3, t3 < 18 ∧ mt_alq fwq t3 ∧ τ t2 (τ t1 a) = τ t3 a) (hO : ∀ a t1 t2, C a → t1 < 18 → t2 < 18 → mt_alq fwq t1 → mt_alq fwq t2 → t2 / 3 + 1 = t1 / 3 → t2 / 3 / 2 = t1 / 3 / 2 → τ t2 (τ t1 a) = τ t1 (τ t2 a)) (hinv : ∀ a t, C a → t < 18 → mt_alq fwq t → ∃ t', t' < 18 ∧ mt_alq fwq t' ∧ τ t' (τ t a) = a) (h1 : ∀ a f i, C a → f < 6 → i < to_ fwq f → ∀ j, j < nf → yI nx f (x a) (i + 1) j = x (τ (ft_ fwq f + i) a) j) (hlt : ∀ a, C a → ∀ i, i < nf → x a i < sz i) (h4 : ∀ a, C a → (sv_ sz (x a) nf = 0 ↔ G a)) : ∃ E, sfP nx sz nf fwq rch ql NL E ∧ mt_DvH nx sz nf rch fwq (sf_ nx sz nf fwq rch ql E).1 C G τ x := by
  obtain ⟨E, e1, e2, e3⟩ := sf_run hz hnx hsv hNL hr hr2 hq hcap
  exact ⟨E, e1, hC, hS, hO, h1, fun a m ha h => e2 m _ (RQ_Bq hC hinv h1 hlt h4 m a ha h), fun a ha h => (h4 a ha).mp (e3 _ h), h4⟩
end ST
