def mt_Sf (nx : Nat → Nat → Nat) (al : Nat → Nat) (T n z : Nat) : Nat → Nat → Prop
  | 0, k => k = z
  | m + 1, k => mt_Sf nx al T n z m k ∨ ∃ k' t, k' < n ∧ mt_Sf nx al T n z m k' ∧ t < T ∧ al t ≠ 0 ∧ nx k' t = k
section BF
variable (nx : Nat → Nat → Nat) (al : Nat → Nat) (T n z : Nat)
theorem Sf_le {m m' k : Nat} (h : mt_Sf nx al T n z m k) (hm : m ≤ m') : mt_Sf nx al T n z m' k := by
  induction m' with
  | zero => rw [show m = 0 by omega] at h; exact h
  | succ m' ih =>
    by_cases e : m = m' + 1
    · rw [e] at h; exact h
    · exact Or.inl (ih (by omega))
def bfLev (f : Nat → Nat) (d : Nat) : Prop := (∀ k, k < n → f k = 100 ∨ f k ≤ d) ∧ ∀ k, k < n → ∀ m, m ≤ d → (mt_Sf nx al T n z m k ↔ f k ≤ m)
def mt_bfW (f : Nat → Nat) (d s : Nat) (S : (Nat → Nat) × Nat) : Prop :=
  (∀ k, S.1 k = f k ∨ (f k = 100 ∧ S.1 k = d + 1 ∧ k < n ∧ mt_Sf nx al T n z (d + 1) k)) ∧
  (∀ s', s' < s → f s' = d → ∀ t, t < T → al t ≠ 0 → S.1 (nx s' t) ≠ 100) ∧
  (S.2 = 0 → ∀ k, S.1 k = f k) ∧ (S.2 ≠ 0 → ∃ k, k < n ∧ f k = 100 ∧ mt_Sf nx al T n z (d + 1) k)
variable {nx al T n z}
theorem bfW_s {f : Nat → Nat} {d s x : Nat} {S : (Nat → Nat) × Nat} (hd : d < 99) (h : mt_bfW nx al T n z f d s S) (hx : x < n) (hS : mt_Sf nx al T n z (d + 1) x) : mt_bfW nx al T n z f d s (bf_s d x S) ∧ (bf_s d x S).1 x ≠ 100 ∧ ∀ y, S.1 y ≠ 100 → (bf_s d x S).1 y ≠ 100 := by
  obtain ⟨F, fl⟩ := S
  obtain ⟨w1, w2, w3, w4⟩ := h
  dsimp only at w1 w2 w3 w4
  rw [bf_s]
  dsimp only
  by_cases e : F x = 100
  · rw [if_pos e]
    have hfx : f x = 100 := by
      rcases w1 x with q | ⟨q, q2, _⟩
      · rw [← q]; exact e
      · exact q
    have hm : ∀ y, F y ≠ 100 → up1 F x (d + 1) y ≠ 100 := by
      intro y hy
      simp only [up1]
      split
      · omega
      · exact hy
    refine ⟨⟨?_, ?_, ?_, ?_⟩, ?_, hm⟩
    · intro k
      dsimp only
      by_cases q : k = x
      · subst q
        exact Or.inr ⟨hfx, by simp [up1], hx, hS⟩
      · rw [show up1 F x (d + 1) k = F k by simp [up1, q]]
        exact w1 k
    · intro s' h1 h2 t h3 h4
      exact hm _ (w2 s' h1 h2 t h3 h4)
    · intro h; exact absurd (show (1 : Nat) = 0 from h) (by decide)
    · intro _; exact ⟨x, hx, hfx, hS⟩
    · dsimp only; simp [up1]; omega
  · rw [if_neg e]
    exact ⟨⟨w1, w2, w3, w4⟩, e, fun y hy => hy⟩
theorem bfW_t2 {f : Nat → Nat} {d s : Nat} (hd : d < 99) (hcl : ∀ k t, k < n → t < T → al t ≠ 0 → nx k t < n) (hs : s < n) (hSs : mt_Sf nx al T n z d s) {S : (Nat → Nat) × Nat} (h : mt_bfW nx al T n z f d s S) : ∀ T', T' ≤ T → mt_bfW nx al T n z f d s (bf_t2 nx al d s T' S) ∧ (∀ t, t < T' → al t ≠ 0 → (bf_t2 nx al d s T' S).1 (nx s t) ≠ 100) ∧ ∀ y, S.1 y ≠ 100 → (bf_t2 nx al d s T' S).1 y ≠ 100 := by
  intro T'
  induction T' with
  | zero => intro _; exact ⟨h, fun t ht => absurd ht (by omega), fun y hy => hy⟩
  | succ T' ih =>
    intro hT
    obtain ⟨a1, a2, a3⟩ := ih (by omega)
    rw [bf_t2]
    by_cases e : al T' ≠ 0
    · rw [if_pos e]
      obtain ⟨b1, b2, b3⟩ := bfW_s hd a1 (hcl s T' hs (by omega) e) (Or.inr ⟨s, T', hs, hSs, by omega, e, rfl⟩)
      refine ⟨b1, ?_, fun y hy => b3 y (a3 y hy)⟩
      intro t ht hal
      by_cases q : t = T'
      · subst q; exact b2
      · exact b3 _ (a2 t (by omega) hal)
    · rw [if_neg e]
      refine ⟨a1, ?_, a3⟩
      intro t ht hal
      by_cases q : t = T'
      · subst q; exact absurd hal e
      · exact a2 t (by omega) hal
theorem bfW_d {f : Nat → Nat} {d s : Nat} (hd : d < 99) {S : (Nat → Nat) × Nat} (h : mt_bfW nx al T n z f d s S) : S.1 s = d ↔ f s = d := by
  rcases h.1 s with q | ⟨q1, q2, _⟩
  · rw [q]
  · omega
theorem bfW_next {f : Nat → Nat} {d s : Nat} {S : (Nat → Nat) × Nat} (h : mt_bfW nx al T n z f d s S) (hn : f s = d → ∀ t, t < T → al t ≠ 0 → S.1 (nx s t) ≠ 100) : mt_bfW nx al T n z f d (s + 1) S := by
  refine ⟨h.1, ?_, h.2.2⟩
  intro s' h1 h2
  by_cases q : s' = s
  · subst q; exact hn h2
  · exact h.2.1 s' (by omega) h2
theorem bfW_r2 {f : Nat → Nat} {d : Nat} (hd : d < 99) (hL : bfLev nx al T n z f d) (hcl : ∀ k t, k < n → t < T → al t ≠ 0 → nx k t < n) : ∀ s, s ≤ n → mt_bfW nx al T n z f d s (bf_r2 nx al T d s (f, 0)) := by
  intro s
  induction s with
  | zero => intro _; exact ⟨fun k => Or.inl rfl, fun s' h => absurd h (by omega), fun _ k => rfl, fun h => absurd rfl h⟩
  | succ s ih =>
    intro hs
    have w := ih (by omega)
    rw [bf_r2]
    generalize bf_r2 nx al T d s (f, 0) = S at w
    rw [bf_q2]
    by_cases e : S.1 s = d
    · rw [if_pos e]
      have hfs := (bfW_d hd w).mp e
      have hSs := (hL.2 s (by omega) d (Nat.le_refl _)).mpr (by omega)
      have key : ∀ T', T' ≤ T → (bf_t2 nx al d s T' (S.1, 0)).1 = (bf_t2 nx al d s T' S).1 ∧ ((bf_t2 nx al d s T' S).2 ≠ 0 ↔ ((bf_t2 nx al d s T' (S.1, 0)).2 ≠ 0 ∨ S.2 ≠ 0)) := by
        intro T'
        induction T' with
        | zero => intro _; exact ⟨rfl, by rw [bf_t2, bf_t2]; simp⟩
        | succ T' ih2 =>
          intro hT
          obtain ⟨p1, p2⟩ := ih2 (by omega)
          rw [bf_t2, bf_t2]
          split
          · rw [bf_s, bf_s, p1]
            split
            · exact ⟨rfl, by simp⟩
            · exact ⟨p1, p2⟩
          · exact ⟨p1, p2⟩
      obtain ⟨k1, k2⟩ := key T (Nat.le_refl _)
      obtain ⟨a1, a2, a3⟩ := bfW_t2 hd hcl (by omega) hSs w T (Nat.le_refl _)
      refine bfW_next (S := (_, _)) ⟨?_, ?_, ?_, ?_⟩ ?_
      · dsimp only; rw [k1]; exact a1.1
      · dsimp only; rw [k1]; exact a1.2.1
      · dsimp only
        intro h0
        rw [k1]
        refine a1.2.2.1 ?_
        by_cases q : (bf_t2 nx al d s T S).2 = 0
        · exact q
        · rw [if_pos (k2.mp q)] at h0; exact absurd h0 (by decide)
      · dsimp only
        intro h0
        refine a1.2.2.2 ?_
        intro q
        rw [if_neg (fun r => (k2.mpr r) q)] at h0
        exact h0 rfl
      · intro _ t ht hal; dsimp only; rw [k1]; exact a2 t ht hal
    · rw [if_neg e]
      exact bfW_next w (fun q => absurd ((bfW_d hd w).mpr q) e)
theorem bf_t1_eq {d s : Nat} {S : (Nat → Nat) × Nat} (hd : d < 99) : ∀ t, bf_t1 nx al d s t S = if S.1 s = d then bf_t2 nx al d s t S else S := by
  intro t
  induction t with
  | zero => rw [bf_t1, bf_t2]; split <;> rfl
  | succ t ih =>
    rw [bf_t1, ih]
    by_cases e : S.1 s = d
    · rw [if_pos e, if_pos e, bf_t2]
      have hk : ∀ t, (bf_t2 nx al d s t S).1 s = d := by
        intro t
        induction t with
        | zero => exact e
        | succ t ih2 =>
          rw [bf_t2]
          split
          · rw [bf_s]
            split
            · next q =>
              simp only [up1]
              split
              · next q2 => rw [← q2, ih2] at q; omega
              · exact ih2
            · exact ih2
          · exact ih2
      by_cases a : al t ≠ 0
      · rw [if_pos ⟨hk t, a⟩, if_pos a]
      · rw [if_neg (fun q => a q.2), if_neg a]
    · rw [if_neg e, if_neg e, if_neg (fun q => e q.1)]
theorem bfW_r1 {f : Nat → Nat} {d : Nat} (hT : T = 18) (hd : d < 99) (hL : bfLev nx al T n z f d) (hcl : ∀ k t, k < n → t < T → al t ≠ 0 → nx k t < n) : ∀ s, s ≤ n → mt_bfW nx al T n z f d s (bf_r1 nx al d s (f, 0)) := by
  intro s
  induction s with
  | zero => intro _; exact ⟨fun k => Or.inl rfl, fun s' h => absurd h (by omega), fun _ k => rfl, fun h => absurd rfl h⟩
  | succ s ih =>
    intro hs
    have w := ih (by omega)
    rw [bf_r1]
    generalize bf_r1 nx al d s (f, 0) = S at w
    rw [bf_t1_eq hd]
    by_cases e : S.1 s = d
    · rw [if_pos e]
      have hfs := (bfW_d hd w).mp e
      have hSs := (hL.2 s (by omega) d (Nat.le_refl _)).mpr (by omega)
      obtain ⟨a1, a2, a3⟩ := bfW_t2 hd hcl (by omega) hSs w T (Nat.le_refl _)
      rw [hT] at a1 a2
      rw [hT]
      exact bfW_next a1 (fun _ => a2)
    · rw [if_neg e]
      exact bfW_next w (fun q => absurd ((bfW_d hd w).mpr q) e)
theorem bfLev_s {f : Nat → Nat} {d : Nat} {S : (Nat → Nat) × Nat} (hd : d < 99) (hL : bfLev nx al T n z f d) (w : mt_bfW nx al T n z f d n S) : bfLev nx al T n z S.1 (d + 1) := by
  have hle : ∀ k, k < n → S.1 k = 100 ∨ S.1 k ≤ d + 1 := by
    intro k hk
    rcases w.1 k with q | ⟨_, q, _⟩
    · rw [q]; rcases hL.1 k hk with p | p <;> omega
    · omega
  refine ⟨hle, ?_⟩
  intro k hk m hm
  by_cases hmd : m ≤ d
  · rw [hL.2 k hk m hmd]
    rcases w.1 k with q | ⟨q1, q2, _⟩
    · rw [q]
    · rw [q1, q2]; omega
  · have : m = d + 1 := by omega
    subst this
    constructor
    · intro h
      rcases h with h | ⟨k', t, hk', h1, ht, hal, hnx⟩
      · have := (hL.2 k hk d (Nat.le_refl _)).mp h
        rcases w.1 k with q | ⟨q1, _, _⟩ <;> omega
      · have h2 := (hL.2 k' hk' d (Nat.le_refl _)).mp h1
        by_cases e : f k' = d
        · have := w.2.1 k' hk' e t ht hal
          rw [hnx] at this
          rcases hle k hk with p | p <;> omega
        · have h3 : mt_Sf nx al T n z (f k') k' := (hL.2 k' hk' _ h2).mpr (Nat.le_refl _)
          have h4 : mt_Sf nx al T n z (f k' + 1) k := Or.inr ⟨k', t, hk', h3, ht, hal, hnx⟩
          have h5 := (hL.2 k hk (f k' + 1) (by omega)).mp h4
          rcases w.1 k with q | ⟨q1, _, _⟩ <;> omega
    · intro h
      rcases w.1 k with q | ⟨_, _, _, q⟩
      · rw [q] at h
        have : f k ≤ d := by rcases hL.1 k hk with p | p <;> omega
        exact Or.inl ((hL.2 k hk d (Nat.le_refl _)).mpr this)
      · exact q
theorem bf_run {a : Nat → (Nat → Nat) × Nat} (ha : (a 0).2 = 1) (h0 : bfLev nx al T n z (a 0).1 0) (hs : ∀ d, d < 99 → bfLev nx al T n z (a d).1 d → mt_bfW nx al T n z (a d).1 d n (a (d + 1))) {M : Nat} (hM : M < 98) (hcl : ∀ k, k < n → mt_Sf nx al T n z (M + 1) k → mt_Sf nx al T n z M k) : ∃ E, E < 99 ∧ (a E).2 = 0 ∧ (∀ d, d < E → (a d).2 ≠ 0) ∧ ∀ k, k < n → ∀ m, mt_Sf nx al T n z m k → (a E).1 k ≤ m ∧ mt_Sf nx al T n z ((a E).1 k) k := by
  have hL : ∀ d, d ≤ 99 → bfLev nx al T n z (a d).1 d := by
    intro d
    induction d with
    | zero => intro _; exact h0
    | succ d ih => intro hd; exact bfLev_s (by omega) (ih (by omega)) (hs d (by omega) (ih (by omega)))
  have hex : ∃ d, d < M + 2 ∧ (a d).2 = 0 := by
    refine ⟨M + 1, by omega, ?_⟩
    by_cases e : (a (M + 1)).2 = 0
    · exact e
    · obtain ⟨k, hk, h1, h2⟩ := (hs M (by omega) (hL M (by omega))).2.2.2 e
      have := ((hL M (by omega)).2 k hk M (Nat.le_refl _)).mp (hcl k hk h2)
      omega
  have hmin : ∃ E, E < M + 2 ∧ (a E).2 = 0 ∧ ∀ d, d < E → (a d).2 ≠ 0 := by
    have key : ∀ b, (∃ d, d < b ∧ (a d).2 = 0) → ∃ E, E < b ∧ (a E).2 = 0 ∧ ∀ d, d < E → (a d).2 ≠ 0 := by
      intro b
      induction b with
      | zero => intro ⟨d, h, _⟩; omega
      | succ b ih =>
        intro ⟨d, h1, h2⟩
        by_cases c : ∃ d, d < b ∧ (a d).2 = 0
        · obtain ⟨E, q1, q2⟩ := ih c
          exact ⟨E, by omega, q2⟩
        · have : d = b := by
            by_cases e : d = b
            · exact e
            · exact absurd ⟨d, by omega, h2⟩ c
          subst this
          exact ⟨d, h1, h2, fun d' q1 q2 => c ⟨d', q1, q2⟩⟩
    exact key _ hex
  obtain ⟨E, hE, hE0, hE1⟩ := hmin
  refine ⟨E, by omega, hE0, hE1, ?_⟩
  have hEp : E ≠ 0 := by intro q; rw [q, ha] at hE0; exact absurd hE0 (by decide)
  obtain ⟨e, rfl⟩ : ∃ e, E = e + 1 := ⟨E - 1, by omega⟩
  have w := hs e (by omega) (hL e (by omega))
  have hsame := w.2.2.1 hE0
  have hLe := hL e (by omega)
  have hLE := hL (e + 1) (by omega)
  have hcl2 : ∀ m k, k < n → mt_Sf nx al T n z m k → mt_Sf nx al T n z e k := by
    intro m
    induction m with
    | zero => intro k hk h; exact Sf_le nx al T n z h (Nat.zero_le _)
    | succ m ih =>
      intro k hk h
      rcases h with h | ⟨k', t, hk', h1, ht, hal, hnx⟩
      · exact ih k hk h
      · have h2 : mt_Sf nx al T n z (e + 1) k := Or.inr ⟨k', t, hk', ih k' hk' h1, ht, hal, hnx⟩
        have h3 := (hLE.2 k hk (e + 1) (Nat.le_refl _)).mp h2
        rw [hsame k] at h3
        refine (hLe.2 k hk e (Nat.le_refl _)).mpr ?_
        rcases hLe.1 k hk with p | p <;> omega
  intro k hk m hm
  have h1 := (hLe.2 k hk e (Nat.le_refl _)).mp (hcl2 m k hk hm)
  rw [hsame k]
  refine ⟨?_, (hLe.2 k hk _ h1).mpr (Nat.le_refl _)⟩
  by_cases q : m ≤ e
  · exact (hLe.2 k hk m q).mp hm
  · omega
end BF
