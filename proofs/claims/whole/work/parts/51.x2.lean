def mt_Bq (nbs : Nat → List Nat) : Nat → Nat → Prop
  | 0, x => x = 0
  | m + 1, x => mt_Bq nbs m x ∨ ∃ y, mt_Bq nbs m y ∧ x ∈ nbs y
theorem Bq_le {nbs : Nat → List Nat} {m n x : Nat} (h : mt_Bq nbs m x) (hmn : m ≤ n) : mt_Bq nbs n x := by
  induction n with
  | zero => rw [show m = 0 by omega] at h; exact h
  | succ n ih =>
    by_cases e : m = n + 1
    · rw [e] at h; exact h
    · exact Or.inl (ih (by omega))
def mt_fq (tn rch ql : Nat) (S : sp_T) (l : List Nat) : sp_T := l.foldl (fun S b => sp1 tn rch ql b S) S
def mt_sfA (nbs : Nat → List Nat) (rch ql : Nat) : Nat → sp_T
  | 0 => (up1 (fun _ => 0) 0 1, fun _ => 0, 1)
  | i + 1 => mt_fq ((mt_sfA nbs rch ql i).1 ((mt_sfA nbs rch ql i).2.1 i)) rch ql (mt_sfA nbs rch ql i) (nbs ((mt_sfA nbs rch ql i).2.1 i))
section BQ
variable (nbs : Nat → List Nat) (rch ql : Nat)
def mt_BqI (S : sp_T) : Prop :=
  (∀ x, S.1 x ≠ 0 → S.1 x ≤ rch + 1 ∧ mt_Bq nbs (S.1 x - 1) x ∧ ∀ m, mt_Bq nbs m x → S.1 x ≤ m + 1) ∧
  (∀ j, j < S.2.2 → S.1 (S.2.1 j) ≠ 0 ∧ S.1 (S.2.1 j) ≤ rch) ∧
  (∀ j j', j < j' → j' < S.2.2 → S.2.1 j ≠ S.2.1 j') ∧
  (∀ x, S.1 x ≠ 0 → S.1 x ≤ rch → ∃ j, j < S.2.2 ∧ S.2.1 j = x) ∧
  (∀ j j', j ≤ j' → j' < S.2.2 → S.1 (S.2.1 j) ≤ S.1 (S.2.1 j')) ∧
  S.1 0 ≠ 0 ∧ S.2.2 ≤ ql
def mt_BqV (i : Nat) (S : sp_T) : Prop := mt_BqI nbs rch ql S ∧ (∀ j, j < i → j < S.2.2 → ∀ b ∈ nbs (S.2.1 j), S.1 b ≠ 0) ∧ (i < S.2.2 → ∀ j, j < S.2.2 → S.1 (S.2.1 j) ≤ S.1 (S.2.1 i) + 1)
def mt_BqJ (i s tn : Nat) (S : sp_T) : Prop := mt_BqI nbs rch ql S ∧ (∀ j, j < i → ∀ b ∈ nbs (S.2.1 j), S.1 b ≠ 0) ∧ i < S.2.2 ∧ S.2.1 i = s ∧ S.1 s = tn ∧ (∀ j, j < S.2.2 → S.1 (S.2.1 j) ≤ tn + 1) ∧ ∀ x, mt_Bq nbs (tn - 1) x → S.1 x ≠ 0
theorem nodup_map {f : Nat → Nat} : ∀ {n : Nat}, (∀ j j', j < j' → j' < n → f j ≠ f j') → ((List.range n).map f).Nodup := by
  intro n h
  rw [List.Nodup, List.pairwise_map]
  refine List.Pairwise.imp_of_mem (R := fun a b => a < b) ?_ List.pairwise_lt_range
  intro a b _ hb hab
  exact h a b hab (List.mem_range.mp hb)
variable {nbs rch ql}
theorem BqJ_step (hr : 1 ≤ rch) (hcap : ∀ l : List Nat, l.Nodup → (∀ x ∈ l, mt_Bq nbs (rch - 1) x) → l.length ≤ ql) {i s tn b : Nat} {S : sp_T} (h : mt_BqJ nbs rch ql i s tn S) (hb : b ∈ nbs s) : mt_BqJ nbs rch ql i s tn (sp1 tn rch ql b S) ∧ (sp1 tn rch ql b S).1 b ≠ 0 ∧ ∀ x, S.1 x ≠ 0 → (sp1 tn rch ql b S).1 x ≠ 0 := by
  obtain ⟨g, Q, c⟩ := S
  rw [sp1]
  dsimp only
  by_cases e : g b = 0
  · rw [if_pos e]
    obtain ⟨⟨i1, i2, i3, i4, i5, i0, i8⟩, i6, hic, hQi, hgs, i7, hK⟩ := h
    dsimp only at i1 i2 i3 i4 i5 i0 i6 hic hQi hgs i7 hK i8
    have hs0 := (i2 i hic)
    rw [hQi, hgs] at hs0
    have hbs : b ≠ s := by intro q; rw [q, hgs] at e; exact hs0.1 e
    have hBs : mt_Bq nbs (tn - 1) s := by have := (i1 s (by rw [hgs]; exact hs0.1)).2.1; rw [hgs] at this; exact this
    have hBb : mt_Bq nbs tn b := by
      have : mt_Bq nbs (tn - 1 + 1) b := Or.inr ⟨s, hBs, hb⟩
      rw [show tn - 1 + 1 = tn by omega] at this
      exact this
    have hg' : ∀ x, g x ≠ 0 → up1 g b (tn + 1) x = g x := by
      intro x hx
      simp only [up1]
      split
      · next q => rw [q] at hx; exact absurd e hx
      · rfl
    have hgb : up1 g b (tn + 1) b = tn + 1 := by simp [up1]
    have hgx : ∀ x, x ≠ b → up1 g b (tn + 1) x = g x := by intro x hx; simp [up1, hx]
    have hQg : ∀ j, j < c → up1 g b (tn + 1) (Q j) = g (Q j) := fun j hj => hg' _ (i2 j hj).1
    have hne : ∀ x, g x ≠ 0 → up1 g b (tn + 1) x ≠ 0 := fun x hx => by rw [hg' x hx]; exact hx
    have n1 : ∀ x, up1 g b (tn + 1) x ≠ 0 → up1 g b (tn + 1) x ≤ rch + 1 ∧ mt_Bq nbs (up1 g b (tn + 1) x - 1) x ∧ ∀ m, mt_Bq nbs m x → up1 g b (tn + 1) x ≤ m + 1 := by
      intro x hx
      by_cases q : x = b
      · subst q
        rw [hgb]
        refine ⟨by omega, hBb, fun m hm => ?_⟩
        by_cases hmt : m < tn
        · exact absurd e (hK x (Bq_le hm (by omega)))
        · omega
      · rw [hgx x q] at hx ⊢
        exact i1 x hx
    by_cases hc : tn < rch
    · have hcq : c < ql := by
        have := hcap ((List.range c).map Q ++ [b]) (by
          rw [List.nodup_append]
          refine ⟨nodup_map i3, by simp, ?_⟩
          intro a ha b' hb'
          rw [List.mem_map] at ha
          obtain ⟨j, hj, rfl⟩ := ha
          rw [List.mem_singleton] at hb'
          subst hb'
          intro q
          exact (i2 j (List.mem_range.mp hj)).1 (by rw [q]; exact e)) (by
          intro x hx
          rw [List.mem_append] at hx
          rcases hx with hx | hx
          · rw [List.mem_map] at hx
            obtain ⟨j, hj, rfl⟩ := hx
            have q := i2 j (List.mem_range.mp hj)
            exact Bq_le (i1 _ q.1).2.1 (by omega)
          · rw [List.mem_singleton] at hx
            subst hx
            exact Bq_le hBb (by omega))
        simp at this
        omega
      rw [if_pos ⟨hc, hcq⟩]
      have hQ' : ∀ j, j < c → up1 Q c b j = Q j := by intro j hj; simp [up1]; omega
      have hQc : up1 Q c b c = b := by simp [up1]
      have hval : ∀ j, j < c + 1 → (j < c ∧ up1 Q c b j = Q j ∧ up1 g b (tn + 1) (up1 Q c b j) = g (Q j)) ∨ (j = c ∧ up1 Q c b j = b ∧ up1 g b (tn + 1) (up1 Q c b j) = tn + 1) := by
        intro j hj
        by_cases q : j < c
        · exact Or.inl ⟨q, hQ' j q, by rw [hQ' j q]; exact hQg j q⟩
        · have : j = c := by omega
          subst this
          exact Or.inr ⟨rfl, hQc, by rw [hQc]; exact hgb⟩
      refine ⟨⟨⟨n1, ?_, ?_, ?_, ?_, hne 0 i0, ?_⟩, ?_, ?_, ?_, ?_, ?_, ?_⟩, ?_, hne⟩
      · intro j hj
        rcases hval j hj with ⟨q, _, q2⟩ | ⟨_, _, q2⟩
        · dsimp only; rw [q2]; exact i2 j q
        · dsimp only; rw [q2]; omega
      · intro j j' h1 h2
        dsimp only at h2 ⊢
        rw [hQ' j (by omega)]
        rcases hval j' h2 with ⟨q, q1, _⟩ | ⟨_, q1, _⟩
        · rw [q1]; exact i3 j j' h1 q
        · rw [q1]; intro w; exact (i2 j (by omega)).1 (by rw [w]; exact e)
      · intro x hx hx2
        dsimp only at hx hx2 ⊢
        by_cases q : x = b
        · exact ⟨c, by omega, by rw [hQc, q]⟩
        · rw [hgx x q] at hx hx2
          obtain ⟨j, hj, hjq⟩ := i4 x hx hx2
          exact ⟨j, by omega, by rw [hQ' j hj]; exact hjq⟩
      · intro j j' h1 h2
        dsimp only at h2 ⊢
        rcases hval j' h2 with ⟨q, _, q2⟩ | ⟨q, _, q2⟩
        · rw [q2, hQ' j (by omega), hQg j (by omega)]; exact i5 j j' h1 q
        · rw [q2]
          rcases hval j (by omega) with ⟨p, _, p2⟩ | ⟨_, _, p2⟩
          · rw [p2]; exact i7 j p
          · rw [p2]; exact Nat.le_refl _
      · dsimp only; omega
      · intro j hj b' hb'
        dsimp only at hb' ⊢
        rw [hQ' j (by omega)] at hb'
        exact hne b' (i6 j hj b' hb')
      · dsimp only; omega
      · dsimp only; rw [hQ' i hic]; exact hQi
      · dsimp only; rw [hgx s (fun q => hbs q.symm)]; exact hgs
      · intro j hj
        dsimp only at hj ⊢
        rcases hval j hj with ⟨q, _, q2⟩ | ⟨_, _, q2⟩
        · rw [q2]; exact i7 j q
        · rw [q2]; exact Nat.le_refl _
      · exact fun x hx => hne x (hK x hx)
      · dsimp only; rw [hgb]; omega
    · rw [if_neg (fun q => hc q.1)]
      refine ⟨⟨⟨n1, ?_, i3, ?_, ?_, hne 0 i0, i8⟩, ?_, hic, hQi, ?_, ?_, ?_⟩, ?_, hne⟩
      · intro j hj
        dsimp only at hj ⊢
        rw [hQg j hj]; exact i2 j hj
      · intro x hx hx2
        dsimp only at hx hx2 ⊢
        by_cases q : x = b
        · subst q; rw [hgb] at hx2; omega
        · rw [hgx x q] at hx hx2; exact i4 x hx hx2
      · intro j j' h1 h2
        dsimp only at h2 ⊢
        rw [hQg j (by omega), hQg j' h2]; exact i5 j j' h1 h2
      · intro j hj b' hb'
        exact hne b' (i6 j hj b' hb')
      · dsimp only; rw [hgx s (fun q => hbs q.symm)]; exact hgs
      · intro j hj
        dsimp only at hj ⊢
        rw [hQg j hj]; exact i7 j hj
      · exact fun x hx => hne x (hK x hx)
      · dsimp only; rw [hgb]; omega
  · rw [if_neg e]
    exact ⟨h, e, fun x hx => hx⟩
theorem BqJ_fold (hr : 1 ≤ rch) (hcap : ∀ l : List Nat, l.Nodup → (∀ x ∈ l, mt_Bq nbs (rch - 1) x) → l.length ≤ ql) {i s tn : Nat} : ∀ (l : List Nat) (S : sp_T), mt_BqJ nbs rch ql i s tn S → (∀ b ∈ l, b ∈ nbs s) → mt_BqJ nbs rch ql i s tn (mt_fq tn rch ql S l) ∧ (∀ b ∈ l, (mt_fq tn rch ql S l).1 b ≠ 0) ∧ ∀ x, S.1 x ≠ 0 → (mt_fq tn rch ql S l).1 x ≠ 0 := by
  intro l
  induction l with
  | nil => intro S h _; exact ⟨h, (fun b hb => absurd hb (by simp)), fun x hx => hx⟩
  | cons b l ih =>
    intro S h hb
    obtain ⟨a1, a2, a3⟩ := BqJ_step hr hcap h (hb b List.mem_cons_self)
    obtain ⟨b1, b2, b3⟩ := ih _ a1 (fun b' hb' => hb b' (List.mem_cons_of_mem _ hb'))
    refine ⟨b1, ?_, fun x hx => b3 x (a3 x hx)⟩
    intro b' hb'
    rcases List.mem_cons.mp hb' with q | q
    · subst q; exact b3 _ a2
    · exact b2 b' q
theorem BqV_K {i : Nat} {S : sp_T} (h : mt_BqV nbs rch ql i S) (bnd : Nat) (hb : ∀ j, j < S.2.2 → i ≤ j → bnd ≤ S.1 (S.2.1 j)) (hbr : bnd ≤ rch + 1) : ∀ m, m < bnd → ∀ x, mt_Bq nbs m x → S.1 x ≠ 0 := by
  obtain ⟨⟨i1, i2, i3, i4, i5, i0, i8⟩, i6, i7⟩ := h
  intro m
  induction m with
  | zero => intro _ x hx; rw [show x = 0 from hx]; exact i0
  | succ m ih =>
    intro hm x hx
    rcases hx with hx | ⟨y, hy, hxy⟩
    · exact ih (by omega) x hx
    · have hy0 := ih (by omega) y hy
      have hy1 := (i1 y hy0).2.2 m hy
      obtain ⟨j, hj, hjy⟩ := i4 y hy0 (by omega)
      by_cases q : j < i
      · subst hjy; exact i6 j q hj x hxy
      · have := hb j hj (by omega)
        rw [hjy] at this
        omega
theorem BqV_0 (hr : 1 ≤ rch) (hq : 1 ≤ ql) : mt_BqV nbs rch ql 0 (mt_sfA nbs rch ql 0) := by
  rw [mt_sfA]
  have hx : ∀ x, up1 (fun _ => 0) 0 1 x ≠ 0 → x = 0 := by
    intro x h
    simp only [up1] at h
    split at h
    · assumption
    · exact absurd rfl h
  have h0 : up1 (fun _ => 0) 0 1 0 = 1 := by simp [up1]
  refine ⟨⟨?_, ?_, ?_, ?_, ?_, ?_, hq⟩, ?_, ?_⟩
  · intro x h
    have := hx x h
    subst this
    dsimp only
    rw [h0]
    exact ⟨by omega, rfl, fun m _ => by omega⟩
  · intro j hj; dsimp only; rw [h0]; omega
  · intro j j' h1 h2; dsimp only at h2; omega
  · intro x h _; exact ⟨0, Nat.one_pos, (hx x h).symm⟩
  · intro j j' _ _; exact Nat.le_refl _
  · dsimp only; rw [h0]; decide
  · intro j hj; omega
  · intro _ j hj; dsimp only; rw [h0]; omega
theorem BqV_s (hr : 1 ≤ rch) (hcap : ∀ l : List Nat, l.Nodup → (∀ x ∈ l, mt_Bq nbs (rch - 1) x) → l.length ≤ ql) {i : Nat} (h : mt_BqV nbs rch ql i (mt_sfA nbs rch ql i)) (hi : i < (mt_sfA nbs rch ql i).2.2) : mt_BqV nbs rch ql (i + 1) (mt_sfA nbs rch ql (i + 1)) := by
  rw [mt_sfA]
  generalize mt_sfA nbs rch ql i = S at h hi
  have hi2 := h.1.2.1 i hi
  have hK := BqV_K h (S.1 (S.2.1 i)) (fun j hj hij => h.1.2.2.2.2.1 i j hij hj) (by omega)
  have hJ : mt_BqJ nbs rch ql i (S.2.1 i) (S.1 (S.2.1 i)) S := ⟨h.1, fun j hj => h.2.1 j hj (by omega), hi, rfl, rfl, h.2.2 hi, fun x hx => hK _ (by omega) x hx⟩
  obtain ⟨⟨a1, a2, a3, a4, a5, a6, a7⟩, b2, b3⟩ := BqJ_fold hr hcap (nbs (S.2.1 i)) S hJ (fun b hb => hb)
  refine ⟨a1, ?_, ?_⟩
  · intro j hj hj2 b hb
    by_cases q : j < i
    · exact a2 j q b hb
    · have : j = i := by omega
      subst this
      rw [a4] at hb
      exact b2 b hb
  · intro hi1 j hj
    have := a6 j hj
    have q := a1.2.2.2.2.1 i (i + 1) (by omega) hi1
    rw [a4, a5] at q
    omega
theorem BqV_all (hr : 1 ≤ rch) (hq : 1 ≤ ql) (hcap : ∀ l : List Nat, l.Nodup → (∀ x ∈ l, mt_Bq nbs (rch - 1) x) → l.length ≤ ql) : ∀ i, (∀ j, j < i → j < (mt_sfA nbs rch ql j).2.2) → mt_BqV nbs rch ql i (mt_sfA nbs rch ql i) := by
  intro i
  induction i with
  | zero => intro _; exact BqV_0 hr hq
  | succ i ih => intro h; exact BqV_s hr hcap (ih (fun j hj => h j (by omega))) (h i (by omega))
theorem Bq_run (hr : 1 ≤ rch) (hq : 1 ≤ ql) (hcap : ∀ l : List Nat, l.Nodup → (∀ x ∈ l, mt_Bq nbs (rch - 1) x) → l.length ≤ ql) : ∃ E, (∀ i, i < E → i < (mt_sfA nbs rch ql i).2.2) ∧ (mt_sfA nbs rch ql E).2.2 ≤ E ∧ E ≤ ql ∧ (∀ i, i ≤ E → mt_BqI nbs rch ql (mt_sfA nbs rch ql i)) ∧ (∀ m x, mt_Bq nbs m x → tg_ rch (mt_sfA nbs rch ql E).1 x ≤ m) ∧ ∀ x, tg_ rch (mt_sfA nbs rch ql E).1 x = 0 → x = 0 := by
  classical
  have hex : ∃ E, E ≤ ql ∧ (∀ i, i < E → i < (mt_sfA nbs rch ql i).2.2) ∧ (mt_sfA nbs rch ql E).2.2 ≤ E := by
    have key : ∀ n, n ≤ ql + 1 → (∃ E, E < n ∧ (∀ i, i < E → i < (mt_sfA nbs rch ql i).2.2) ∧ (mt_sfA nbs rch ql E).2.2 ≤ E) ∨ ∀ i, i < n → i < (mt_sfA nbs rch ql i).2.2 := by
      intro n
      induction n with
      | zero => intro _; exact Or.inr (fun i hi => absurd hi (by omega))
      | succ n ih =>
        intro hn
        rcases ih (by omega) with ⟨E, h1, h2⟩ | h
        · exact Or.inl ⟨E, by omega, h2⟩
        · by_cases q : n < (mt_sfA nbs rch ql n).2.2
          · refine Or.inr (fun i hi => ?_)
            by_cases e : i = n
            · subst e; exact q
            · exact h i (by omega)
          · exact Or.inl ⟨n, by omega, h, by omega⟩
    rcases key (ql + 1) (Nat.le_refl _) with ⟨E, h1, h2⟩ | h
    · exact ⟨E, by omega, h2⟩
    · have := (BqV_all hr hq hcap ql (fun j hj => h j (by omega))).1.2.2.2.2.2.2
      exact absurd (h ql (by omega)) (by omega)
  obtain ⟨E, hE, h1, h2⟩ := hex
  have hV := fun i (hi : i ≤ E) => BqV_all hr hq hcap i (fun j hj => h1 j (by omega))
  have hVE := hV E (Nat.le_refl _)
  have hK := BqV_K hVE (rch + 1) (fun j hj hij => absurd hj (by omega)) (Nat.le_refl _)
  refine ⟨E, h1, h2, hE, fun i hi => (hV i hi).1, ?_, ?_⟩
  · intro m x hx
    rw [tg_]
    split
    · next q =>
      by_cases hm : m < rch + 1
      · exact absurd q (hK m hm x hx)
      · omega
    · next q => have := (hVE.1.1 x q).2.2 m hx; omega
  · intro x hx
    rw [tg_] at hx
    split at hx
    · omega
    · next q =>
      have := (hVE.1.1 x q).2.1
      rw [hx] at this
      exact this
end BQ
