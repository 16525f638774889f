def mt_RQ {α : Type} (G : α → Prop) (τ : Nat → α → α) (al : Nat → Prop) : Nat → α → Prop
  | 0, a => G a
  | n + 1, a => G a ∨ ∃ t, t < 18 ∧ al t ∧ mt_RQ G τ al n (τ t a)
theorem RQ_G {α : Type} {G : α → Prop} {τ : Nat → α → α} {al : Nat → Prop} {a : α} (h : G a) : ∀ n, mt_RQ G τ al n a
  | 0 => h
  | _ + 1 => Or.inl h
theorem RQ_s {α : Type} {G : α → Prop} {τ : Nat → α → α} {al : Nat → Prop} : ∀ {n : Nat} {a : α}, mt_RQ G τ al n a → mt_RQ G τ al (n + 1) a := by
  intro n
  induction n with
  | zero => intro a h; exact Or.inl h
  | succ n ih =>
    intro a h
    rcases h with h | ⟨t, h1, h2, h3⟩
    · exact Or.inl h
    · exact Or.inr ⟨t, h1, h2, ih h3⟩
theorem RQ_le {α : Type} {G : α → Prop} {τ : Nat → α → α} {al : Nat → Prop} {a : α} {m n : Nat} (h : mt_RQ G τ al m a) (hmn : m ≤ n) : mt_RQ G τ al n a := by
  induction n with
  | zero => rw [show m = 0 by omega] at h; exact h
  | succ n ih =>
    by_cases e : m = n + 1
    · rw [e] at h; exact h
    · exact RQ_s (ih (by omega))
def mt_LxQ {α : Type} (G : α → Prop) (τ : Nat → α → α) (al : Nat → Prop) : Nat → α → List Nat → Prop
  | 0, _, w => w = []
  | n + 1, a, w => ∃ t w', w = t :: w' ∧ t < 18 ∧ al t ∧ mt_RQ G τ al n (τ t a) ∧ (∀ t', t' < t → al t' → ¬ mt_RQ G τ al n (τ t' a)) ∧ mt_LxQ G τ al n (τ t a) w'
theorem LxQ_uniq {α : Type} {G : α → Prop} {τ : Nat → α → α} {al : Nat → Prop} : ∀ {n : Nat} {a : α} {w w' : List Nat}, mt_LxQ G τ al n a w → mt_LxQ G τ al n a w' → w = w' := by
  intro n
  induction n with
  | zero => intro a w w' h h'; rw [show w = [] from h, show w' = [] from h']
  | succ n ih =>
    intro a w w' h h'
    obtain ⟨t, v, e, h1, h2, h3, h4, h5⟩ := h
    obtain ⟨t', v', e', h1', h2', h3', h4', h5'⟩ := h'
    have : t = t' := by
      rcases Nat.lt_trichotomy t t' with q | q | q
      · exact absurd h3 (h4' t q h2)
      · exact q
      · exact absurd h3' (h4 t' q h2')
    subst this
    rw [e, e', ih h5 h5']
theorem LxQ_len {α : Type} {G : α → Prop} {τ : Nat → α → α} {al : Nat → Prop} : ∀ {n : Nat} {a : α} {w : List Nat}, mt_LxQ G τ al n a w → w.length = n := by
  intro n
  induction n with
  | zero => intro a w h; rw [show w = [] from h]; rfl
  | succ n ih =>
    intro a w h
    obtain ⟨t, v, e, h1, h2, h3, h4, h5⟩ := h
    rw [e, List.length_cons, ih h5]
def mt_alq (fwq t : Nat) : Prop := t / 3 < fwq ∨ t % 3 = 1
theorem ft_al {fwq f i : Nat} (hf : f < 6) (hi : i < to_ fwq f) : ft_ fwq f + i < 18 ∧ mt_alq fwq (ft_ fwq f + i) ∧ (ft_ fwq f + i) / 3 = f := by
  unfold to_ at hi
  unfold ft_ mt_alq
  split at hi
  · next h => rw [if_pos h]; omega
  · next h => rw [if_neg h]; omega
theorem al_ft {fwq t : Nat} (ht : t < 18) (h : mt_alq fwq t) : ∃ i, i < to_ fwq (t / 3) ∧ ft_ fwq (t / 3) + i = t := by
  unfold mt_alq at h
  unfold to_ ft_
  by_cases e : t / 3 < fwq
  · rw [if_pos e, if_pos e]; exact ⟨t % 3, by omega, by omega⟩
  · rw [if_neg e, if_neg e]; exact ⟨0, by omega, by omega⟩
theorem yI_congr (nx : Nat → Nat → Nat) (fc : Nat) {x y : Nat → Nat} {nf : Nat} (h : ∀ j, j < nf → x j = y j) : ∀ i j, j < nf → yI nx fc x i j = yI nx fc y i j := by
  intro i
  induction i with
  | zero => exact h
  | succ i ih => intro j hj; rw [yI, yI, av_, av_, ih j hj]
section DV
variable (nx : Nat → Nat → Nat) (sz : Nat → Nat) (nf rch fwq : Nat) (g : Nat → Nat)
theorem dvI_congr (rec : Nat → (Nat → Nat) → Option (List Nat)) (hr : ∀ f (x y : Nat → Nat), (∀ j, j < nf → x j = y j) → rec f x = rec f y) (left fc : Nat) {x y : Nat → Nat} (h : ∀ j, j < nf → x j = y j) : ∀ n i, dvI nx sz nf rch fwq g rec left fc x n i = dvI nx sz nf rch fwq g rec left fc y n i := by
  intro n
  induction n with
  | zero => intro i; rfl
  | succ n ih =>
    intro i
    rw [dvI, dvI, sv_congr sz nf (yI_congr nx fc h (i + 1)), hr fc _ _ (yI_congr nx fc h (i + 1)), ih]
theorem dvO_congr (rec : Nat → (Nat → Nat) → Option (List Nat)) (hr : ∀ f (x y : Nat → Nat), (∀ j, j < nf → x j = y j) → rec f x = rec f y) (left last : Nat) {x y : Nat → Nat} (h : ∀ j, j < nf → x j = y j) : ∀ n f, dvO nx sz nf rch fwq g rec left last x n f = dvO nx sz nf rch fwq g rec left last y n f := by
  intro n
  induction n with
  | zero => intro f; rfl
  | succ n ih =>
    intro f
    rw [dvO, dvO, dvI_congr nx sz nf rch fwq g rec hr left f h, ih]
theorem dv_congr : ∀ l last (x y : Nat → Nat), (∀ j, j < nf → x j = y j) → dv_ nx sz nf rch fwq g l last x = dv_ nx sz nf rch fwq g l last y := by
  intro l
  induction l with
  | zero => intro last x y h; rfl
  | succ l ih => intro last x y h; rw [dv_, dv_]; exact dvO_congr nx sz nf rch fwq g _ ih (l + 1) last h 6 0
def mt_dvT (rec : Nat → (Nat → Nat) → Option (List Nat)) (left f : Nat) (x : Nat → Nat) (i : Nat) : Prop := tg_ rch g (sv_ sz (yI nx f x (i + 1)) nf) < left ∧ (rec f (yI nx f x (i + 1))).isSome
theorem dvI_some {rec : Nat → (Nat → Nat) → Option (List Nat)} {left f : Nat} {x : Nat → Nat} : ∀ n i w, dvI nx sz nf rch fwq g rec left f x n i = some w → ∃ j w', i ≤ j ∧ j < i + n ∧ tg_ rch g (sv_ sz (yI nx f x (j + 1)) nf) < left ∧ rec f (yI nx f x (j + 1)) = some w' ∧ w = (ft_ fwq f + j) :: w' ∧ ∀ j', i ≤ j' → j' < j → ¬ mt_dvT nx sz nf rch g rec left f x j' := by
  intro n
  induction n with
  | zero => intro i w h; exact absurd h (by rw [dvI]; exact fun q => nomatch q)
  | succ n ih =>
    intro i w h
    rw [dvI] at h
    by_cases c : tg_ rch g (sv_ sz (yI nx f x (i + 1)) nf) < left
    · rw [if_pos c] at h
      cases e : rec f (yI nx f x (i + 1)) with
      | some w1 =>
        rw [e] at h
        exact ⟨i, w1, Nat.le_refl _, by omega, c, e, by injection h with h; exact h.symm, fun j' h1 h2 => absurd h1 (by omega)⟩
      | none =>
        rw [e] at h
        obtain ⟨j, w', a1, a2, a3, a4, a5, a6⟩ := ih (i + 1) w h
        refine ⟨j, w', by omega, by omega, a3, a4, a5, fun j' h1 h2 => ?_⟩
        by_cases q : j' = i
        · subst q; intro hh; rw [mt_dvT, e] at hh; exact absurd hh.2 (by decide)
        · exact a6 j' (by omega) h2
    · rw [if_neg c] at h
      obtain ⟨j, w', a1, a2, a3, a4, a5, a6⟩ := ih (i + 1) w h
      refine ⟨j, w', by omega, by omega, a3, a4, a5, fun j' h1 h2 => ?_⟩
      by_cases q : j' = i
      · subst q; exact fun hh => c hh.1
      · exact a6 j' (by omega) h2
theorem dvI_none {rec : Nat → (Nat → Nat) → Option (List Nat)} {left f : Nat} {x : Nat → Nat} : ∀ n i, dvI nx sz nf rch fwq g rec left f x n i = none → ∀ j, i ≤ j → j < i + n → ¬ mt_dvT nx sz nf rch g rec left f x j := by
  intro n
  induction n with
  | zero => intro i h j h1 h2; omega
  | succ n ih =>
    intro i h j h1 h2
    rw [dvI] at h
    by_cases c : tg_ rch g (sv_ sz (yI nx f x (i + 1)) nf) < left
    · rw [if_pos c] at h
      cases e : rec f (yI nx f x (i + 1)) with
      | some w1 => rw [e] at h; exact nomatch h
      | none =>
        rw [e] at h
        by_cases q : j = i
        · subst q; intro hh; rw [mt_dvT, e] at hh; exact absurd hh.2 (by decide)
        · exact ih (i + 1) h j (by omega) (by omega)
    · rw [if_neg c] at h
      by_cases q : j = i
      · subst q; exact fun hh => c hh.1
      · exact ih (i + 1) h j (by omega) (by omega)
theorem dvO_some {rec : Nat → (Nat → Nat) → Option (List Nat)} {left last : Nat} {x : Nat → Nat} : ∀ n f w, dvO nx sz nf rch fwq g rec left last x n f = some w → ∃ f1 j w', f ≤ f1 ∧ f1 < f + n ∧ nl_ last f1 = 0 ∧ j < to_ fwq f1 ∧ tg_ rch g (sv_ sz (yI nx f1 x (j + 1)) nf) < left ∧ rec f1 (yI nx f1 x (j + 1)) = some w' ∧ w = (ft_ fwq f1 + j) :: w' ∧ (∀ j', j' < j → ¬ mt_dvT nx sz nf rch g rec left f1 x j') ∧ ∀ f', f ≤ f' → f' < f1 → nl_ last f' = 0 → ∀ j', j' < to_ fwq f' → ¬ mt_dvT nx sz nf rch g rec left f' x j' := by
  intro n
  induction n with
  | zero => intro f w h; exact absurd h (by rw [dvO]; exact fun q => nomatch q)
  | succ n ih =>
    intro f w h
    rw [dvO] at h
    by_cases c : nl_ last f = 0
    · rw [if_pos c] at h
      cases e : dvI nx sz nf rch fwq g rec left f x (to_ fwq f) 0 with
      | some w1 =>
        rw [e] at h
        have hw : w1 = w := by injection h
        subst hw
        obtain ⟨j, w', a1, a2, a3, a4, a5, a6⟩ := dvI_some nx sz nf rch fwq g _ _ _ e
        exact ⟨f, j, w', Nat.le_refl _, by omega, c, by omega, a3, a4, a5, fun j' hj => a6 j' (Nat.zero_le _) hj, fun f' h1 h2 => absurd h1 (by omega)⟩
      | none =>
        rw [e] at h
        obtain ⟨f1, j, w', a1, a2, a3, a4, a5, a6, a7, a8, a9⟩ := ih (f + 1) w h
        refine ⟨f1, j, w', by omega, by omega, a3, a4, a5, a6, a7, a8, fun f' h1 h2 h3 j' h4 => ?_⟩
        by_cases q : f' = f
        · subst q; exact dvI_none nx sz nf rch fwq g _ _ e j' (Nat.zero_le _) (by omega)
        · exact a9 f' (by omega) h2 h3 j' h4
    · rw [if_neg c] at h
      obtain ⟨f1, j, w', a1, a2, a3, a4, a5, a6, a7, a8, a9⟩ := ih (f + 1) w h
      refine ⟨f1, j, w', by omega, by omega, a3, a4, a5, a6, a7, a8, fun f' h1 h2 h3 j' h4 => ?_⟩
      by_cases q : f' = f
      · subst q; exact absurd h3 c
      · exact a9 f' (by omega) h2 h3 j' h4
theorem dvO_none {rec : Nat → (Nat → Nat) → Option (List Nat)} {left last : Nat} {x : Nat → Nat} : ∀ n f, dvO nx sz nf rch fwq g rec left last x n f = none → ∀ f1, f ≤ f1 → f1 < f + n → nl_ last f1 = 0 → ∀ j, j < to_ fwq f1 → ¬ mt_dvT nx sz nf rch g rec left f1 x j := by
  intro n
  induction n with
  | zero => intro f h f1 h1 h2; omega
  | succ n ih =>
    intro f h f1 h1 h2 h3 j hj
    rw [dvO] at h
    by_cases c : nl_ last f = 0
    · rw [if_pos c] at h
      cases e : dvI nx sz nf rch fwq g rec left f x (to_ fwq f) 0 with
      | some w1 => rw [e] at h; exact nomatch h
      | none =>
        rw [e] at h
        by_cases q : f1 = f
        · subst q; exact dvI_none nx sz nf rch fwq g _ _ e j (Nat.zero_le _) (by omega)
        · exact ih (f + 1) h f1 (by omega) (by omega) h3 j hj
    · rw [if_neg c] at h
      by_cases q : f1 = f
      · subst q; exact absurd h3 c
      · exact ih (f + 1) h f1 (by omega) (by omega) h3 j hj
variable {α : Type} (C G : α → Prop) (τ : Nat → α → α) (x : α → Nat → Nat)
def mt_DvH : Prop :=
  (∀ a t, C a → t < 18 → mt_alq fwq t → C (τ t a)) ∧
  (∀ a t1 t2, C a → t1 < 18 → t2 < 18 → mt_alq fwq t1 → mt_alq fwq t2 → t1 / 3 = t2 / 3 → τ t2 (τ t1 a) = a ∨ ∃ t3, t3 < 18 ∧ mt_alq fwq t3 ∧ τ t2 (τ t1 a) = τ t3 a) ∧
  (∀ a t1 t2, C a → t1 < 18 → t2 < 18 → mt_alq fwq t1 → mt_alq fwq t2 → t2 / 3 + 1 = t1 / 3 → t2 / 3 / 2 = t1 / 3 / 2 → τ t2 (τ t1 a) = τ t1 (τ t2 a)) ∧
  (∀ a f i, C a → f < 6 → i < to_ fwq f → ∀ j, j < nf → yI nx f (x a) (i + 1) j = x (τ (ft_ fwq f + i) a) j) ∧
  (∀ a m, C a → mt_RQ G τ (mt_alq fwq) m a → tg_ rch g (sv_ sz (x a) nf) ≤ m) ∧
  (∀ a, C a → tg_ rch g (sv_ sz (x a) nf) = 0 → G a) ∧
  (∀ a, C a → (sv_ sz (x a) nf = 0 ↔ G a))
variable {nx sz nf rch fwq g C G τ x}
theorem dv_sound (H : mt_DvH nx sz nf rch fwq g C G τ x) : ∀ n a last w, C a → dv_ nx sz nf rch fwq g (n + 1) last (x a) = some w → mt_RQ G τ (mt_alq fwq) (n + 1) a := by
  obtain ⟨hC, hS, hO, h1, h2, h3, h4⟩ := H
  intro n
  induction n with
  | zero =>
    intro a last w ha h
    rw [dv_] at h
    obtain ⟨f1, j, w', a1, a2, a3, a4, a5, a6, a7, a8, a9⟩ := dvO_some nx sz nf rch fwq g _ _ _ h
    have q := ft_al (by omega) a4
    rw [sv_congr sz nf (h1 a f1 j ha (by omega) a4)] at a5
    exact Or.inr ⟨_, q.1, q.2.1, h3 _ (hC a _ ha q.1 q.2.1) (by omega)⟩
  | succ n ih =>
    intro a last w ha h
    rw [dv_] at h
    obtain ⟨f1, j, w', a1, a2, a3, a4, a5, a6, a7, a8, a9⟩ := dvO_some nx sz nf rch fwq g _ _ _ h
    have q := ft_al (by omega) a4
    rw [dv_congr nx sz nf rch fwq g _ _ _ _ (h1 a f1 j ha (by omega) a4)] at a6
    exact Or.inr ⟨_, q.1, q.2.1, ih _ _ _ (hC a _ ha q.1 q.2.1) a6⟩
theorem least18 {P : Nat → Prop} : ∀ n, (∃ t, t < n ∧ P t) → ∃ t, t < n ∧ P t ∧ ∀ t', t' < t → ¬ P t' := by
  classical
  intro n
  induction n with
  | zero => intro ⟨t, h, _⟩; omega
  | succ n ih =>
    intro ⟨t, h, hp⟩
    by_cases c : ∃ t, t < n ∧ P t
    · obtain ⟨t1, q1, q2, q3⟩ := ih c
      exact ⟨t1, by omega, q2, q3⟩
    · have : t = n := by
        by_cases e : t = n
        · exact e
        · exact absurd ⟨t, by omega, hp⟩ c
      subst this
      exact ⟨t, h, hp, fun t' h1 h2 => c ⟨t', h1, h2⟩⟩
theorem dv_main (H : mt_DvH nx sz nf rch fwq g C G τ x) : ∀ n a last, C a → mt_RQ G τ (mt_alq fwq) n a → (∀ m, m < n → ¬ mt_RQ G τ (mt_alq fwq) m a) → (∀ k t, n = k + 1 → t < 18 → mt_alq fwq t → mt_RQ G τ (mt_alq fwq) k (τ t a) → (∀ t', t' < t → mt_alq fwq t' → ¬ mt_RQ G τ (mt_alq fwq) k (τ t' a)) → nl_ last (t / 3) = 0) → ∃ w, dv_ nx sz nf rch fwq g n last (x a) = some w ∧ mt_LxQ G τ (mt_alq fwq) n a w := by
  have H0 := H
  obtain ⟨hC, hS, hO, h1, h2, h3, h4⟩ := H
  intro n
  induction n with
  | zero => intro a last _ _ _ _; exact ⟨[], rfl, rfl⟩
  | succ n ih =>
    intro a last ha hR hm hc
    have hn : ¬ mt_RQ G τ (mt_alq fwq) n a := hm n (by omega)
    have hex : ∃ t, t < 18 ∧ mt_alq fwq t ∧ mt_RQ G τ (mt_alq fwq) n (τ t a) := by
      rcases hR with h | h
      · exact absurd (RQ_G h n) hn
      · exact h
    obtain ⟨t, ht, ⟨hal, hRt⟩, hleast⟩ := least18 (P := fun t => mt_alq fwq t ∧ mt_RQ G τ (mt_alq fwq) n (τ t a)) 18 hex
    have hleast' : ∀ t', t' < t → mt_alq fwq t' → ¬ mt_RQ G τ (mt_alq fwq) n (τ t' a) := fun t' q1 q2 q3 => hleast t' q1 ⟨q2, q3⟩
    have hnl := hc n t rfl ht hal hRt hleast'
    have ha' := hC a t ha ht hal
    have hm' : ∀ m, m < n → ¬ mt_RQ G τ (mt_alq fwq) m (τ t a) := fun m q1 q2 => hm (m + 1) (by omega) (Or.inr ⟨t, ht, hal, q2⟩)
    obtain ⟨w', hw1, hw2⟩ := ih (τ t a) (t / 3) ha' hRt hm' (by
      intro k t2 hk ht2 hal2 hR2 hl2
      subst hk
      rw [nl_]
      split
      · next hh =>
        rcases hh with e | ⟨e1, e2⟩
        · rcases hS a t t2 ha ht ht2 hal hal2 e.symm with q | ⟨t3, q1, q2, q3⟩
          · rw [q] at hR2; exact absurd (RQ_s hR2) hn
          · rw [q3] at hR2; exact absurd (Or.inr ⟨t3, q1, q2, hR2⟩) hn
        · rw [hO a t t2 ha ht ht2 hal hal2 e1 e2] at hR2
          exact absurd (Or.inr ⟨t, ht, hal, hR2⟩) (hleast' t2 (by omega) hal2)
      · rfl)
    obtain ⟨i, hi, hft⟩ := al_ft ht hal
    have hx1 := h1 a (t / 3) i ha (by omega) hi
    rw [hft] at hx1
    have hT : mt_dvT nx sz nf rch g (dv_ nx sz nf rch fwq g n) (n + 1) (t / 3) (x a) i := by
      refine ⟨?_, ?_⟩
      · rw [sv_congr sz nf hx1]; have := h2 _ _ ha' hRt; omega
      · rw [dv_congr nx sz nf rch fwq g _ _ _ _ hx1, hw1]; rfl
    refine ⟨t :: w', ?_, t, w', rfl, ht, hal, hRt, hleast', hw2⟩
    rw [dv_]
    cases e : dvO nx sz nf rch fwq g (dv_ nx sz nf rch fwq g n) (n + 1) last (x a) 6 0 with
    | none => exact absurd hT (dvO_none nx sz nf rch fwq g _ _ e (t / 3) (Nat.zero_le _) (by omega) hnl i hi)
    | some w =>
      obtain ⟨f1, j, w1, a1, a2, a3, a4, a5, a6, a7, a8, a9⟩ := dvO_some nx sz nf rch fwq g _ _ _ e
      have q := ft_al (by omega) a4
      have hx2 := h1 a f1 j ha (by omega) a4
      have hR1 : mt_RQ G τ (mt_alq fwq) n (τ (ft_ fwq f1 + j) a) := by
        cases n with
        | zero => rw [sv_congr sz nf hx2] at a5; exact h3 _ (hC a _ ha q.1 q.2.1) (by omega)
        | succ n => rw [dv_congr nx sz nf rch fwq g _ _ _ _ hx2] at a6; exact dv_sound H0 n _ _ _ (hC a _ ha q.1 q.2.1) a6
      have hge : ¬ ft_ fwq f1 + j < t := fun hlt => hleast' _ hlt q.2.1 hR1
      have hle : ¬ t < ft_ fwq f1 + j := by
        intro hlt
        by_cases ef : t / 3 = f1
        · subst ef
          exact a8 i (by omega) hT
        · exact a9 (t / 3) (Nat.zero_le _) (by omega) hnl i hi hT
      have het : ft_ fwq f1 + j = t := by omega
      have hf1 : f1 = t / 3 := by rw [← het]; exact q.2.2.symm
      subst hf1
      have hji : j = i := by omega
      subst hji
      rw [dv_congr nx sz nf rch fwq g _ _ _ _ hx1, hw1] at a6
      have : w' = w1 := by injection a6
      rw [a7, this, het]
theorem fdL_main {b n : Nat} {a : α} {w : List Nat} (hb : ∀ c, b ≤ c → c < n → dv_ nx sz nf rch fwq g c 4294967295 (x a) = none) (hn : dv_ nx sz nf rch fwq g n 4294967295 (x a) = some w) : ∀ k c, b ≤ c → c ≤ n → n < c + k → fdL nx sz nf rch fwq g (x a) k c = some (n, w) := by
  intro k
  induction k with
  | zero => intro c h1 h2 h3; omega
  | succ k ih =>
    intro c h1 h2 h3
    rw [fdL]
    by_cases e : c = n
    · subst e; rw [hn]
    · rw [hb c h1 (by omega)]; exact ih (c + 1) (by omega) (by omega) (by omega)
theorem fd_main (H : mt_DvH nx sz nf rch fwq g C G τ x) {n : Nat} {a : α} (ha : C a) (hR : mt_RQ G τ (mt_alq fwq) n a) (hm : ∀ m, m < n → ¬ mt_RQ G τ (mt_alq fwq) m a) (h15 : n ≤ 15) : ∃ w, fd_ nx sz nf rch fwq g (x a) = (n, w) ∧ mt_LxQ G τ (mt_alq fwq) n a w := by
  have H0 := H
  obtain ⟨hC, hS, hO, h1, h2, h3, h4⟩ := H
  rw [fd_]
  by_cases hz : sv_ sz (x a) nf = 0
  · rw [if_pos hz]
    have hn : n = 0 := by
      cases n with
      | zero => rfl
      | succ n => exact absurd ((h4 a ha).mp hz) (hm 0 (by omega))
    subst hn
    exact ⟨[], rfl, rfl⟩
  · rw [if_neg hz]
    have hG : ¬ G a := fun q => hz ((h4 a ha).mpr q)
    have ht := h2 a n ha hR
    have ht1 : tg_ rch g (sv_ sz (x a) nf) ≠ 0 := fun q => hG (h3 a ha q)
    obtain ⟨w, hw1, hw2⟩ := dv_main H0 n a 4294967295 ha hR hm (by
      intro k t _ ht _ _ _
      rw [nl_, if_neg (by omega)])
    refine ⟨w, ?_, hw2⟩
    rw [fdL_main (b := 1) (n := n) (a := a) (w := w) ?_ hw1 _ _ (by omega) ht (by omega)]
    · rfl
    · intro c hc1 hc2
      cases e : dv_ nx sz nf rch fwq g c 4294967295 (x a) with
      | none => rfl
      | some v =>
        obtain ⟨c', rfl⟩ : ∃ c', c = c' + 1 := ⟨c - 1, by omega⟩
        exact absurd (dv_sound H0 c' a _ v ha e) (hm _ hc2)
end DV
