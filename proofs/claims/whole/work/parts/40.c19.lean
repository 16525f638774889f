theorem in_X10_knownStage_X10 : ∀ w ∈ wsX100, w ∈ wsX10_knownStage := fun _ h => List.mem_cons_of_mem _ (List.mem_append_left _ (List.mem_append_left _ (List.mem_append_left _ (List.mem_append_left _ (List.mem_append_left _ (List.mem_append_left _ (List.mem_append_right _ (h))))))))
theorem in_X10_walkStage_X10 : ∀ w ∈ wsX100, w ∈ wsX10_walkStage := fun _ h => List.mem_cons_of_mem _ (List.mem_append_left _ (List.mem_append_left _ (List.mem_append_left _ (List.mem_append_left _ (List.mem_append_left _ (List.mem_append_left _ (List.mem_append_left _ (List.mem_append_left _ (List.mem_append_right _ (h))))))))))
theorem in_X10_walkStage_X9 : ∀ w ∈ wsX90, w ∈ wsX10_walkStage := fun _ h => List.mem_cons_of_mem _ (List.mem_append_left _ (List.mem_append_left _ (List.mem_append_left _ (List.mem_append_left _ (List.mem_append_left _ (List.mem_append_left _ (List.mem_append_left _ (List.mem_append_right _ (h)))))))))
theorem lk_X10_knownStage_21 : Cond.fieldLink RX10 21 "StageCube" "stages" "[LStageCube$Stage;" ∈ wsX10_knownStage := by decide +kernel
theorem lk_X10_walkStage_16 : Cond.fieldLink RX10 16 "StageCube" "walker" "LStageCube$Cube;" ∈ wsX10_walkStage := by decide +kernel
theorem lk_X10_walkStage_25 : Cond.fieldLink RX10 25 "StageCube" "lengths" "[I" ∈ wsX10_walkStage := by decide +kernel
theorem lk_X10_walkStage_29 : Cond.fieldLink RX10 29 "StageCube" "steps" "[I" ∈ wsX10_walkStage := by decide +kernel
theorem lk_X10_walkStage_32 : Cond.fieldLink RX10 32 "StageCube" "stepCount" "I" ∈ wsX10_walkStage := by decide +kernel
theorem lk_X10_walkStage_98 : Cond.fieldLink RX10 98 "StageCube$Stage" "way" "[I" ∈ wsX10_walkStage := by decide +kernel
/-- what dive answers: as many turns as it had left, each a turn -/
theorem dvI_p (nx : Nat → Nat → Nat) (sz : Nat → Nat) (nf rch fwq : Nat) (g : Nat → Nat) (rec : Nat → (Nat → Nat) → Option (List Nat)) (left fc m : Nat) (x : Nat → Nat) (hfc : fc < 6) (hrec : ∀ f y w, rec f y = some w → w.length = m ∧ ∀ t ∈ w, t < 18) : ∀ n i w, n + i ≤ to_ fwq fc → dvI nx sz nf rch fwq g rec left fc x n i = some w → w.length = m + 1 ∧ ∀ t ∈ w, t < 18 := by
  intro n
  induction n with
  | zero => intro i w _ h; exact absurd h (by rw [dvI]; exact fun q => nomatch q)
  | succ n ih =>
    intro i w hi h
    rw [dvI] at h
    split at h
    · split at h
      · next w1 e =>
        have h1 := hrec _ _ _ e
        have h2 : (ft_ fwq fc + i) :: w1 = w := by injection h
        subst h2
        refine ⟨by rw [List.length_cons, h1.1], fun t ht => ?_⟩
        rcases List.mem_cons.mp ht with e1 | e1
        · subst e1; rw [to_] at hi; rw [ft_]; split at hi <;> split <;> omega
        · exact h1.2 t e1
      · exact ih (i + 1) w (by omega) h
    · exact ih (i + 1) w (by omega) h
theorem dvO_p (nx : Nat → Nat → Nat) (sz : Nat → Nat) (nf rch fwq : Nat) (g : Nat → Nat) (rec : Nat → (Nat → Nat) → Option (List Nat)) (left last m : Nat) (x : Nat → Nat) (hrec : ∀ f y w, rec f y = some w → w.length = m ∧ ∀ t ∈ w, t < 18) : ∀ n f w, n + f ≤ 6 → dvO nx sz nf rch fwq g rec left last x n f = some w → w.length = m + 1 ∧ ∀ t ∈ w, t < 18 := by
  intro n
  induction n with
  | zero => intro f w _ h; exact absurd h (by rw [dvO]; exact fun q => nomatch q)
  | succ n ih =>
    intro f w hf h
    rw [dvO] at h
    split at h
    · split at h
      · next w1 e =>
        have h2 : w1 = w := by injection h
        subst h2
        exact dvI_p nx sz nf rch fwq g rec left f m x (by omega) hrec _ 0 _ (Nat.le_refl _) e
      · exact ih (f + 1) w (by omega) h
    · exact ih (f + 1) w (by omega) h
theorem dv_p (nx : Nat → Nat → Nat) (sz : Nat → Nat) (nf rch fwq : Nat) (g : Nat → Nat) : ∀ left last x w, dv_ nx sz nf rch fwq g left last x = some w → w.length = left ∧ ∀ t ∈ w, t < 18 := by
  intro left
  induction left with
  | zero =>
    intro last x w h
    rw [dv_] at h
    have h2 : [] = w := by injection h
    subst h2
    exact ⟨rfl, fun t ht => nomatch ht⟩
  | succ n ih =>
    intro last x w h
    rw [dv_] at h
    exact dvO_p nx sz nf rch fwq g _ (n + 1) last n x ih 6 0 w (Nat.le_refl _) h
theorem fdL_p (nx : Nat → Nat → Nat) (sz : Nat → Nat) (nf rch fwq : Nat) (g x : Nat → Nat) : ∀ n b c w, fdL nx sz nf rch fwq g x n b = some (c, w) → c < b + n ∧ w.length = c ∧ ∀ t ∈ w, t < 18 := by
  intro n
  induction n with
  | zero => intro b c w h; exact absurd h (by rw [fdL]; exact fun q => nomatch q)
  | succ n ih =>
    intro b c w h
    rw [fdL] at h
    split at h
    · next w1 e =>
      have h2 : (b, w1) = (c, w) := by injection h
      injection h2 with h3 h4
      subst h3; subst h4
      have := dv_p nx sz nf rch fwq g b _ x w1 e
      exact ⟨by omega, this.1, this.2⟩
    · have := ih (b + 1) c w h
      exact ⟨by omega, this.2.1, this.2.2⟩
theorem fd_p (nx : Nat → Nat → Nat) (sz : Nat → Nat) (nf rch fwq : Nat) (g x : Nat → Nat) : (fd_ nx sz nf rch fwq g x).1 ≤ 15 ∧ (fd_ nx sz nf rch fwq g x).2.length = (fd_ nx sz nf rch fwq g x).1 ∧ ∀ t ∈ (fd_ nx sz nf rch fwq g x).2, t < 18 := by
  rw [fd_]
  split
  · exact ⟨by decide, rfl, fun t ht => nomatch ht⟩
  · cases e : fdL nx sz nf rch fwq g x (16 - tg_ rch g (sv_ sz x nf)) (tg_ rch g (sv_ sz x nf)) with
    | none => exact ⟨by decide, rfl, fun t ht => nomatch ht⟩
    | some p =>
      obtain ⟨c, w⟩ := p
      have := fdL_p nx sz nf rch fwq g x _ _ c w e
      have h1 : c ≤ 15 := by
        by_cases h : tg_ rch g (sv_ sz x nf) ≤ 15
        · omega
        · rw [show 16 - tg_ rch g (sv_ sz x nf) = 0 by omega] at e; exact nomatch e
      exact ⟨h1, this.2.1, this.2.2⟩
theorem getD_18 {L : List Nat} (h : ∀ t ∈ L, t < 18) (j : Nat) : L.getD j 0 < 18 := by
  rw [List.getD_eq_getElem?_getD]
  cases e : L[j]? with
  | none => decide
  | some v => exact h v (List.mem_of_getElem? e)
/-- a cube's four arrays -/
abbrev Q4 : Type := (Nat → Nat) × (Nat → Nat) × (Nat → Nat) × (Nat → Nat)
def mkQ (t : Nat) (q : Q4) : Q4 := (mk_cp (t / 3) q.1 (t % 3 + 1), mk_co (t / 3) q.2.1 (t % 3 + 1), mk_ep (t / 3) q.2.2.1 (t % 3 + 1), mk_eo (t / 3) q.2.2.2 (t % 3 + 1))
def wkQ (L : List Nat) (q : Q4) : Nat → Q4
  | 0 => q
  | i + 1 => mkQ (L.getD i 0) (wkQ L q i)
def QB (q : Q4) : Prop := (∀ j, j < 8 → q.1 j < 8) ∧ (∀ j, j < 8 → q.2.1 j < 3) ∧ (∀ j, j < 12 → q.2.2.1 j < 12) ∧ ∀ j, j < 12 → q.2.2.2 j < 2
theorem mk_cp_lt (fc : Nat) {cp : Nat → Nat} (h : ∀ j, j < 8 → cp j < 8) : ∀ i j, j < 8 → mk_cp fc cp i j < 8
  | 0 => h
  | i + 1 => qtP_lt _ _ cu_cr_8 (mk_cp_lt fc h i)
theorem mk_ep_lt (fc : Nat) {ep : Nat → Nat} (h : ∀ j, j < 12 → ep j < 12) : ∀ i j, j < 12 → mk_ep fc ep i j < 12
  | 0 => h
  | i + 1 => qtP_lt _ _ cu_er_12 (mk_ep_lt fc h i)
theorem QB_mk (t : Nat) {q : Q4} (h : QB q) : QB (mkQ t q) := ⟨mk_cp_lt _ h.1 _, mk_co_lt _ h.2.1 _, mk_ep_lt _ h.2.2.1 _, mk_eo_lt _ h.2.2.2 _⟩
theorem QB_wk (L : List Nat) {q : Q4} (h : QB q) : ∀ i, QB (wkQ L q i)
  | 0 => h
  | i + 1 => QB_mk _ (QB_wk L h i)
def cq_ws (cI : ClassId) (tt ca : Nat → Nat) (q : Q4) : va_W := cb_ws cI tt ca q.1 q.2.1 q.2.2.1 q.2.2.2
def stS (L : List Nat) (St : Nat → Nat) (c : Nat) : Nat → Nat → Nat
  | 0 => St
  | i + 1 => up1 (stS L St c i) (c + i) (L.getD i 0)
def knc (s : Option (Bool × S4)) (c : Nat) : Nat := match s with | none => c | some _ => 0
def knb (s : Option (Bool × S4)) : Bool := match s with | none => false | some s => s.1
theorem apm {a b : va_W} (h : ∀ (i : BEq (Nat × va_E)) (_ : @LawfulBEq _ i) (x : Nat × va_E), @List.count _ i x a = @List.count _ i x b) : a.Perm (b ++ []) := by
  rw [List.append_nil]
  letI d : DecidableEq (Nat × va_E) := fun a b => Classical.propDecidable (a = b)
  exact (@List.perm_iff_count _ (@instBEqOfDecidableEq _ d) inferInstance a b).mpr (fun x => h (@instBEqOfDecidableEq _ d) inferInstance x)
theorem apA (a b c d : va_W) : a ++ ((b ++ c) ++ d) = (a ++ b) ++ c ++ d := by simp only [List.append_assoc]
def fd0q (nx : Nat → Nat → Nat) (E : Nat) (q : Q4) : Nat × List Nat := fd_ nx sz0 1 7 6 (sf_ nx sz0 1 6 7 2048 E).1 (rv0 q.1 q.2.1 q.2.2.1 q.2.2.2 (fun _ _ => 0))
def sv0q (q : Q4) : Nat := sv_ sz0 (rv0 q.1 q.2.1 q.2.2.1 q.2.2.2 (fun _ _ => 0)) 1
def ok0q (q : Q4) : Prop := QB q ∧ (∀ s, sc_ok 0 s → ∀ i, i < 1 → rv0 q.1 q.2.1 q.2.2.1 q.2.2.2 s i = rv0 q.1 q.2.1 q.2.2.1 q.2.2.2 (fun _ _ => 0) i) ∧ ∀ i, i < 1 → rv0 q.1 q.2.1 q.2.2.1 q.2.2.2 (fun _ _ => 0) i < sz0 i
def mt0 (nx : Nat → Nat → Nat) (E : Nat) : Prop := nxP nx sz0 1 ∧ ln0 nx ∧ sfP nx sz0 1 6 7 2048 128 E
def af0q (nx : Nat → Nat → Nat) (E : Nat) (q : Q4) : Q4 := wkQ (fd0q nx E q).2 q (fd0q nx E q).1
def st0_ws (cI cJ cF : ClassId) (nx : Nat → Nat → Nat) (E : Nat) : Option (Bool × S4) → va_W
  | none => []
  | some s => ss0_ws cI cJ cF nx E s.1 s.2
def nv0 (b : Bool) (u : S4) : Value := match b with | true => .ref (u.1 4) | false => .null
theorem ss0_split (cI cJ cF : ClassId) (nx : Nat → Nat → Nat) (E : Nat) (b : Bool) (u : S4) : ss0_ws cI cJ cF nx E b u = [(u.1 0, .inr (7, [.ref (u.1 1), iN 6, iN 7, iN 2048, .ref (u.1 2), .ref (u.1 3), nv0 b u])), (u.1 1, .inl (cI, 15, .inl (fun j => nI (u.2.2.1 j))))] ++ (ss0_ws cI cJ cF nx E b u).drop 2 := by cases b <;> rfl
theorem ss0_wq (cI cJ cF : ClassId) (nx : Nat → Nat → Nat) (E : Nat) (b : Bool) (u : S4) (O X : va_W) : O ++ (ss0_ws cI cJ cF nx E b u ++ X) = (O ++ [(u.1 0, .inr (7, [.ref (u.1 1), iN 6, iN 7, iN 2048, .ref (u.1 2), .ref (u.1 3), nv0 b u])), (u.1 1, .inl (cI, 15, .inl (fun j => nI (u.2.2.1 j))))]) ++ (ss0_ws cI cJ cF nx E b u).drop 2 ++ X := (congrArg (fun z => O ++ (z ++ X)) (ss0_split cI cJ cF nx E b u)).trans (apA _ _ _ _)
theorem ss0_hd (cI cJ cF : ClassId) (nx : Nat → Nat → Nat) (E : Nat) (b : Bool) (u : S4) (X : va_W) : (ss0_ws cI cJ cF nx E b u ++ X)[0]? = some (u.1 0, .inr (7, [.ref (u.1 1), iN 6, iN 7, iN 2048, .ref (u.1 2), .ref (u.1 3), nv0 b u])) := by cases b <;> rfl
def fd1q (nx : Nat → Nat → Nat) (E : Nat) (q : Q4) : Nat × List Nat := fd_ nx sz1 2 5 4 (sf_ nx sz1 2 4 5 2048 E).1 (rv1 q.1 q.2.1 q.2.2.1 q.2.2.2 (fun _ _ => 0))
def sv1q (q : Q4) : Nat := sv_ sz1 (rv1 q.1 q.2.1 q.2.2.1 q.2.2.2 (fun _ _ => 0)) 2
def ok1q (q : Q4) : Prop := QB q ∧ (∀ s, sc_ok 1 s → ∀ i, i < 2 → rv1 q.1 q.2.1 q.2.2.1 q.2.2.2 s i = rv1 q.1 q.2.1 q.2.2.1 q.2.2.2 (fun _ _ => 0) i) ∧ ∀ i, i < 2 → rv1 q.1 q.2.1 q.2.2.1 q.2.2.2 (fun _ _ => 0) i < sz1 i
def mt1 (nx : Nat → Nat → Nat) (E : Nat) : Prop := nxP nx sz1 2 ∧ ln1 nx ∧ sfP nx sz1 2 4 5 2048 67661 E
def af1q (nx : Nat → Nat → Nat) (E : Nat) (q : Q4) : Q4 := wkQ (fd1q nx E q).2 q (fd1q nx E q).1
def st1_ws (cI cJ cF : ClassId) (nx : Nat → Nat → Nat) (E : Nat) : Option (Bool × S4) → va_W
  | none => []
  | some s => ss1_ws cI cJ cF nx E s.1 s.2
def nv1 (b : Bool) (u : S4) : Value := match b with | true => .ref (u.1 4) | false => .null
theorem ss1_split (cI cJ cF : ClassId) (nx : Nat → Nat → Nat) (E : Nat) (b : Bool) (u : S4) : ss1_ws cI cJ cF nx E b u = [(u.1 0, .inr (7, [.ref (u.1 1), iN 4, iN 5, iN 2048, .ref (u.1 2), .ref (u.1 3), nv1 b u])), (u.1 1, .inl (cI, 15, .inl (fun j => nI (u.2.2.1 j))))] ++ (ss1_ws cI cJ cF nx E b u).drop 2 := by cases b <;> rfl
theorem ss1_wq (cI cJ cF : ClassId) (nx : Nat → Nat → Nat) (E : Nat) (b : Bool) (u : S4) (O X : va_W) : O ++ (ss1_ws cI cJ cF nx E b u ++ X) = (O ++ [(u.1 0, .inr (7, [.ref (u.1 1), iN 4, iN 5, iN 2048, .ref (u.1 2), .ref (u.1 3), nv1 b u])), (u.1 1, .inl (cI, 15, .inl (fun j => nI (u.2.2.1 j))))]) ++ (ss1_ws cI cJ cF nx E b u).drop 2 ++ X := (congrArg (fun z => O ++ (z ++ X)) (ss1_split cI cJ cF nx E b u)).trans (apA _ _ _ _)
theorem ss1_hd (cI cJ cF : ClassId) (nx : Nat → Nat → Nat) (E : Nat) (b : Bool) (u : S4) (X : va_W) : (ss1_ws cI cJ cF nx E b u ++ X)[0]? = some (u.1 0, .inr (7, [.ref (u.1 1), iN 4, iN 5, iN 2048, .ref (u.1 2), .ref (u.1 3), nv1 b u])) := by cases b <;> rfl
def fd2q (nx : Nat → Nat → Nat) (E : Nat) (q : Q4) : Nat × List Nat := fd_ nx sz2 2 7 2 (sf_ nx sz2 2 2 7 4096 E).1 (rv2 q.1 q.2.1 q.2.2.1 q.2.2.2 (fun _ _ => 0))
def sv2q (q : Q4) : Nat := sv_ sz2 (rv2 q.1 q.2.1 q.2.2.1 q.2.2.2 (fun _ _ => 0)) 2
def ok2q (q : Q4) : Prop := QB q ∧ (∀ s, sc_ok 2 s → ∀ i, i < 2 → rv2 q.1 q.2.1 q.2.2.1 q.2.2.2 s i = rv2 q.1 q.2.1 q.2.2.1 q.2.2.2 (fun _ _ => 0) i) ∧ ∀ i, i < 2 → rv2 q.1 q.2.1 q.2.2.1 q.2.2.2 (fun _ _ => 0) i < sz2 i
def mt2 (nx : Nat → Nat → Nat) (E : Nat) : Prop := nxP nx sz2 2 ∧ ln2 nx ∧ sfP nx sz2 2 2 7 4096 1838 E
def af2q (nx : Nat → Nat → Nat) (E : Nat) (q : Q4) : Q4 := wkQ (fd2q nx E q).2 q (fd2q nx E q).1
def st2_ws (cI cJ cF : ClassId) (nx : Nat → Nat → Nat) (E : Nat) : Option (Bool × S4) → va_W
  | none => []
  | some s => ss2_ws cI cJ cF nx E s.1 s.2
def nv2 (b : Bool) (u : S4) : Value := match b with | true => .ref (u.1 4) | false => .null
theorem ss2_split (cI cJ cF : ClassId) (nx : Nat → Nat → Nat) (E : Nat) (b : Bool) (u : S4) : ss2_ws cI cJ cF nx E b u = [(u.1 0, .inr (7, [.ref (u.1 1), iN 2, iN 7, iN 4096, .ref (u.1 2), .ref (u.1 3), nv2 b u])), (u.1 1, .inl (cI, 15, .inl (fun j => nI (u.2.2.1 j))))] ++ (ss2_ws cI cJ cF nx E b u).drop 2 := by cases b <;> rfl
theorem ss2_wq (cI cJ cF : ClassId) (nx : Nat → Nat → Nat) (E : Nat) (b : Bool) (u : S4) (O X : va_W) : O ++ (ss2_ws cI cJ cF nx E b u ++ X) = (O ++ [(u.1 0, .inr (7, [.ref (u.1 1), iN 2, iN 7, iN 4096, .ref (u.1 2), .ref (u.1 3), nv2 b u])), (u.1 1, .inl (cI, 15, .inl (fun j => nI (u.2.2.1 j))))]) ++ (ss2_ws cI cJ cF nx E b u).drop 2 ++ X := (congrArg (fun z => O ++ (z ++ X)) (ss2_split cI cJ cF nx E b u)).trans (apA _ _ _ _)
theorem ss2_hd (cI cJ cF : ClassId) (nx : Nat → Nat → Nat) (E : Nat) (b : Bool) (u : S4) (X : va_W) : (ss2_ws cI cJ cF nx E b u ++ X)[0]? = some (u.1 0, .inr (7, [.ref (u.1 1), iN 2, iN 7, iN 4096, .ref (u.1 2), .ref (u.1 3), nv2 b u])) := by cases b <;> rfl
def fd3q (nx : Nat → Nat → Nat) (E : Nat) (q : Q4) : Nat × List Nat := fd_ nx sz3 4 7 0 (sf_ nx sz3 4 0 7 10240 E).1 (rv3 q.1 q.2.1 q.2.2.1 q.2.2.2 (fun _ _ => 0))
def sv3q (q : Q4) : Nat := sv_ sz3 (rv3 q.1 q.2.1 q.2.2.1 q.2.2.2 (fun _ _ => 0)) 4
def ok3q (q : Q4) : Prop := QB q ∧ (∀ s, sc_ok 3 s → ∀ i, i < 4 → rv3 q.1 q.2.1 q.2.2.1 q.2.2.2 s i = rv3 q.1 q.2.1 q.2.2.1 q.2.2.2 (fun _ _ => 0) i) ∧ ∀ i, i < 4 → rv3 q.1 q.2.1 q.2.2.1 q.2.2.2 (fun _ _ => 0) i < sz3 i
def mt3 (nx : Nat → Nat → Nat) (E : Nat) : Prop := nxP nx sz3 4 ∧ ln3 nx ∧ sfP nx sz3 4 0 7 10240 82944 E
def af3q (nx : Nat → Nat → Nat) (E : Nat) (q : Q4) : Q4 := wkQ (fd3q nx E q).2 q (fd3q nx E q).1
def st3_ws (cI cJ cF : ClassId) (nx : Nat → Nat → Nat) (E : Nat) : Option (Bool × S4) → va_W
  | none => []
  | some s => ss3_ws cI cJ cF nx E s.1 s.2
def nv3 (b : Bool) (u : S4) : Value := match b with | true => .ref (u.1 4) | false => .null
theorem ss3_split (cI cJ cF : ClassId) (nx : Nat → Nat → Nat) (E : Nat) (b : Bool) (u : S4) : ss3_ws cI cJ cF nx E b u = [(u.1 0, .inr (7, [.ref (u.1 1), iN 0, iN 7, iN 10240, .ref (u.1 2), .ref (u.1 3), nv3 b u])), (u.1 1, .inl (cI, 15, .inl (fun j => nI (u.2.2.1 j))))] ++ (ss3_ws cI cJ cF nx E b u).drop 2 := by cases b <;> rfl
theorem ss3_wq (cI cJ cF : ClassId) (nx : Nat → Nat → Nat) (E : Nat) (b : Bool) (u : S4) (O X : va_W) : O ++ (ss3_ws cI cJ cF nx E b u ++ X) = (O ++ [(u.1 0, .inr (7, [.ref (u.1 1), iN 0, iN 7, iN 10240, .ref (u.1 2), .ref (u.1 3), nv3 b u])), (u.1 1, .inl (cI, 15, .inl (fun j => nI (u.2.2.1 j))))]) ++ (ss3_ws cI cJ cF nx E b u).drop 2 ++ X := (congrArg (fun z => O ++ (z ++ X)) (ss3_split cI cJ cF nx E b u)).trans (apA _ _ _ _)
theorem ss3_hd (cI cJ cF : ClassId) (nx : Nat → Nat → Nat) (E : Nat) (b : Bool) (u : S4) (X : va_W) : (ss3_ws cI cJ cF nx E b u ++ X)[0]? = some (u.1 0, .inr (7, [.ref (u.1 1), iN 0, iN 7, iN 10240, .ref (u.1 2), .ref (u.1 3), nv3 b u])) := by cases b <;> rfl
set_option maxHeartbeats 4000000 in
set_option maxRecDepth 100000 in
theorem c_knownN0 (l : Launch) (D : va_G) (cI cB cS cJ cF cG : ClassId) (tt : Nat → Nat) (oa : Nat → Nat) (c0 w : Nat) (sg : Nat → Option Nat) (Ln St : Nat → Nat) (cnt th : Nat) (nx : Nat → Nat → Nat) (E : Nat) (hsg : sg 0 = none) : gw_CR2 (S := S4) l yX10_knownStage wsX10_knownStage 4 93 5 42 D (mo_ty cI cB cS cJ cF cG) (zs tt) (ob_ws cI cG oa (c0) (w) (sg) (Ln) (St) (cnt) (th) ++ []) [.ref (oa 0), iN 0] (fun u r => u.1 0 = r ∧ sc_ok 0 u.2.1) (fun u r => ob_ws cI cG oa (c0) (w) (va_up sg 0 (some r)) (Ln) (St) (cnt) (th) ++ ss0_ws cI cJ cF nx E false u) := by
  refine gw_CR2.of (rt := RX9) (cc := cX10_knownStage) (maxL := 2) (zs_ok tt) (by decide) rfl (Nat.le_of_ble_eq_true rfl) ?_
  intro K C hkl hkn hkR hkD hmn ret
  have C : gw_x K cX10_knownStage RX10 wsX10_knownStage (mo_ty cI cB cS cJ cF cG) (zs tt) := C
  subst hkl hkD
  have hrc : (kR K).cells = 5 := by rw [hkR]
  have hrs : (kR K).slots = 42 := by rw [hkR]
  refine gw_ws (ws2 := [(oa 0, .inr (8, [.ref (c0), .ref (w), .ref (oa 1), .ref (oa 2), .ref (oa 3), iN (cnt), iN (th)])), (oa 1, .inl (cG, 4, .inr (.inr (.inr (.inr (sg)))))), (oa 2, .inl (cI, 4, .inl (fun j => nI (Ln j)))), (oa 3, .inl (cI, 60, .inl (fun j => nI (St j))))]) rfl ?_
  refine gw_aload_n C 0 dX10_knownStage_0 rfl rfl ?_
  refine gw_get C 0 2 in_X10_knownStage_X10 dX10_knownStage_1 lk_X10_knownStage_21 rfl rfl (by decide) rfl rfl ?_
  refine gw_iload_n C 1 dX10_knownStage_4 rfl rfl ?_
  refine gw_ald C (v := .null) 1 5 dX10_knownStage_5 rfl rfl (by decide) (by decide) (by rw [hsg]; rfl) ?_
  refine gw_nonnullN C dX10_knownStage_6 ?_
  refine gw_aload_n C 0 dX10_knownStage_9 rfl rfl ?_
  refine gw_get C 0 2 in_X10_knownStage_X10 dX10_knownStage_10 lk_X10_knownStage_21 rfl rfl (by decide) rfl rfl ?_
  refine gw_iload_n C 1 dX10_knownStage_13 rfl rfl ?_
  refine gw_iload_n C 1 dX10_knownStage_14 rfl rfl ?_
  refine gw_callSR2 (b := 0) (n := 1) (wr := [(oa 0, .inr (8, [.ref (c0), .ref (w), .ref (oa 1), .ref (oa 2), .ref (oa 3), iN (cnt), iN (th)])), (oa 1, .inl (cG, 4, .inr (.inr (.inr (.inr (sg)))))), (oa 2, .inl (cI, 4, .inl (fun j => nI (Ln j)))), (oa 3, .inl (cI, 60, .inl (fun j => nI (St j))))]) C (c_newS0 (kl K) (kD K) cI cB cS cJ cF cG tt) gX10_knownStage_X10_newStage rfl (by decide +kernel) dX10_knownStage_15 (by rw [hkR]; decide) (by rw [hrc, hrs]; decide) [] [0, 1, 2, 3] rfl rfl rfl rfl (by decide) rfl (Nat.le_of_ble_eq_true rfl) rfl (fun u r hu => ?_)
  refine gw_ws (ws2 := [(oa 0, .inr (8, [.ref (c0), .ref (w), .ref (oa 1), .ref (oa 2), .ref (oa 3), iN (cnt), iN (th)])), (oa 1, .inl (cG, 4, .inr (.inr (.inr (.inr (sg)))))), (oa 2, .inl (cI, 4, .inl (fun j => nI (Ln j)))), (oa 3, .inl (cI, 60, .inl (fun j => nI (St j))))] ++ (ss0_ws cI cJ cF nx E false ((fun j => if j = 0 then r else u j), (fun _ _ => 0), (fun _ => 0), (fun _ => 0)))) rfl ?_
  refine gw_ast C (ws2 := [(oa 0, .inr (8, [.ref (c0), .ref (w), .ref (oa 1), .ref (oa 2), .ref (oa 3), iN (cnt), iN (th)])), (oa 1, .inl (cG, 4, .inr (.inr (.inr (.inr (va_up sg 0 (some r))))))), (oa 2, .inl (cI, 4, .inl (fun j => nI (Ln j)))), (oa 3, .inl (cI, 60, .inl (fun j => nI (St j))))] ++ (ss0_ws cI cJ cF nx E false ((fun j => if j = 0 then r else u j), (fun _ _ => 0), (fun _ => 0), (fun _ => 0)))) 1 5 4 dX10_knownStage_18 rfl rfl rfl rfl (by decide) (by decide) rfl ?_
  refine gw_aload_n C 0 dX10_knownStage_19 rfl rfl ?_
  refine gw_get C 0 2 in_X10_knownStage_X10 dX10_knownStage_20 lk_X10_knownStage_21 rfl rfl (by decide) rfl rfl ?_
  refine gw_iload_n C 1 dX10_knownStage_23 rfl rfl ?_
  refine gw_ald C (v := .ref (r)) 1 5 dX10_knownStage_24 rfl rfl (by decide) (by decide) rfl ?_
  exact ret ((fun j => if j = 0 then r else u j), (fun _ _ => 0), (fun _ => 0), (fun _ => 0)) r dX10_knownStage_25 ⟨rfl, fun _ => ⟨fun _ _ => Nat.succ_pos 7, fun _ _ => Nat.succ_pos 7⟩⟩ rfl (by decide) (by decide)
set_option maxHeartbeats 4000000 in
set_option maxRecDepth 100000 in
theorem c_knownS0 (l : Launch) (D : va_G) (cI cB cS cJ cF cG : ClassId) (tt : Nat → Nat) (oa : Nat → Nat) (c0 w : Nat) (sg : Nat → Option Nat) (Ln St : Nat → Nat) (cnt th : Nat) (nx : Nat → Nat → Nat) (E : Nat) (b : Bool) (u0 : S4) (hsg : sg 0 = some (u0.1 0)) (hsc : sc_ok 0 u0.2.1) : gw_CR2 (S := S4) l yX10_knownStage wsX10_knownStage 4 93 0 0 D (mo_ty cI cB cS cJ cF cG) (zs tt) (ob_ws cI cG oa (c0) (w) (sg) (Ln) (St) (cnt) (th) ++ ss0_ws cI cJ cF nx E b u0) [.ref (oa 0), iN 0] (fun u r => u.1 0 = r ∧ sc_ok 0 u.2.1) (fun u r => ob_ws cI cG oa (c0) (w) (va_up sg 0 (some r)) (Ln) (St) (cnt) (th) ++ ss0_ws cI cJ cF nx E b u) := by
  refine gw_CR2.of (rt := RX9) (cc := cX10_knownStage) (maxL := 2) (zs_ok tt) (by decide) rfl (Nat.le_of_ble_eq_true rfl) ?_
  intro K C hkl hkn hkR hkD hmn ret
  have C : gw_x K cX10_knownStage RX10 wsX10_knownStage (mo_ty cI cB cS cJ cF cG) (zs tt) := C
  subst hkl hkD
  have hrc : (kR K).cells = 0 := by rw [hkR]
  have hrs : (kR K).slots = 0 := by rw [hkR]
  have es : va_up sg 0 (some (u0.1 0)) = sg := by
    funext j
    simp only [va_up]
    split
    · next e => rw [e, hsg]
    · rfl
  refine gw_aload_n C 0 dX10_knownStage_0 rfl rfl ?_
  refine gw_get C 0 2 in_X10_knownStage_X10 dX10_knownStage_1 lk_X10_knownStage_21 rfl rfl (by decide) rfl rfl ?_
  refine gw_iload_n C 1 dX10_knownStage_4 rfl rfl ?_
  refine gw_ald C (v := .ref (u0.1 0)) 1 5 dX10_knownStage_5 rfl rfl (by decide) (by decide) (by rw [hsg]; rfl) ?_
  refine gw_nonnull C 19 dX10_knownStage_6 (by decide) ?_
  refine gw_aload_n C 0 dX10_knownStage_19 rfl rfl ?_
  refine gw_get C 0 2 in_X10_knownStage_X10 dX10_knownStage_20 lk_X10_knownStage_21 rfl rfl (by decide) rfl rfl ?_
  refine gw_iload_n C 1 dX10_knownStage_23 rfl rfl ?_
  refine gw_ald C (v := .ref (u0.1 0)) 1 5 dX10_knownStage_24 rfl rfl (by decide) (by decide) (by rw [hsg]; rfl) ?_
  exact ret u0 (u0.1 0) dX10_knownStage_25 ⟨rfl, hsc⟩ (by rw [es]) (Nat.le_refl 0) (Nat.le_refl 0)
theorem c_known0 (l : Launch) (D : va_G) (cI cB cS cJ cF cG : ClassId) (tt : Nat → Nat) (oa : Nat → Nat) (c0 w : Nat) (sg : Nat → Option Nat) (Ln St : Nat → Nat) (cnt th : Nat) (nx : Nat → Nat → Nat) (E : Nat) (s : Option (Bool × S4)) (hsg : sg 0 = s.map (fun s => s.2.1 0)) (hsc : ∀ x, s = some x → sc_ok 0 x.2.2.1) : gw_CR2 (S := S4) l yX10_knownStage wsX10_knownStage 4 93 (knc s 5) (knc s 42) D (mo_ty cI cB cS cJ cF cG) (zs tt) (ob_ws cI cG oa (c0) (w) (sg) (Ln) (St) (cnt) (th) ++ st0_ws cI cJ cF nx E s) [.ref (oa 0), iN 0] (fun u r => u.1 0 = r ∧ sc_ok 0 u.2.1) (fun u r => ob_ws cI cG oa (c0) (w) (va_up sg 0 (some r)) (Ln) (St) (cnt) (th) ++ ss0_ws cI cJ cF nx E (knb s) u) := by
  cases s with
  | none => exact c_knownN0 l D cI cB cS cJ cF cG tt oa c0 w sg Ln St cnt th nx E hsg
  | some x => exact c_knownS0 l D cI cB cS cJ cF cG tt oa c0 w sg Ln St cnt th nx E x.1 x.2 hsg (hsc x rfl)
theorem c_findq0 (l : Launch) (D : va_G) (cI cB cS cJ cF cG : ClassId) (tt : Nat → Nat) (b : Bool) (u0 : S4) (nx : Nat → Nat → Nat) (E : Nat) (ca : Nat → Nat) (q : Q4) (hsc : sc_ok 0 u0.2.1) (hok : ok0q q) (hmt : mt0 nx E) : gw_CI (S := S4) l yX9_find wsX9_find 18 449 (fdc b (sv0q q) 6) (fdc b (sv0q q) 14494) D (mo_ty cI cB cS cJ cF cG) (zs tt) (ss0_ws cI cJ cF nx E b u0 ++ cq_ws cI tt ca q) [.ref (u0.1 0), .ref (ca 0)] (fun r u => r = nI (fd0q nx E q).1 ∧ (∀ j, j < (fd0q nx E q).1 → u.2.2.1 j = (fd0q nx E q).2.getD j 0) ∧ u.1 0 = u0.1 0 ∧ sc_ok 0 u.2.1) (fun u => ss0_ws cI cJ cF nx E (fdb b (sv0q q)) u ++ cq_ws cI tt ca q) :=
  c_find0 l D cI cB cS cJ cF cG tt b u0 nx E ca q.1 q.2.1 q.2.2.1 q.2.2.2 (rv0 q.1 q.2.1 q.2.2.1 q.2.2.2 (fun _ _ => 0)) hok.1.1 hok.1.2.2.1 hsc hok.2.1 hok.2.2 hmt.1 hmt.2.1 hmt.2.2
set_option maxHeartbeats 4000000 in
set_option maxRecDepth 100000 in
theorem c_knownN1 (l : Launch) (D : va_G) (cI cB cS cJ cF cG : ClassId) (tt : Nat → Nat) (oa : Nat → Nat) (c0 w : Nat) (sg : Nat → Option Nat) (Ln St : Nat → Nat) (cnt th : Nat) (nx : Nat → Nat → Nat) (E : Nat) (hsg : sg 1 = none) : gw_CR2 (S := S4) l yX10_knownStage wsX10_knownStage 4 93 6 64 D (mo_ty cI cB cS cJ cF cG) (zs tt) (ob_ws cI cG oa (c0) (w) (sg) (Ln) (St) (cnt) (th) ++ []) [.ref (oa 0), iN 1] (fun u r => u.1 0 = r ∧ sc_ok 1 u.2.1) (fun u r => ob_ws cI cG oa (c0) (w) (va_up sg 1 (some r)) (Ln) (St) (cnt) (th) ++ ss1_ws cI cJ cF nx E false u) := by
  refine gw_CR2.of (rt := RX9) (cc := cX10_knownStage) (maxL := 2) (zs_ok tt) (by decide) rfl (Nat.le_of_ble_eq_true rfl) ?_
  intro K C hkl hkn hkR hkD hmn ret
  have C : gw_x K cX10_knownStage RX10 wsX10_knownStage (mo_ty cI cB cS cJ cF cG) (zs tt) := C
  subst hkl hkD
  have hrc : (kR K).cells = 6 := by rw [hkR]
  have hrs : (kR K).slots = 64 := by rw [hkR]
  refine gw_ws (ws2 := [(oa 0, .inr (8, [.ref (c0), .ref (w), .ref (oa 1), .ref (oa 2), .ref (oa 3), iN (cnt), iN (th)])), (oa 1, .inl (cG, 4, .inr (.inr (.inr (.inr (sg)))))), (oa 2, .inl (cI, 4, .inl (fun j => nI (Ln j)))), (oa 3, .inl (cI, 60, .inl (fun j => nI (St j))))]) rfl ?_
  refine gw_aload_n C 0 dX10_knownStage_0 rfl rfl ?_
  refine gw_get C 0 2 in_X10_knownStage_X10 dX10_knownStage_1 lk_X10_knownStage_21 rfl rfl (by decide) rfl rfl ?_
  refine gw_iload_n C 1 dX10_knownStage_4 rfl rfl ?_
  refine gw_ald C (v := .null) 1 5 dX10_knownStage_5 rfl rfl (by decide) (by decide) (by rw [hsg]; rfl) ?_
  refine gw_nonnullN C dX10_knownStage_6 ?_
  refine gw_aload_n C 0 dX10_knownStage_9 rfl rfl ?_
  refine gw_get C 0 2 in_X10_knownStage_X10 dX10_knownStage_10 lk_X10_knownStage_21 rfl rfl (by decide) rfl rfl ?_
  refine gw_iload_n C 1 dX10_knownStage_13 rfl rfl ?_
  refine gw_iload_n C 1 dX10_knownStage_14 rfl rfl ?_
  refine gw_callSR2 (b := 0) (n := 1) (wr := [(oa 0, .inr (8, [.ref (c0), .ref (w), .ref (oa 1), .ref (oa 2), .ref (oa 3), iN (cnt), iN (th)])), (oa 1, .inl (cG, 4, .inr (.inr (.inr (.inr (sg)))))), (oa 2, .inl (cI, 4, .inl (fun j => nI (Ln j)))), (oa 3, .inl (cI, 60, .inl (fun j => nI (St j))))]) C (c_newS1 (kl K) (kD K) cI cB cS cJ cF cG tt) gX10_knownStage_X10_newStage rfl (by decide +kernel) dX10_knownStage_15 (by rw [hkR]; decide) (by rw [hrc, hrs]; decide) [] [0, 1, 2, 3] rfl rfl rfl rfl (by decide) rfl (Nat.le_of_ble_eq_true rfl) rfl (fun u r hu => ?_)
  refine gw_ws (ws2 := [(oa 0, .inr (8, [.ref (c0), .ref (w), .ref (oa 1), .ref (oa 2), .ref (oa 3), iN (cnt), iN (th)])), (oa 1, .inl (cG, 4, .inr (.inr (.inr (.inr (sg)))))), (oa 2, .inl (cI, 4, .inl (fun j => nI (Ln j)))), (oa 3, .inl (cI, 60, .inl (fun j => nI (St j))))] ++ (ss1_ws cI cJ cF nx E false ((fun j => if j = 0 then r else u j), (fun _ _ => 0), (fun _ => 0), (fun _ => 0)))) rfl ?_
  refine gw_ast C (ws2 := [(oa 0, .inr (8, [.ref (c0), .ref (w), .ref (oa 1), .ref (oa 2), .ref (oa 3), iN (cnt), iN (th)])), (oa 1, .inl (cG, 4, .inr (.inr (.inr (.inr (va_up sg 1 (some r))))))), (oa 2, .inl (cI, 4, .inl (fun j => nI (Ln j)))), (oa 3, .inl (cI, 60, .inl (fun j => nI (St j))))] ++ (ss1_ws cI cJ cF nx E false ((fun j => if j = 0 then r else u j), (fun _ _ => 0), (fun _ => 0), (fun _ => 0)))) 1 5 4 dX10_knownStage_18 rfl rfl rfl rfl (by decide) (by decide) rfl ?_
  refine gw_aload_n C 0 dX10_knownStage_19 rfl rfl ?_
  refine gw_get C 0 2 in_X10_knownStage_X10 dX10_knownStage_20 lk_X10_knownStage_21 rfl rfl (by decide) rfl rfl ?_
  refine gw_iload_n C 1 dX10_knownStage_23 rfl rfl ?_
  refine gw_ald C (v := .ref (r)) 1 5 dX10_knownStage_24 rfl rfl (by decide) (by decide) rfl ?_
  exact ret ((fun j => if j = 0 then r else u j), (fun _ _ => 0), (fun _ => 0), (fun _ => 0)) r dX10_knownStage_25 ⟨rfl, fun _ => ⟨fun _ _ => Nat.succ_pos 7, fun _ _ => Nat.succ_pos 7⟩⟩ rfl (by decide) (by decide)
set_option maxHeartbeats 4000000 in
set_option maxRecDepth 100000 in
theorem c_knownS1 (l : Launch) (D : va_G) (cI cB cS cJ cF cG : ClassId) (tt : Nat → Nat) (oa : Nat → Nat) (c0 w : Nat) (sg : Nat → Option Nat) (Ln St : Nat → Nat) (cnt th : Nat) (nx : Nat → Nat → Nat) (E : Nat) (b : Bool) (u0 : S4) (hsg : sg 1 = some (u0.1 0)) (hsc : sc_ok 1 u0.2.1) : gw_CR2 (S := S4) l yX10_knownStage wsX10_knownStage 4 93 0 0 D (mo_ty cI cB cS cJ cF cG) (zs tt) (ob_ws cI cG oa (c0) (w) (sg) (Ln) (St) (cnt) (th) ++ ss1_ws cI cJ cF nx E b u0) [.ref (oa 0), iN 1] (fun u r => u.1 0 = r ∧ sc_ok 1 u.2.1) (fun u r => ob_ws cI cG oa (c0) (w) (va_up sg 1 (some r)) (Ln) (St) (cnt) (th) ++ ss1_ws cI cJ cF nx E b u) := by
  refine gw_CR2.of (rt := RX9) (cc := cX10_knownStage) (maxL := 2) (zs_ok tt) (by decide) rfl (Nat.le_of_ble_eq_true rfl) ?_
  intro K C hkl hkn hkR hkD hmn ret
  have C : gw_x K cX10_knownStage RX10 wsX10_knownStage (mo_ty cI cB cS cJ cF cG) (zs tt) := C
  subst hkl hkD
  have hrc : (kR K).cells = 0 := by rw [hkR]
  have hrs : (kR K).slots = 0 := by rw [hkR]
  have es : va_up sg 1 (some (u0.1 0)) = sg := by
    funext j
    simp only [va_up]
    split
    · next e => rw [e, hsg]
    · rfl
  refine gw_aload_n C 0 dX10_knownStage_0 rfl rfl ?_
  refine gw_get C 0 2 in_X10_knownStage_X10 dX10_knownStage_1 lk_X10_knownStage_21 rfl rfl (by decide) rfl rfl ?_
  refine gw_iload_n C 1 dX10_knownStage_4 rfl rfl ?_
  refine gw_ald C (v := .ref (u0.1 0)) 1 5 dX10_knownStage_5 rfl rfl (by decide) (by decide) (by rw [hsg]; rfl) ?_
  refine gw_nonnull C 19 dX10_knownStage_6 (by decide) ?_
  refine gw_aload_n C 0 dX10_knownStage_19 rfl rfl ?_
  refine gw_get C 0 2 in_X10_knownStage_X10 dX10_knownStage_20 lk_X10_knownStage_21 rfl rfl (by decide) rfl rfl ?_
  refine gw_iload_n C 1 dX10_knownStage_23 rfl rfl ?_
  refine gw_ald C (v := .ref (u0.1 0)) 1 5 dX10_knownStage_24 rfl rfl (by decide) (by decide) (by rw [hsg]; rfl) ?_
  exact ret u0 (u0.1 0) dX10_knownStage_25 ⟨rfl, hsc⟩ (by rw [es]) (Nat.le_refl 0) (Nat.le_refl 0)
theorem c_known1 (l : Launch) (D : va_G) (cI cB cS cJ cF cG : ClassId) (tt : Nat → Nat) (oa : Nat → Nat) (c0 w : Nat) (sg : Nat → Option Nat) (Ln St : Nat → Nat) (cnt th : Nat) (nx : Nat → Nat → Nat) (E : Nat) (s : Option (Bool × S4)) (hsg : sg 1 = s.map (fun s => s.2.1 0)) (hsc : ∀ x, s = some x → sc_ok 1 x.2.2.1) : gw_CR2 (S := S4) l yX10_knownStage wsX10_knownStage 4 93 (knc s 6) (knc s 64) D (mo_ty cI cB cS cJ cF cG) (zs tt) (ob_ws cI cG oa (c0) (w) (sg) (Ln) (St) (cnt) (th) ++ st1_ws cI cJ cF nx E s) [.ref (oa 0), iN 1] (fun u r => u.1 0 = r ∧ sc_ok 1 u.2.1) (fun u r => ob_ws cI cG oa (c0) (w) (va_up sg 1 (some r)) (Ln) (St) (cnt) (th) ++ ss1_ws cI cJ cF nx E (knb s) u) := by
  cases s with
  | none => exact c_knownN1 l D cI cB cS cJ cF cG tt oa c0 w sg Ln St cnt th nx E hsg
  | some x => exact c_knownS1 l D cI cB cS cJ cF cG tt oa c0 w sg Ln St cnt th nx E x.1 x.2 hsg (hsc x rfl)
theorem c_findq1 (l : Launch) (D : va_G) (cI cB cS cJ cF cG : ClassId) (tt : Nat → Nat) (b : Bool) (u0 : S4) (nx : Nat → Nat → Nat) (E : Nat) (ca : Nat → Nat) (q : Q4) (hsc : sc_ok 1 u0.2.1) (hok : ok1q q) (hmt : mt1 nx E) : gw_CI (S := S4) l yX9_find wsX9_find 18 449 (fdc b (sv1q q) 10) (fdc b (sv1q q) 85853) D (mo_ty cI cB cS cJ cF cG) (zs tt) (ss1_ws cI cJ cF nx E b u0 ++ cq_ws cI tt ca q) [.ref (u0.1 0), .ref (ca 0)] (fun r u => r = nI (fd1q nx E q).1 ∧ (∀ j, j < (fd1q nx E q).1 → u.2.2.1 j = (fd1q nx E q).2.getD j 0) ∧ u.1 0 = u0.1 0 ∧ sc_ok 1 u.2.1) (fun u => ss1_ws cI cJ cF nx E (fdb b (sv1q q)) u ++ cq_ws cI tt ca q) :=
  c_find1 l D cI cB cS cJ cF cG tt b u0 nx E ca q.1 q.2.1 q.2.2.1 q.2.2.2 (rv1 q.1 q.2.1 q.2.2.1 q.2.2.2 (fun _ _ => 0)) hok.1.1 hok.1.2.2.1 hsc hok.2.1 hok.2.2 hmt.1 hmt.2.1 hmt.2.2
set_option maxHeartbeats 4000000 in
set_option maxRecDepth 100000 in
theorem c_knownN2 (l : Launch) (D : va_G) (cI cB cS cJ cF cG : ClassId) (tt : Nat → Nat) (oa : Nat → Nat) (c0 w : Nat) (sg : Nat → Option Nat) (Ln St : Nat → Nat) (cnt th : Nat) (nx : Nat → Nat → Nat) (E : Nat) (hsg : sg 2 = none) : gw_CR2 (S := S4) l yX10_knownStage wsX10_knownStage 4 93 9 87 D (mo_ty cI cB cS cJ cF cG) (zs tt) (ob_ws cI cG oa (c0) (w) (sg) (Ln) (St) (cnt) (th) ++ []) [.ref (oa 0), iN 2] (fun u r => u.1 0 = r ∧ sc_ok 2 u.2.1) (fun u r => ob_ws cI cG oa (c0) (w) (va_up sg 2 (some r)) (Ln) (St) (cnt) (th) ++ ss2_ws cI cJ cF nx E false u) := by
  refine gw_CR2.of (rt := RX9) (cc := cX10_knownStage) (maxL := 2) (zs_ok tt) (by decide) rfl (Nat.le_of_ble_eq_true rfl) ?_
  intro K C hkl hkn hkR hkD hmn ret
  have C : gw_x K cX10_knownStage RX10 wsX10_knownStage (mo_ty cI cB cS cJ cF cG) (zs tt) := C
  subst hkl hkD
  have hrc : (kR K).cells = 9 := by rw [hkR]
  have hrs : (kR K).slots = 87 := by rw [hkR]
  refine gw_ws (ws2 := [(oa 0, .inr (8, [.ref (c0), .ref (w), .ref (oa 1), .ref (oa 2), .ref (oa 3), iN (cnt), iN (th)])), (oa 1, .inl (cG, 4, .inr (.inr (.inr (.inr (sg)))))), (oa 2, .inl (cI, 4, .inl (fun j => nI (Ln j)))), (oa 3, .inl (cI, 60, .inl (fun j => nI (St j))))]) rfl ?_
  refine gw_aload_n C 0 dX10_knownStage_0 rfl rfl ?_
  refine gw_get C 0 2 in_X10_knownStage_X10 dX10_knownStage_1 lk_X10_knownStage_21 rfl rfl (by decide) rfl rfl ?_
  refine gw_iload_n C 1 dX10_knownStage_4 rfl rfl ?_
  refine gw_ald C (v := .null) 1 5 dX10_knownStage_5 rfl rfl (by decide) (by decide) (by rw [hsg]; rfl) ?_
  refine gw_nonnullN C dX10_knownStage_6 ?_
  refine gw_aload_n C 0 dX10_knownStage_9 rfl rfl ?_
  refine gw_get C 0 2 in_X10_knownStage_X10 dX10_knownStage_10 lk_X10_knownStage_21 rfl rfl (by decide) rfl rfl ?_
  refine gw_iload_n C 1 dX10_knownStage_13 rfl rfl ?_
  refine gw_iload_n C 1 dX10_knownStage_14 rfl rfl ?_
  refine gw_callSR2 (b := 0) (n := 1) (wr := [(oa 0, .inr (8, [.ref (c0), .ref (w), .ref (oa 1), .ref (oa 2), .ref (oa 3), iN (cnt), iN (th)])), (oa 1, .inl (cG, 4, .inr (.inr (.inr (.inr (sg)))))), (oa 2, .inl (cI, 4, .inl (fun j => nI (Ln j)))), (oa 3, .inl (cI, 60, .inl (fun j => nI (St j))))]) C (c_newS2 (kl K) (kD K) cI cB cS cJ cF cG tt) gX10_knownStage_X10_newStage rfl (by decide +kernel) dX10_knownStage_15 (by rw [hkR]; decide) (by rw [hrc, hrs]; decide) [] [0, 1, 2, 3] rfl rfl rfl rfl (by decide) rfl (Nat.le_of_ble_eq_true rfl) rfl (fun u r hu => ?_)
  refine gw_ws (ws2 := [(oa 0, .inr (8, [.ref (c0), .ref (w), .ref (oa 1), .ref (oa 2), .ref (oa 3), iN (cnt), iN (th)])), (oa 1, .inl (cG, 4, .inr (.inr (.inr (.inr (sg)))))), (oa 2, .inl (cI, 4, .inl (fun j => nI (Ln j)))), (oa 3, .inl (cI, 60, .inl (fun j => nI (St j))))] ++ (ss2_ws cI cJ cF nx E false ((fun j => if j = 0 then r else u j), (fun _ _ => 0), (fun _ => 0), (fun _ => 0)))) rfl ?_
  refine gw_ast C (ws2 := [(oa 0, .inr (8, [.ref (c0), .ref (w), .ref (oa 1), .ref (oa 2), .ref (oa 3), iN (cnt), iN (th)])), (oa 1, .inl (cG, 4, .inr (.inr (.inr (.inr (va_up sg 2 (some r))))))), (oa 2, .inl (cI, 4, .inl (fun j => nI (Ln j)))), (oa 3, .inl (cI, 60, .inl (fun j => nI (St j))))] ++ (ss2_ws cI cJ cF nx E false ((fun j => if j = 0 then r else u j), (fun _ _ => 0), (fun _ => 0), (fun _ => 0)))) 1 5 4 dX10_knownStage_18 rfl rfl rfl rfl (by decide) (by decide) rfl ?_
  refine gw_aload_n C 0 dX10_knownStage_19 rfl rfl ?_
  refine gw_get C 0 2 in_X10_knownStage_X10 dX10_knownStage_20 lk_X10_knownStage_21 rfl rfl (by decide) rfl rfl ?_
  refine gw_iload_n C 1 dX10_knownStage_23 rfl rfl ?_
  refine gw_ald C (v := .ref (r)) 1 5 dX10_knownStage_24 rfl rfl (by decide) (by decide) rfl ?_
  exact ret ((fun j => if j = 0 then r else u j), (fun _ _ => 0), (fun _ => 0), (fun _ => 0)) r dX10_knownStage_25 ⟨rfl, fun _ => ⟨fun _ _ => Nat.succ_pos 7, fun _ _ => Nat.succ_pos 7⟩⟩ rfl (by decide) (by decide)
set_option maxHeartbeats 4000000 in
set_option maxRecDepth 100000 in
theorem c_knownS2 (l : Launch) (D : va_G) (cI cB cS cJ cF cG : ClassId) (tt : Nat → Nat) (oa : Nat → Nat) (c0 w : Nat) (sg : Nat → Option Nat) (Ln St : Nat → Nat) (cnt th : Nat) (nx : Nat → Nat → Nat) (E : Nat) (b : Bool) (u0 : S4) (hsg : sg 2 = some (u0.1 0)) (hsc : sc_ok 2 u0.2.1) : gw_CR2 (S := S4) l yX10_knownStage wsX10_knownStage 4 93 0 0 D (mo_ty cI cB cS cJ cF cG) (zs tt) (ob_ws cI cG oa (c0) (w) (sg) (Ln) (St) (cnt) (th) ++ ss2_ws cI cJ cF nx E b u0) [.ref (oa 0), iN 2] (fun u r => u.1 0 = r ∧ sc_ok 2 u.2.1) (fun u r => ob_ws cI cG oa (c0) (w) (va_up sg 2 (some r)) (Ln) (St) (cnt) (th) ++ ss2_ws cI cJ cF nx E b u) := by
  refine gw_CR2.of (rt := RX9) (cc := cX10_knownStage) (maxL := 2) (zs_ok tt) (by decide) rfl (Nat.le_of_ble_eq_true rfl) ?_
  intro K C hkl hkn hkR hkD hmn ret
  have C : gw_x K cX10_knownStage RX10 wsX10_knownStage (mo_ty cI cB cS cJ cF cG) (zs tt) := C
  subst hkl hkD
  have hrc : (kR K).cells = 0 := by rw [hkR]
  have hrs : (kR K).slots = 0 := by rw [hkR]
  have es : va_up sg 2 (some (u0.1 0)) = sg := by
    funext j
    simp only [va_up]
    split
    · next e => rw [e, hsg]
    · rfl
  refine gw_aload_n C 0 dX10_knownStage_0 rfl rfl ?_
  refine gw_get C 0 2 in_X10_knownStage_X10 dX10_knownStage_1 lk_X10_knownStage_21 rfl rfl (by decide) rfl rfl ?_
  refine gw_iload_n C 1 dX10_knownStage_4 rfl rfl ?_
  refine gw_ald C (v := .ref (u0.1 0)) 1 5 dX10_knownStage_5 rfl rfl (by decide) (by decide) (by rw [hsg]; rfl) ?_
  refine gw_nonnull C 19 dX10_knownStage_6 (by decide) ?_
  refine gw_aload_n C 0 dX10_knownStage_19 rfl rfl ?_
  refine gw_get C 0 2 in_X10_knownStage_X10 dX10_knownStage_20 lk_X10_knownStage_21 rfl rfl (by decide) rfl rfl ?_
  refine gw_iload_n C 1 dX10_knownStage_23 rfl rfl ?_
  refine gw_ald C (v := .ref (u0.1 0)) 1 5 dX10_knownStage_24 rfl rfl (by decide) (by decide) (by rw [hsg]; rfl) ?_
  exact ret u0 (u0.1 0) dX10_knownStage_25 ⟨rfl, hsc⟩ (by rw [es]) (Nat.le_refl 0) (Nat.le_refl 0)
theorem c_known2 (l : Launch) (D : va_G) (cI cB cS cJ cF cG : ClassId) (tt : Nat → Nat) (oa : Nat → Nat) (c0 w : Nat) (sg : Nat → Option Nat) (Ln St : Nat → Nat) (cnt th : Nat) (nx : Nat → Nat → Nat) (E : Nat) (s : Option (Bool × S4)) (hsg : sg 2 = s.map (fun s => s.2.1 0)) (hsc : ∀ x, s = some x → sc_ok 2 x.2.2.1) : gw_CR2 (S := S4) l yX10_knownStage wsX10_knownStage 4 93 (knc s 9) (knc s 87) D (mo_ty cI cB cS cJ cF cG) (zs tt) (ob_ws cI cG oa (c0) (w) (sg) (Ln) (St) (cnt) (th) ++ st2_ws cI cJ cF nx E s) [.ref (oa 0), iN 2] (fun u r => u.1 0 = r ∧ sc_ok 2 u.2.1) (fun u r => ob_ws cI cG oa (c0) (w) (va_up sg 2 (some r)) (Ln) (St) (cnt) (th) ++ ss2_ws cI cJ cF nx E (knb s) u) := by
  cases s with
  | none => exact c_knownN2 l D cI cB cS cJ cF cG tt oa c0 w sg Ln St cnt th nx E hsg
  | some x => exact c_knownS2 l D cI cB cS cJ cF cG tt oa c0 w sg Ln St cnt th nx E x.1 x.2 hsg (hsc x rfl)
theorem c_findq2 (l : Launch) (D : va_G) (cI cB cS cJ cF cG : ClassId) (tt : Nat → Nat) (b : Bool) (u0 : S4) (nx : Nat → Nat → Nat) (E : Nat) (ca : Nat → Nat) (q : Q4) (hsc : sc_ok 2 u0.2.1) (hok : ok2q q) (hmt : mt2 nx E) : gw_CI (S := S4) l yX9_find wsX9_find 18 449 (fdc b (sv2q q) 10) (fdc b (sv2q q) 8926) D (mo_ty cI cB cS cJ cF cG) (zs tt) (ss2_ws cI cJ cF nx E b u0 ++ cq_ws cI tt ca q) [.ref (u0.1 0), .ref (ca 0)] (fun r u => r = nI (fd2q nx E q).1 ∧ (∀ j, j < (fd2q nx E q).1 → u.2.2.1 j = (fd2q nx E q).2.getD j 0) ∧ u.1 0 = u0.1 0 ∧ sc_ok 2 u.2.1) (fun u => ss2_ws cI cJ cF nx E (fdb b (sv2q q)) u ++ cq_ws cI tt ca q) :=
  c_find2 l D cI cB cS cJ cF cG tt b u0 nx E ca q.1 q.2.1 q.2.2.1 q.2.2.2 (rv2 q.1 q.2.1 q.2.2.1 q.2.2.2 (fun _ _ => 0)) hok.1.1 hok.1.2.2.1 hsc hok.2.1 hok.2.2 hmt.1 hmt.2.1 hmt.2.2
set_option maxHeartbeats 4000000 in
set_option maxRecDepth 100000 in
theorem c_knownN3 (l : Launch) (D : va_G) (cI cB cS cJ cF cG : ClassId) (tt : Nat → Nat) (oa : Nat → Nat) (c0 w : Nat) (sg : Nat → Option Nat) (Ln St : Nat → Nat) (cnt th : Nat) (nx : Nat → Nat → Nat) (E : Nat) (hsg : sg 3 = none) : gw_CR2 (S := S4) l yX10_knownStage wsX10_knownStage 4 93 12 125 D (mo_ty cI cB cS cJ cF cG) (zs tt) (ob_ws cI cG oa (c0) (w) (sg) (Ln) (St) (cnt) (th) ++ []) [.ref (oa 0), iN 3] (fun u r => u.1 0 = r ∧ sc_ok 3 u.2.1) (fun u r => ob_ws cI cG oa (c0) (w) (va_up sg 3 (some r)) (Ln) (St) (cnt) (th) ++ ss3_ws cI cJ cF nx E false u) := by
  refine gw_CR2.of (rt := RX9) (cc := cX10_knownStage) (maxL := 2) (zs_ok tt) (by decide) rfl (Nat.le_of_ble_eq_true rfl) ?_
  intro K C hkl hkn hkR hkD hmn ret
  have C : gw_x K cX10_knownStage RX10 wsX10_knownStage (mo_ty cI cB cS cJ cF cG) (zs tt) := C
  subst hkl hkD
  have hrc : (kR K).cells = 12 := by rw [hkR]
  have hrs : (kR K).slots = 125 := by rw [hkR]
  refine gw_ws (ws2 := [(oa 0, .inr (8, [.ref (c0), .ref (w), .ref (oa 1), .ref (oa 2), .ref (oa 3), iN (cnt), iN (th)])), (oa 1, .inl (cG, 4, .inr (.inr (.inr (.inr (sg)))))), (oa 2, .inl (cI, 4, .inl (fun j => nI (Ln j)))), (oa 3, .inl (cI, 60, .inl (fun j => nI (St j))))]) rfl ?_
  refine gw_aload_n C 0 dX10_knownStage_0 rfl rfl ?_
  refine gw_get C 0 2 in_X10_knownStage_X10 dX10_knownStage_1 lk_X10_knownStage_21 rfl rfl (by decide) rfl rfl ?_
  refine gw_iload_n C 1 dX10_knownStage_4 rfl rfl ?_
  refine gw_ald C (v := .null) 1 5 dX10_knownStage_5 rfl rfl (by decide) (by decide) (by rw [hsg]; rfl) ?_
  refine gw_nonnullN C dX10_knownStage_6 ?_
  refine gw_aload_n C 0 dX10_knownStage_9 rfl rfl ?_
  refine gw_get C 0 2 in_X10_knownStage_X10 dX10_knownStage_10 lk_X10_knownStage_21 rfl rfl (by decide) rfl rfl ?_
  refine gw_iload_n C 1 dX10_knownStage_13 rfl rfl ?_
  refine gw_iload_n C 1 dX10_knownStage_14 rfl rfl ?_
  refine gw_callSR2 (b := 0) (n := 1) (wr := [(oa 0, .inr (8, [.ref (c0), .ref (w), .ref (oa 1), .ref (oa 2), .ref (oa 3), iN (cnt), iN (th)])), (oa 1, .inl (cG, 4, .inr (.inr (.inr (.inr (sg)))))), (oa 2, .inl (cI, 4, .inl (fun j => nI (Ln j)))), (oa 3, .inl (cI, 60, .inl (fun j => nI (St j))))]) C (c_newS3 (kl K) (kD K) cI cB cS cJ cF cG tt) gX10_knownStage_X10_newStage rfl (by decide +kernel) dX10_knownStage_15 (by rw [hkR]; decide) (by rw [hrc, hrs]; decide) [] [0, 1, 2, 3] rfl rfl rfl rfl (by decide) rfl (Nat.le_of_ble_eq_true rfl) rfl (fun u r hu => ?_)
  refine gw_ws (ws2 := [(oa 0, .inr (8, [.ref (c0), .ref (w), .ref (oa 1), .ref (oa 2), .ref (oa 3), iN (cnt), iN (th)])), (oa 1, .inl (cG, 4, .inr (.inr (.inr (.inr (sg)))))), (oa 2, .inl (cI, 4, .inl (fun j => nI (Ln j)))), (oa 3, .inl (cI, 60, .inl (fun j => nI (St j))))] ++ (ss3_ws cI cJ cF nx E false ((fun j => if j = 0 then r else u j), (fun _ _ => 0), (fun _ => 0), (fun _ => 0)))) rfl ?_
  refine gw_ast C (ws2 := [(oa 0, .inr (8, [.ref (c0), .ref (w), .ref (oa 1), .ref (oa 2), .ref (oa 3), iN (cnt), iN (th)])), (oa 1, .inl (cG, 4, .inr (.inr (.inr (.inr (va_up sg 3 (some r))))))), (oa 2, .inl (cI, 4, .inl (fun j => nI (Ln j)))), (oa 3, .inl (cI, 60, .inl (fun j => nI (St j))))] ++ (ss3_ws cI cJ cF nx E false ((fun j => if j = 0 then r else u j), (fun _ _ => 0), (fun _ => 0), (fun _ => 0)))) 1 5 4 dX10_knownStage_18 rfl rfl rfl rfl (by decide) (by decide) rfl ?_
  refine gw_aload_n C 0 dX10_knownStage_19 rfl rfl ?_
  refine gw_get C 0 2 in_X10_knownStage_X10 dX10_knownStage_20 lk_X10_knownStage_21 rfl rfl (by decide) rfl rfl ?_
  refine gw_iload_n C 1 dX10_knownStage_23 rfl rfl ?_
  refine gw_ald C (v := .ref (r)) 1 5 dX10_knownStage_24 rfl rfl (by decide) (by decide) rfl ?_
  exact ret ((fun j => if j = 0 then r else u j), (fun _ _ => 0), (fun _ => 0), (fun _ => 0)) r dX10_knownStage_25 ⟨rfl, fun _ => ⟨fun _ _ => Nat.succ_pos 7, fun _ _ => Nat.succ_pos 7⟩⟩ rfl (by decide) (by decide)
set_option maxHeartbeats 4000000 in
set_option maxRecDepth 100000 in
theorem c_knownS3 (l : Launch) (D : va_G) (cI cB cS cJ cF cG : ClassId) (tt : Nat → Nat) (oa : Nat → Nat) (c0 w : Nat) (sg : Nat → Option Nat) (Ln St : Nat → Nat) (cnt th : Nat) (nx : Nat → Nat → Nat) (E : Nat) (b : Bool) (u0 : S4) (hsg : sg 3 = some (u0.1 0)) (hsc : sc_ok 3 u0.2.1) : gw_CR2 (S := S4) l yX10_knownStage wsX10_knownStage 4 93 0 0 D (mo_ty cI cB cS cJ cF cG) (zs tt) (ob_ws cI cG oa (c0) (w) (sg) (Ln) (St) (cnt) (th) ++ ss3_ws cI cJ cF nx E b u0) [.ref (oa 0), iN 3] (fun u r => u.1 0 = r ∧ sc_ok 3 u.2.1) (fun u r => ob_ws cI cG oa (c0) (w) (va_up sg 3 (some r)) (Ln) (St) (cnt) (th) ++ ss3_ws cI cJ cF nx E b u) := by
  refine gw_CR2.of (rt := RX9) (cc := cX10_knownStage) (maxL := 2) (zs_ok tt) (by decide) rfl (Nat.le_of_ble_eq_true rfl) ?_
  intro K C hkl hkn hkR hkD hmn ret
  have C : gw_x K cX10_knownStage RX10 wsX10_knownStage (mo_ty cI cB cS cJ cF cG) (zs tt) := C
  subst hkl hkD
  have hrc : (kR K).cells = 0 := by rw [hkR]
  have hrs : (kR K).slots = 0 := by rw [hkR]
  have es : va_up sg 3 (some (u0.1 0)) = sg := by
    funext j
    simp only [va_up]
    split
    · next e => rw [e, hsg]
    · rfl
  refine gw_aload_n C 0 dX10_knownStage_0 rfl rfl ?_
  refine gw_get C 0 2 in_X10_knownStage_X10 dX10_knownStage_1 lk_X10_knownStage_21 rfl rfl (by decide) rfl rfl ?_
  refine gw_iload_n C 1 dX10_knownStage_4 rfl rfl ?_
  refine gw_ald C (v := .ref (u0.1 0)) 1 5 dX10_knownStage_5 rfl rfl (by decide) (by decide) (by rw [hsg]; rfl) ?_
  refine gw_nonnull C 19 dX10_knownStage_6 (by decide) ?_
  refine gw_aload_n C 0 dX10_knownStage_19 rfl rfl ?_
  refine gw_get C 0 2 in_X10_knownStage_X10 dX10_knownStage_20 lk_X10_knownStage_21 rfl rfl (by decide) rfl rfl ?_
  refine gw_iload_n C 1 dX10_knownStage_23 rfl rfl ?_
  refine gw_ald C (v := .ref (u0.1 0)) 1 5 dX10_knownStage_24 rfl rfl (by decide) (by decide) (by rw [hsg]; rfl) ?_
  exact ret u0 (u0.1 0) dX10_knownStage_25 ⟨rfl, hsc⟩ (by rw [es]) (Nat.le_refl 0) (Nat.le_refl 0)
theorem c_known3 (l : Launch) (D : va_G) (cI cB cS cJ cF cG : ClassId) (tt : Nat → Nat) (oa : Nat → Nat) (c0 w : Nat) (sg : Nat → Option Nat) (Ln St : Nat → Nat) (cnt th : Nat) (nx : Nat → Nat → Nat) (E : Nat) (s : Option (Bool × S4)) (hsg : sg 3 = s.map (fun s => s.2.1 0)) (hsc : ∀ x, s = some x → sc_ok 3 x.2.2.1) : gw_CR2 (S := S4) l yX10_knownStage wsX10_knownStage 4 93 (knc s 12) (knc s 125) D (mo_ty cI cB cS cJ cF cG) (zs tt) (ob_ws cI cG oa (c0) (w) (sg) (Ln) (St) (cnt) (th) ++ st3_ws cI cJ cF nx E s) [.ref (oa 0), iN 3] (fun u r => u.1 0 = r ∧ sc_ok 3 u.2.1) (fun u r => ob_ws cI cG oa (c0) (w) (va_up sg 3 (some r)) (Ln) (St) (cnt) (th) ++ ss3_ws cI cJ cF nx E (knb s) u) := by
  cases s with
  | none => exact c_knownN3 l D cI cB cS cJ cF cG tt oa c0 w sg Ln St cnt th nx E hsg
  | some x => exact c_knownS3 l D cI cB cS cJ cF cG tt oa c0 w sg Ln St cnt th nx E x.1 x.2 hsg (hsc x rfl)
theorem c_findq3 (l : Launch) (D : va_G) (cI cB cS cJ cF cG : ClassId) (tt : Nat → Nat) (b : Bool) (u0 : S4) (nx : Nat → Nat → Nat) (E : Nat) (ca : Nat → Nat) (q : Q4) (hsc : sc_ok 3 u0.2.1) (hok : ok3q q) (hmt : mt3 nx E) : gw_CI (S := S4) l yX9_find wsX9_find 18 449 (fdc b (sv3q q) 18) (fdc b (sv3q q) 94304) D (mo_ty cI cB cS cJ cF cG) (zs tt) (ss3_ws cI cJ cF nx E b u0 ++ cq_ws cI tt ca q) [.ref (u0.1 0), .ref (ca 0)] (fun r u => r = nI (fd3q nx E q).1 ∧ (∀ j, j < (fd3q nx E q).1 → u.2.2.1 j = (fd3q nx E q).2.getD j 0) ∧ u.1 0 = u0.1 0 ∧ sc_ok 3 u.2.1) (fun u => ss3_ws cI cJ cF nx E (fdb b (sv3q q)) u ++ cq_ws cI tt ca q) :=
  c_find3 l D cI cB cS cJ cF cG tt b u0 nx E ca q.1 q.2.1 q.2.2.1 q.2.2.2 (rv3 q.1 q.2.1 q.2.2.1 q.2.2.2 (fun _ _ => 0)) hok.1.1 hok.1.2.2.1 hsc hok.2.1 hok.2.2 hmt.1 hmt.2.1 hmt.2.2
theorem wq_ (O X P R S : va_W) (h : S = P ++ R) : O ++ (S ++ X) = (O ++ P) ++ R ++ X := by rw [h]; simp only [List.append_assoc]
set_option maxHeartbeats 4000000 in
set_option maxRecDepth 100000 in
theorem c_walkG (l : Launch) (D : va_G) (cI cB cS cJ cF cG : ClassId) (tt : Nat → Nat) (oa cw : Nat → Nat) (c0 : Nat) (sg : Nat → Option Nat) (Ln St : Nat → Nat) (cnt th : Nat) (k : Nat) (q : Q4) (SS SD : Bool → S4 → va_W) (vs : Bool → S4 → List Value) (ok : (Nat → Nat → Nat) → Prop) (T0 : va_W) (b1 b2 : Bool) (FD : Nat × List Nat) (mcK msK mcF msF : Nat) (hk : k < 4) (hqb : QB q) (hcnt : cnt ≤ 45) (hlen : FD.1 ≤ 15) (h18 : ∀ t ∈ FD.2, t < 18) (hsp : ∀ b u, SS b u = [(u.1 0, .inr (7, .ref (u.1 1) :: vs b u)), (u.1 1, .inl (cI, 15, .inl (fun j => nI (u.2.2.1 j))))] ++ SD b u) (hK : gw_CR2 (S := S4) l yX10_knownStage wsX10_knownStage 4 93 mcK msK D (mo_ty cI cB cS cJ cF cG) (zs tt) (ob_ws cI cG oa (c0) (cw 0) (sg) (Ln) (St) (cnt) (th) ++ T0) [.ref (oa 0), iN k] (fun u r => u.1 0 = r ∧ ok u.2.1) (fun u r => ob_ws cI cG oa (c0) (cw 0) (va_up sg k (some r)) (Ln) (St) (cnt) (th) ++ SS b1 u)) (hF : ∀ u : S4, ok u.2.1 → gw_CI (S := S4) l yX9_find wsX9_find 18 449 mcF msF D (mo_ty cI cB cS cJ cF cG) (zs tt) (SS b1 u ++ cq_ws cI tt cw q) [.ref (u.1 0), .ref (cw 0)] (fun r v => r = nI FD.1 ∧ (∀ j, j < FD.1 → v.2.2.1 j = FD.2.getD j 0) ∧ v.1 0 = u.1 0 ∧ ok v.2.1) (fun v => SS b2 v ++ cq_ws cI tt cw q)) : gw_CV (S := S4) l yX10_walkStage wsX10_walkStage 19 472 (mcK + mcF) (msK + msF) D (mo_ty cI cB cS cJ cF cG) (zs tt) (ob_ws cI cG oa (c0) (cw 0) (sg) (Ln) (St) (cnt) (th) ++ (T0 ++ cq_ws cI tt cw q)) [.ref (oa 0), iN k] (fun u => ok u.2.1) (fun u => ob_ws cI cG oa (c0) (cw 0) (va_up sg k (some (u.1 0))) (up1 Ln k FD.1) (stS FD.2 St cnt FD.1) (cnt + FD.1) (th) ++ (SS b2 u ++ cq_ws cI tt cw (wkQ FD.2 q FD.1))) := by
  refine gw_CV.of (cc := cX10_walkStage) (maxL := 5) (zs_ok tt) (by decide) rfl (Nat.le_of_ble_eq_true rfl) ?_
  intro K C hkl hkn hkR hkD hmn ret
  have C : gw_x K cX10_walkStage RX10 wsX10_walkStage (mo_ty cI cB cS cJ cF cG) (zs tt) := C
  subst hkl hkD
  have hrc : (kR K).cells = (mcK + mcF) := by rw [hkR]
  have hrs : (kR K).slots = (msK + msF) := by rw [hkR]
  refine gw_aload_n C 0 dX10_walkStage_0 rfl rfl ?_
  refine gw_iload_n C 1 dX10_walkStage_1 rfl rfl ?_
  refine gw_ws (ws2 := (ob_ws cI cG oa (c0) (cw 0) (sg) (Ln) (St) (cnt) (th) ++ T0) ++ cq_ws cI tt cw q) (by rw [List.append_assoc]) ?_
  refine gw_appVR2 (n := 1) C hK 0 rfl rfl rfl gX10_walkStage_X10_knownStage rfl (by decide +kernel) dX10_walkStage_2 (by rw [hkR]; dsimp only; decide) (by rw [hrc, hrs]; omega) rfl (Nat.le_of_ble_eq_true rfl) rfl (fun u r hu => ?_)
  obtain ⟨hu0, hu1⟩ := hu
  subst hu0
  refine gw_ws (ws2 := ob_ws cI cG oa (c0) (cw 0) (va_up sg k (some (u.1 0))) (Ln) (St) (cnt) (th) ++ (SS b1 u ++ cq_ws cI tt cw q)) (by rw [List.append_assoc]) ?_
  refine gw_astore_n C (lv2 := [(2, .ref (u.1 0)), (0, .ref (oa 0)), (1, iN (k))]) dX10_walkStage_5 rfl (by omega) rfl ?_
  refine gw_aload_n C 0 dX10_walkStage_6 rfl rfl ?_
  refine gw_aload_n C 1 dX10_walkStage_7 rfl rfl ?_
  refine gw_get C 0 1 in_X10_walkStage_X10 dX10_walkStage_8 lk_X10_walkStage_16 rfl rfl (by decide) rfl rfl ?_
  refine gw_swap ?_
  refine gw_appVI (n := 1) C (hF u hu1) (fs := .ref (u.1 1) :: vs b1 u) (ci := 7) 0 (by rw [hsp]; rfl) rfl rfl gX10_walkStage_X9_find rfl (by decide +kernel) dX10_walkStage_11 (by rw [hkR]; dsimp only; decide) (by rw [hrc, hrs]; omega) rfl (Nat.le_of_ble_eq_true rfl) rfl (fun rv v hv => ?_)
  obtain ⟨hv0, hv1, hv2, hv3⟩ := hv
  subst hv0
  rw [← hv2]
  refine gw_swap ?_
  refine gw_ws (ws2 := [(oa 0, .inr (8, [.ref (c0), .ref (cw 0), .ref (oa 1), .ref (oa 2), .ref (oa 3), iN (cnt), iN (th)])), (oa 1, .inl (cG, 4, .inr (.inr (.inr (.inr (va_up sg k (some (v.1 0)))))))), (oa 2, .inl (cI, 4, .inl (fun j => nI (Ln j)))), (oa 3, .inl (cI, 60, .inl (fun j => nI (St j)))), (v.1 0, .inr (7, .ref (v.1 1) :: vs b2 v)), (v.1 1, .inl (cI, 15, .inl (fun j => nI ((v.2.2.1) j))))] ++ SD b2 v ++ cq_ws cI tt cw q) (by exact wq_ _ _ _ _ _ (hsp b2 v)) ?_
  refine gw_istore_n C (lv2 := [(3, iN (FD.1)), (2, .ref (v.1 0)), (0, .ref (oa 0)), (1, iN (k))]) dX10_walkStage_14 rfl (by omega) rfl ?_
  refine gw_aload_n C 2 dX10_walkStage_15 rfl rfl ?_
  refine gw_get C 0 3 in_X10_walkStage_X10 dX10_walkStage_16 lk_X10_walkStage_25 rfl rfl (by decide) rfl rfl ?_
  refine gw_iload_n C 3 dX10_walkStage_19 rfl rfl ?_
  refine gw_iload_n C 0 dX10_walkStage_20 rfl rfl ?_
  refine gw_istN C (ws2 := [(oa 0, .inr (8, [.ref (c0), .ref (cw 0), .ref (oa 1), .ref (oa 2), .ref (oa 3), iN (cnt), iN (th)])), (oa 1, .inl (cG, 4, .inr (.inr (.inr (.inr (va_up sg k (some (v.1 0)))))))), (oa 2, .inl (cI, 4, .inl (fun j => nI ((up1 Ln (k) (FD.1)) j)))), (oa 3, .inl (cI, 60, .inl (fun j => nI (St j)))), (v.1 0, .inr (7, .ref (v.1 1) :: vs b2 v)), (v.1 1, .inl (cI, 15, .inl (fun j => nI ((v.2.2.1) j))))] ++ SD b2 v ++ cq_ws cI tt cw q) 2 0 dX10_walkStage_21 rfl rfl (by first | decide | omega) (by omega) rfl ?_
  refine gw_iconst C 0 dX10_walkStage_22 (by decide) ?_
  refine gw_istore C (lv2 := [(4, iN (0)), (3, iN (FD.1)), (2, .ref (v.1 0)), (0, .ref (oa 0)), (1, iN (k))]) dX10_walkStage_23 (by omega) rfl ?_
  have lp : ∀ n i : Nat, i + n = FD.1 → gw_G K ([(oa 0, .inr (8, [.ref (c0), .ref (cw 0), .ref (oa 1), .ref (oa 2), .ref (oa 3), iN (cnt + (i)), iN (th)])), (oa 1, .inl (cG, 4, .inr (.inr (.inr (.inr (va_up sg k (some (v.1 0)))))))), (oa 2, .inl (cI, 4, .inl (fun j => nI ((up1 Ln k FD.1) j)))), (oa 3, .inl (cI, 60, .inl (fun j => nI ((stS FD.2 St cnt (i)) j)))), (v.1 0, .inr (7, .ref (v.1 1) :: vs b2 v)), (v.1 1, .inl (cI, 15, .inl (fun j => nI ((v.2.2.1) j))))] ++ SD b2 v ++ cq_ws cI tt cw (wkQ FD.2 q (i))) (0 + mcK + mcF) (0 + msK + msF) 25 [(4, iN (i)), (3, iN (FD.1)), (2, .ref (v.1 0)), (1, iN (k)), (0, .ref (oa 0))] [] := by
    intro n
    induction n with
    | zero =>
      intro i hi
      refine gw_iload C 0 dX10_walkStage_25 rfl ?_
      refine gw_iload_n C 1 dX10_walkStage_27 rfl rfl ?_
      refine gw_icmp_ge C 77 dX10_walkStage_28 (by decide) (by omega) (by omega) (fun h121 => ?_) (fun h121 => ?_)
      ·
        have ei : i = FD.1 := by omega
        rw [ei]
        exact ret v dX10_walkStage_77 hv3 (by exact (wq_ (ob_ws cI cG oa (c0) (cw 0) (va_up sg k (some (v.1 0))) (up1 Ln k FD.1) (stS FD.2 St cnt FD.1) (cnt + FD.1) (th)) _ _ _ _ (hsp b2 v)).symm) (by omega) (by omega)
      ·
        exact absurd h121 (by omega)
    | succ n ih =>
      intro i hi
      refine gw_iload C 0 dX10_walkStage_25 rfl ?_
      refine gw_iload_n C 1 dX10_walkStage_27 rfl rfl ?_
      refine gw_icmp_ge C 77 dX10_walkStage_28 (by decide) (by omega) (by omega) (fun h122 => ?_) (fun h122 => ?_)
      ·
        exact absurd h122 (by omega)
      ·
        have hway := hv1 i (by omega)
        have ht := getD_18 h18 i
        have hqi := QB_wk FD.2 hqb i
        refine gw_aload_n C 4 dX10_walkStage_31 rfl rfl ?_
        refine gw_get C 0 1 in_X10_walkStage_X10 dX10_walkStage_32 lk_X10_walkStage_16 rfl rfl (by decide) rfl rfl ?_
        refine gw_aload_n C 2 dX10_walkStage_35 rfl rfl ?_
        refine gw_get C 4 0 in_X10_walkStage_X9 dX10_walkStage_36 lk_X10_walkStage_98 rfl rfl (by decide) rfl rfl ?_
        refine gw_iload C 0 dX10_walkStage_39 rfl ?_
        refine gw_ild C (v := nI ((v.2.2.1) (i))) 5 0 dX10_walkStage_41 rfl rfl (by first | decide | omega) (by omega) rfl ?_
        rw [hway]
        refine gw_swap ?_
        refine gw_appVV (n := 1) C (c_cmake (kl K) (kD K) cI cB cS cJ cF cG tt cw (wkQ FD.2 q i).1 (wkQ FD.2 q i).2.1 (wkQ FD.2 q i).2.2.1 (wkQ FD.2 q i).2.2.2 (FD.2.getD i 0) ht hqi.2.1 hqi.2.2.2) 0 rfl rfl rfl gX10_walkStage_X1_make rfl (by decide +kernel) dX10_walkStage_42 (by rw [hkR]; dsimp only; decide) (by rw [hrc, hrs]; omega) rfl (Nat.le_of_ble_eq_true rfl) rfl (fun z hz => ?_)
        refine gw_swap ?_
        refine gw_ws (ws2 := [(oa 0, .inr (8, [.ref (c0), .ref (cw 0), .ref (oa 1), .ref (oa 2), .ref (oa 3), iN (cnt + i), iN (th)])), (oa 1, .inl (cG, 4, .inr (.inr (.inr (.inr (va_up sg k (some (v.1 0)))))))), (oa 2, .inl (cI, 4, .inl (fun j => nI ((up1 Ln k FD.1) j)))), (oa 3, .inl (cI, 60, .inl (fun j => nI ((stS FD.2 St cnt i) j)))), (v.1 0, .inr (7, .ref (v.1 1) :: vs b2 v)), (v.1 1, .inl (cI, 15, .inl (fun j => nI ((v.2.2.1) j))))] ++ SD b2 v ++ cq_ws cI tt cw (wkQ FD.2 q (i + 1))) rfl ?_
        refine gw_aload_n C 4 dX10_walkStage_45 rfl rfl ?_
        refine gw_get C 0 4 in_X10_walkStage_X10 dX10_walkStage_46 lk_X10_walkStage_29 rfl rfl (by decide) rfl rfl ?_
        refine gw_aload_n C 4 dX10_walkStage_49 rfl rfl ?_
        refine gw_get C 0 5 in_X10_walkStage_X10 dX10_walkStage_50 lk_X10_walkStage_32 rfl rfl (by decide) rfl rfl ?_
        refine gw_aload_n C 2 dX10_walkStage_53 rfl rfl ?_
        refine gw_get C 4 0 in_X10_walkStage_X9 dX10_walkStage_54 lk_X10_walkStage_98 rfl rfl (by decide) rfl rfl ?_
        refine gw_iload C 0 dX10_walkStage_57 rfl ?_
        refine gw_ild C (v := nI ((v.2.2.1) (i))) 5 0 dX10_walkStage_59 rfl rfl (by first | decide | omega) (by omega) rfl ?_
        rw [hway]
        refine gw_istN C (ws2 := [(oa 0, .inr (8, [.ref (c0), .ref (cw 0), .ref (oa 1), .ref (oa 2), .ref (oa 3), iN (cnt + i), iN (th)])), (oa 1, .inl (cG, 4, .inr (.inr (.inr (.inr (va_up sg k (some (v.1 0)))))))), (oa 2, .inl (cI, 4, .inl (fun j => nI ((up1 Ln k FD.1) j)))), (oa 3, .inl (cI, 60, .inl (fun j => nI ((up1 (stS FD.2 St cnt i) (cnt + i) (FD.2.getD i 0)) j)))), (v.1 0, .inr (7, .ref (v.1 1) :: vs b2 v)), (v.1 1, .inl (cI, 15, .inl (fun j => nI ((v.2.2.1) j))))] ++ SD b2 v ++ cq_ws cI tt cw (wkQ FD.2 q (i + 1))) 3 0 dX10_walkStage_60 rfl rfl (by first | decide | omega) (by omega) rfl ?_
        refine gw_aload_n C 4 dX10_walkStage_61 rfl rfl ?_
        refine gw_dup C dX10_walkStage_62 rfl ?_
        refine gw_get C 0 5 in_X10_walkStage_X10 dX10_walkStage_63 lk_X10_walkStage_32 rfl rfl (by decide) rfl rfl ?_
        refine gw_iconst C 1 dX10_walkStage_66 (by decide) ?_
        refine gw_iadd C dX10_walkStage_67 ?_
        refine gw_put C (ty := .int) (ws2 := [(oa 0, .inr (8, [.ref (c0), .ref (cw 0), .ref (oa 1), .ref (oa 2), .ref (oa 3), iN ((cnt + i) + (1)), iN (th)])), (oa 1, .inl (cG, 4, .inr (.inr (.inr (.inr (va_up sg k (some (v.1 0)))))))), (oa 2, .inl (cI, 4, .inl (fun j => nI ((up1 Ln k FD.1) j)))), (oa 3, .inl (cI, 60, .inl (fun j => nI ((up1 (stS FD.2 St cnt i) (cnt + i) (FD.2.getD i 0)) j)))), (v.1 0, .inr (7, .ref (v.1 1) :: vs b2 v)), (v.1 1, .inl (cI, 15, .inl (fun j => nI ((v.2.2.1) j))))] ++ SD b2 v ++ cq_ws cI tt cw (wkQ FD.2 q (i + 1))) 0 5 tyX10 tyX10_ok nmX10 in_X10_walkStage_X10 dX10_walkStage_68 lk_X10_walkStage_32 rfl rfl (by decide) rfl rfl (by decide +kernel) rfl rfl (Nat.le_of_ble_eq_true rfl) rfl ?_
        refine gw_iinc C (v := nI (i + 1)) (lv2 := [(4, iN (i + 1)), (3, iN (FD.1)), (2, .ref (v.1 0)), (1, iN (k)), (0, .ref (oa 0))]) 0 dX10_walkStage_71 rfl (nI_add _ _) (by omega) rfl ?_
        refine gw_goto C 25 dX10_walkStage_74 (by decide) ?_
        refine gw_lv (lv2 := [(4, iN (i + 1)), (3, iN (FD.1)), (2, .ref (v.1 0)), (1, iN (k)), (0, .ref (oa 0))]) [0, 1, 2, 3, 4] rfl ?_
        exact gw_ws rfl (ih (i + 1) (by omega))
  refine gw_lv (lv2 := [(4, iN (0)), (3, iN (FD.1)), (2, .ref (v.1 0)), (1, iN (k)), (0, .ref (oa 0))]) [0, 1, 2, 4, 3] rfl ?_
  exact lp FD.1 0 (by omega)
theorem c_walkS0 (l : Launch) (D : va_G) (cI cB cS cJ cF cG : ClassId) (tt : Nat → Nat) (oa : Nat → Nat) (cw : Nat → Nat) (c0 : Nat) (sg : Nat → Option Nat) (Ln St : Nat → Nat) (cnt th : Nat) (nx : Nat → Nat → Nat) (E : Nat) (s : Option (Bool × S4)) (q : Q4) (hsg : sg 0 = s.map (fun s => s.2.1 0)) (hsc : ∀ x, s = some x → sc_ok 0 x.2.2.1) (hok : ok0q q) (hmt : mt0 nx E) (hcnt : cnt ≤ 0) : gw_CV (S := S4) l yX10_walkStage wsX10_walkStage 19 472 (knc s 5 + fdc (knb s) (sv0q q) 6) (knc s 42 + fdc (knb s) (sv0q q) 14494) D (mo_ty cI cB cS cJ cF cG) (zs tt) (ob_ws cI cG oa (c0) (cw 0) (sg) (Ln) (St) (cnt) (th) ++ (st0_ws cI cJ cF nx E s ++ cq_ws cI tt cw q)) [.ref (oa 0), iN 0] (fun u => sc_ok 0 u.2.1) (fun u => ob_ws cI cG oa (c0) (cw 0) (va_up sg 0 (some (u.1 0))) (up1 Ln 0 (fd0q nx E q).1) (stS (fd0q nx E q).2 St cnt (fd0q nx E q).1) (cnt + (fd0q nx E q).1) (th) ++ (ss0_ws cI cJ cF nx E (fdb (knb s) (sv0q q)) u ++ cq_ws cI tt cw (af0q nx E q))) := by
  have hfp : (fd0q nx E q).1 ≤ 15 ∧ (fd0q nx E q).2.length = (fd0q nx E q).1 ∧ ∀ t ∈ (fd0q nx E q).2, t < 18 := fd_p nx sz0 1 7 6 (sf_ nx sz0 1 6 7 2048 E).1 (rv0 q.1 q.2.1 q.2.2.1 q.2.2.2 (fun _ _ => 0))
  have hF := fun (u : S4) (hu : sc_ok 0 u.2.1) => c_findq0 l D cI cB cS cJ cF cG tt (knb s) u nx E cw q hu hok hmt
  have hK := c_known0 l D cI cB cS cJ cF cG tt oa c0 (cw 0) sg Ln St cnt th nx E s hsg hsc
  have eaf : af0q nx E q = wkQ (fd0q nx E q).2 q (fd0q nx E q).1 := rfl
  rw [eaf]
  generalize fd0q nx E q = FD at hfp hF ⊢
  generalize sv0q q = sv at hF ⊢
  exact c_walkG l D cI cB cS cJ cF cG tt oa cw c0 sg Ln St cnt th 0 q (ss0_ws cI cJ cF nx E) (fun b u => (ss0_ws cI cJ cF nx E b u).drop 2) (fun b u => [iN 6, iN 7, iN 2048, .ref (u.1 2), .ref (u.1 3), nv0 b u]) (sc_ok 0) (st0_ws cI cJ cF nx E s) (knb s) (fdb (knb s) sv) FD _ _ _ _ (by decide) hok.1 (by omega) hfp.1 hfp.2.2 (fun b u => ss0_split cI cJ cF nx E b u) hK hF
theorem c_walkS1 (l : Launch) (D : va_G) (cI cB cS cJ cF cG : ClassId) (tt : Nat → Nat) (oa : Nat → Nat) (cw : Nat → Nat) (c0 : Nat) (sg : Nat → Option Nat) (Ln St : Nat → Nat) (cnt th : Nat) (nx : Nat → Nat → Nat) (E : Nat) (s : Option (Bool × S4)) (q : Q4) (hsg : sg 1 = s.map (fun s => s.2.1 0)) (hsc : ∀ x, s = some x → sc_ok 1 x.2.2.1) (hok : ok1q q) (hmt : mt1 nx E) (hcnt : cnt ≤ 15) : gw_CV (S := S4) l yX10_walkStage wsX10_walkStage 19 472 (knc s 6 + fdc (knb s) (sv1q q) 10) (knc s 64 + fdc (knb s) (sv1q q) 85853) D (mo_ty cI cB cS cJ cF cG) (zs tt) (ob_ws cI cG oa (c0) (cw 0) (sg) (Ln) (St) (cnt) (th) ++ (st1_ws cI cJ cF nx E s ++ cq_ws cI tt cw q)) [.ref (oa 0), iN 1] (fun u => sc_ok 1 u.2.1) (fun u => ob_ws cI cG oa (c0) (cw 0) (va_up sg 1 (some (u.1 0))) (up1 Ln 1 (fd1q nx E q).1) (stS (fd1q nx E q).2 St cnt (fd1q nx E q).1) (cnt + (fd1q nx E q).1) (th) ++ (ss1_ws cI cJ cF nx E (fdb (knb s) (sv1q q)) u ++ cq_ws cI tt cw (af1q nx E q))) := by
  have hfp : (fd1q nx E q).1 ≤ 15 ∧ (fd1q nx E q).2.length = (fd1q nx E q).1 ∧ ∀ t ∈ (fd1q nx E q).2, t < 18 := fd_p nx sz1 2 5 4 (sf_ nx sz1 2 4 5 2048 E).1 (rv1 q.1 q.2.1 q.2.2.1 q.2.2.2 (fun _ _ => 0))
  have hF := fun (u : S4) (hu : sc_ok 1 u.2.1) => c_findq1 l D cI cB cS cJ cF cG tt (knb s) u nx E cw q hu hok hmt
  have hK := c_known1 l D cI cB cS cJ cF cG tt oa c0 (cw 0) sg Ln St cnt th nx E s hsg hsc
  have eaf : af1q nx E q = wkQ (fd1q nx E q).2 q (fd1q nx E q).1 := rfl
  rw [eaf]
  generalize fd1q nx E q = FD at hfp hF ⊢
  generalize sv1q q = sv at hF ⊢
  exact c_walkG l D cI cB cS cJ cF cG tt oa cw c0 sg Ln St cnt th 1 q (ss1_ws cI cJ cF nx E) (fun b u => (ss1_ws cI cJ cF nx E b u).drop 2) (fun b u => [iN 4, iN 5, iN 2048, .ref (u.1 2), .ref (u.1 3), nv1 b u]) (sc_ok 1) (st1_ws cI cJ cF nx E s) (knb s) (fdb (knb s) sv) FD _ _ _ _ (by decide) hok.1 (by omega) hfp.1 hfp.2.2 (fun b u => ss1_split cI cJ cF nx E b u) hK hF
theorem c_walkS2 (l : Launch) (D : va_G) (cI cB cS cJ cF cG : ClassId) (tt : Nat → Nat) (oa : Nat → Nat) (cw : Nat → Nat) (c0 : Nat) (sg : Nat → Option Nat) (Ln St : Nat → Nat) (cnt th : Nat) (nx : Nat → Nat → Nat) (E : Nat) (s : Option (Bool × S4)) (q : Q4) (hsg : sg 2 = s.map (fun s => s.2.1 0)) (hsc : ∀ x, s = some x → sc_ok 2 x.2.2.1) (hok : ok2q q) (hmt : mt2 nx E) (hcnt : cnt ≤ 30) : gw_CV (S := S4) l yX10_walkStage wsX10_walkStage 19 472 (knc s 9 + fdc (knb s) (sv2q q) 10) (knc s 87 + fdc (knb s) (sv2q q) 8926) D (mo_ty cI cB cS cJ cF cG) (zs tt) (ob_ws cI cG oa (c0) (cw 0) (sg) (Ln) (St) (cnt) (th) ++ (st2_ws cI cJ cF nx E s ++ cq_ws cI tt cw q)) [.ref (oa 0), iN 2] (fun u => sc_ok 2 u.2.1) (fun u => ob_ws cI cG oa (c0) (cw 0) (va_up sg 2 (some (u.1 0))) (up1 Ln 2 (fd2q nx E q).1) (stS (fd2q nx E q).2 St cnt (fd2q nx E q).1) (cnt + (fd2q nx E q).1) (th) ++ (ss2_ws cI cJ cF nx E (fdb (knb s) (sv2q q)) u ++ cq_ws cI tt cw (af2q nx E q))) := by
  have hfp : (fd2q nx E q).1 ≤ 15 ∧ (fd2q nx E q).2.length = (fd2q nx E q).1 ∧ ∀ t ∈ (fd2q nx E q).2, t < 18 := fd_p nx sz2 2 7 2 (sf_ nx sz2 2 2 7 4096 E).1 (rv2 q.1 q.2.1 q.2.2.1 q.2.2.2 (fun _ _ => 0))
  have hF := fun (u : S4) (hu : sc_ok 2 u.2.1) => c_findq2 l D cI cB cS cJ cF cG tt (knb s) u nx E cw q hu hok hmt
  have hK := c_known2 l D cI cB cS cJ cF cG tt oa c0 (cw 0) sg Ln St cnt th nx E s hsg hsc
  have eaf : af2q nx E q = wkQ (fd2q nx E q).2 q (fd2q nx E q).1 := rfl
  rw [eaf]
  generalize fd2q nx E q = FD at hfp hF ⊢
  generalize sv2q q = sv at hF ⊢
  exact c_walkG l D cI cB cS cJ cF cG tt oa cw c0 sg Ln St cnt th 2 q (ss2_ws cI cJ cF nx E) (fun b u => (ss2_ws cI cJ cF nx E b u).drop 2) (fun b u => [iN 2, iN 7, iN 4096, .ref (u.1 2), .ref (u.1 3), nv2 b u]) (sc_ok 2) (st2_ws cI cJ cF nx E s) (knb s) (fdb (knb s) sv) FD _ _ _ _ (by decide) hok.1 (by omega) hfp.1 hfp.2.2 (fun b u => ss2_split cI cJ cF nx E b u) hK hF
theorem c_walkS3 (l : Launch) (D : va_G) (cI cB cS cJ cF cG : ClassId) (tt : Nat → Nat) (oa : Nat → Nat) (cw : Nat → Nat) (c0 : Nat) (sg : Nat → Option Nat) (Ln St : Nat → Nat) (cnt th : Nat) (nx : Nat → Nat → Nat) (E : Nat) (s : Option (Bool × S4)) (q : Q4) (hsg : sg 3 = s.map (fun s => s.2.1 0)) (hsc : ∀ x, s = some x → sc_ok 3 x.2.2.1) (hok : ok3q q) (hmt : mt3 nx E) (hcnt : cnt ≤ 45) : gw_CV (S := S4) l yX10_walkStage wsX10_walkStage 19 472 (knc s 12 + fdc (knb s) (sv3q q) 18) (knc s 125 + fdc (knb s) (sv3q q) 94304) D (mo_ty cI cB cS cJ cF cG) (zs tt) (ob_ws cI cG oa (c0) (cw 0) (sg) (Ln) (St) (cnt) (th) ++ (st3_ws cI cJ cF nx E s ++ cq_ws cI tt cw q)) [.ref (oa 0), iN 3] (fun u => sc_ok 3 u.2.1) (fun u => ob_ws cI cG oa (c0) (cw 0) (va_up sg 3 (some (u.1 0))) (up1 Ln 3 (fd3q nx E q).1) (stS (fd3q nx E q).2 St cnt (fd3q nx E q).1) (cnt + (fd3q nx E q).1) (th) ++ (ss3_ws cI cJ cF nx E (fdb (knb s) (sv3q q)) u ++ cq_ws cI tt cw (af3q nx E q))) := by
  have hfp : (fd3q nx E q).1 ≤ 15 ∧ (fd3q nx E q).2.length = (fd3q nx E q).1 ∧ ∀ t ∈ (fd3q nx E q).2, t < 18 := fd_p nx sz3 4 7 0 (sf_ nx sz3 4 0 7 10240 E).1 (rv3 q.1 q.2.1 q.2.2.1 q.2.2.2 (fun _ _ => 0))
  have hF := fun (u : S4) (hu : sc_ok 3 u.2.1) => c_findq3 l D cI cB cS cJ cF cG tt (knb s) u nx E cw q hu hok hmt
  have hK := c_known3 l D cI cB cS cJ cF cG tt oa c0 (cw 0) sg Ln St cnt th nx E s hsg hsc
  have eaf : af3q nx E q = wkQ (fd3q nx E q).2 q (fd3q nx E q).1 := rfl
  rw [eaf]
  generalize fd3q nx E q = FD at hfp hF ⊢
  generalize sv3q q = sv at hF ⊢
  exact c_walkG l D cI cB cS cJ cF cG tt oa cw c0 sg Ln St cnt th 3 q (ss3_ws cI cJ cF nx E) (fun b u => (ss3_ws cI cJ cF nx E b u).drop 2) (fun b u => [iN 0, iN 7, iN 10240, .ref (u.1 2), .ref (u.1 3), nv3 b u]) (sc_ok 3) (st3_ws cI cJ cF nx E s) (knb s) (fdb (knb s) sv) FD _ _ _ _ (by decide) hok.1 (by omega) hfp.1 hfp.2.2 (fun b u => ss3_split cI cJ cF nx E b u) hK hF
