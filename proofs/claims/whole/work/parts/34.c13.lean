theorem in_X9_spread_X9 : ∀ w ∈ wsX90, w ∈ wsX9_spread := fun _ h => List.mem_cons_of_mem _ (List.mem_append_left _ (List.mem_append_left _ (List.mem_append_left _ (List.mem_append_left _ (List.mem_append_left _ (List.mem_append_right _ (h)))))))
theorem lk_X9_spread_15 : Cond.fieldLink RX9 15 "StageCube$Stage" "reach" "I" ∈ wsX9_spread := by decide +kernel
def sv_ (sz y : Nat → Nat) : Nat → Nat
  | 0 => 0
  | i + 1 => sv_ sz y i * sz i + y i
theorem sa_sv (sz Nm : Nat → Nat) (b : Nat) {y : Nat → Nat} : ∀ n, (∀ i, i < n → Nm (b + i) = y i) → sa_ sz Nm b n = sv_ sz y n
  | 0, _ => rfl
  | n + 1, h => by rw [sa_, sv_, sa_sv sz Nm b n (fun i hi => h i (by omega)), h n (by omega)]
def av_ (nx : Nat → Nat → Nat) (fc : Nat) (y : Nat → Nat) : Nat → Nat := fun i => nx i (6 * y i + fc)
def yI (nx : Nat → Nat → Nat) (fc : Nat) (x : Nat → Nat) : Nat → Nat → Nat
  | 0 => x
  | i + 1 => av_ nx fc (yI nx fc x i)
def dg_ (sz : Nat → Nat) (nf s : Nat) : Nat → Nat := ss_N sz nf s (fun _ => 0) nf
theorem ss_ind (sz : Nat → Nat) (nf s : Nat) (Nm : Nat → Nat) : ∀ t, t ≤ nf → ∀ i, nf - t ≤ i → i < nf → ss_N sz nf s Nm t i = ss_N sz nf s (fun _ => 0) t i := by
  intro t
  induction t with
  | zero => intro _ i h1 h2; exact absurd h1 (by omega)
  | succ t ih =>
    intro ht i h1 h2
    rw [ss_N, ss_N]
    simp only [up1]
    split
    · rfl
    · exact ih (by omega) i (by omega) h2
theorem ss_row (sz : Nat → Nat) (nf s : Nat) (Nm : Nat → Nat) : ∀ i, i < nf → ss_N sz nf s Nm nf i = dg_ sz nf s i := fun i hi => ss_ind sz nf s Nm nf (Nat.le_refl _) i (by omega) hi
theorem dg_lt (sz : Nat → Nat) (nf s : Nat) (hz : ∀ i, i < nf → 0 < sz i) : ∀ i, i < nf → dg_ sz nf s i < sz i := by
  have : ∀ t, t ≤ nf → ∀ i, nf - t ≤ i → i < nf → ss_N sz nf s (fun _ => 0) t i < sz i := by
    intro t
    induction t with
    | zero => intro _ i h1 h2; exact absurd h1 (by omega)
    | succ t ih =>
      intro ht i h1 h2
      rw [ss_N]
      simp only [up1]
      split
      · next e => rw [e]; exact Nat.mod_lt _ (hz _ (by omega))
      · exact ih (by omega) i (by omega) h2
  intro i hi
  exact this nf (Nat.le_refl _) i (by omega) hi
theorem yI_lt {nx : Nat → Nat → Nat} {sz : Nat → Nat} {nf fc : Nat} (hx : ∀ i, i < nf → ∀ v, v < sz i → nx i (6 * v + fc) < sz i) {x : Nat → Nat} (h : ∀ i, i < nf → x i < sz i) : ∀ k i, i < nf → yI nx fc x k i < sz i := by
  intro k
  induction k with
  | zero => exact h
  | succ k ih => intro i hi; exact hx i hi _ (ih i hi)
/-- what a stage's search keeps: nibbles, queue, count -/
abbrev sp_T : Type := (Nat → Nat) × (Nat → Nat) × Nat
def sp1 (tn rch ql nb : Nat) (S : sp_T) : sp_T := if S.1 nb = 0 then (up1 S.1 nb (tn + 1), if tn < rch ∧ S.2.2 < ql then (up1 S.2.1 S.2.2 nb, S.2.2 + 1) else S.2) else S
def spI (nx : Nat → Nat → Nat) (sz : Nat → Nat) (nf tn rch ql fc : Nat) (x : Nat → Nat) (S : sp_T) : Nat → sp_T
  | 0 => S
  | i + 1 => sp1 tn rch ql (sv_ sz (yI nx fc x (i + 1)) nf) (spI nx sz nf tn rch ql fc x S i)
def spO (nx : Nat → Nat → Nat) (sz : Nat → Nat) (nf tn fwq rch ql : Nat) (x : Nat → Nat) (S : sp_T) : Nat → sp_T
  | 0 => S
  | f + 1 => spI nx sz nf tn rch ql f x (spO nx sz nf tn fwq rch ql x S f) (to_ fwq f)
def sp_ok (ql : Nat) (S : sp_T) : Prop := (∀ s, S.1 s < 16) ∧ S.2.2 ≤ ql
theorem up1_all {f : Nat → Nat} {i v b : Nat} (hf : ∀ j, f j < b) (hv : v < b) : ∀ j, up1 f i v j < b := by
  intro j
  simp only [up1]
  split
  · exact hv
  · exact hf j
theorem sp1_ok {tn rch ql nb : Nat} {S : sp_T} (ht : tn < 15) (h : sp_ok ql S) : sp_ok ql (sp1 tn rch ql nb S) := by
  rw [sp1]
  split
  · refine ⟨up1_all h.1 (by omega), ?_⟩
    dsimp only
    split
    · dsimp only; omega
    · exact h.2
  · exact h
theorem spI_ok (nx : Nat → Nat → Nat) (sz : Nat → Nat) (nf : Nat) {tn rch ql : Nat} (fc : Nat) (x : Nat → Nat) {S : sp_T} (ht : tn < 15) (h : sp_ok ql S) : ∀ i, sp_ok ql (spI nx sz nf tn rch ql fc x S i)
  | 0 => h
  | i + 1 => sp1_ok ht (spI_ok nx sz nf fc x ht h i)
theorem spO_ok (nx : Nat → Nat → Nat) (sz : Nat → Nat) (nf : Nat) {tn fwq rch ql : Nat} (x : Nat → Nat) {S : sp_T} (ht : tn < 15) (h : sp_ok ql S) : ∀ i, sp_ok ql (spO nx sz nf tn fwq rch ql x S i)
  | 0 => h
  | i + 1 => spI_ok nx sz nf i x ht (spO_ok nx sz nf x ht h i) _
theorem cp_row {nf : Nat} {Nm x : Nat → Nat} (b : Nat) (h : ∀ i, i < nf → Nm (b + i) = x i) : ∀ i, i < nf → cpy1 Nm b (b + nf) nf (b + nf + i) = x i := by
  intro i hi
  simp only [cpy1]
  rw [if_pos (by omega), show b + (b + nf + i - (b + nf)) = b + i by omega]
  exact h i hi
theorem cp_low {nf : Nat} {Nm : Nat → Nat} (b : Nat) : ∀ j, j < b + nf → cpy1 Nm b (b + nf) nf j = Nm j := by
  intro j hj
  simp only [cpy1]
  rw [if_neg (by omega)]
set_option maxHeartbeats 4000000 in
set_option maxRecDepth 100000 in
theorem c_spread (l : Launch) (D : va_G) (cI cB cS cJ cF cG : ClassId) (tt : Nat → Nat) (sa : Nat → Nat) (nf fwq rch ql NL qa : Nat) (sz : Nat → Nat) (nx : Nat → Nat → Nat) (F : va_W) (Wy : Nat → Nat) (hSt : ∀ (Nm g Q : Nat → Nat) (d : Nat), d ≤ 15 → gw_CI (S := Unit) l yX9_stateAt wsX9_stateAt 0 0 0 0 D (mo_ty cI cB cS cJ cF cG) (zs tt) (sg_ws cI cF sa nf fwq rch ql (.ref (sa 4)) (Wy) (Nm) ((sa 4, .inl (cJ, NL, .inr (.inl (fun j => lN (wd (g) j))))) :: (qa, .inl (cI, ql, .inl (fun j => nI ((Q) j)))) :: F)) [.ref (sa 0), iN d] (fun r _ => r = nI (sa_ sz Nm (d * nf) nf)) (fun _ => sg_ws cI cF sa nf fwq rch ql (.ref (sa 4)) (Wy) (Nm) ((sa 4, .inl (cJ, NL, .inr (.inl (fun j => lN (wd (g) j))))) :: (qa, .inl (cI, ql, .inl (fun j => nI ((Q) j)))) :: F))) (hAd : ∀ (Nm g Q : Nat → Nat) (d fc : Nat), d ≤ 15 → fc < 6 → (∀ i, i < nf → Nm (d * nf + i) < sz i) → gw_CV (S := Unit) l yX9_advance wsX9_advance 0 0 0 0 D (mo_ty cI cB cS cJ cF cG) (zs tt) (sg_ws cI cF sa nf fwq rch ql (.ref (sa 4)) (Wy) (Nm) ((sa 4, .inl (cJ, NL, .inr (.inl (fun j => lN (wd (g) j))))) :: (qa, .inl (cI, ql, .inl (fun j => nI ((Q) j)))) :: F)) [.ref (sa 0), iN d, iN fc] (fun _ => True) (fun _ => sg_ws cI cF sa nf fwq rch ql (.ref (sa 4)) (Wy) (ad_ nx (d * nf) fc Nm nf) ((sa 4, .inl (cJ, NL, .inr (.inl (fun j => lN (wd (g) j))))) :: (qa, .inl (cI, ql, .inl (fun j => nI ((Q) j)))) :: F))) (hSh : ∀ (Nm g Q : Nat → Nat) (s : Nat), s < 2 ^ 31 → gw_CV (S := Unit) l yX9_showState wsX9_showState 0 0 0 0 D (mo_ty cI cB cS cJ cF cG) (zs tt) (sg_ws cI cF sa nf fwq rch ql (.ref (sa 4)) (Wy) (Nm) ((sa 4, .inl (cJ, NL, .inr (.inl (fun j => lN (wd (g) j))))) :: (qa, .inl (cI, ql, .inl (fun j => nI ((Q) j)))) :: F)) [.ref (sa 0), iN s] (fun _ => True) (fun _ => sg_ws cI cF sa nf fwq rch ql (.ref (sa 4)) (Wy) (ss_N sz nf s Nm nf) ((sa 4, .inl (cJ, NL, .inr (.inl (fun j => lN (wd (g) j))))) :: (qa, .inl (cI, ql, .inl (fun j => nI ((Q) j)))) :: F))) (hnf : nf ≤ 4) (hq6 : fwq ≤ 6) (hrch : rch < 14) (hql : ql ≤ 100000) (hNL : NL ≤ 100000) (hz : ∀ i, i < nf → 0 < sz i) (hx : ∀ fc, fc < 6 → ∀ i, i < nf → ∀ v, v < sz i → nx i (6 * v + fc) < sz i) (hsv : ∀ y : Nat → Nat, (∀ i, i < nf → y i < sz i) → sv_ sz y nf < 2 ^ 4 * NL) (Nm g Q : Nat → Nat) (s c : Nat) (hs : s < 2 ^ 4 * NL) (hgs : g s < 15) (hg : ∀ s, g s < 16) (hc : c ≤ ql) : gw_CI (S := Nat → Nat) l yX9_spread wsX9_spread 2 49 0 0 D (mo_ty cI cB cS cJ cF cG) (zs tt) (sg_ws cI cF sa nf fwq rch ql (.ref (sa 4)) (Wy) (Nm) ((sa 4, .inl (cJ, NL, .inr (.inl (fun j => lN (wd (g) j))))) :: (qa, .inl (cI, ql, .inl (fun j => nI ((Q) j)))) :: F)) [.ref (sa 0), iN s, .ref qa, iN c] (fun r _ => r = nI (spO nx sz nf (g s) fwq rch ql (dg_ sz nf s) (g, Q, c) 6).2.2) (fun u => sg_ws cI cF sa nf fwq rch ql (.ref (sa 4)) (Wy) (u) ((sa 4, .inl (cJ, NL, .inr (.inl (fun j => lN (wd ((spO nx sz nf (g s) fwq rch ql (dg_ sz nf s) (g, Q, c) 6).1) j))))) :: (qa, .inl (cI, ql, .inl (fun j => nI (((spO nx sz nf (g s) fwq rch ql (dg_ sz nf s) (g, Q, c) 6).2.1) j)))) :: F)) := by
  refine gw_CI.of (cc := cX9_spread) (maxL := 9) (rt := .int) (zs_ok tt) (by decide) rfl (Nat.le_of_ble_eq_true rfl) ?_
  intro K C hkl hkn hkR hkD hmn ret
  have C : gw_x K cX9_spread RX9 wsX9_spread (mo_ty cI cB cS cJ cF cG) (zs tt) := C
  subst hkl hkD
  have hrc : (kR K).cells = 0 := by rw [hkR]
  have hrs : (kR K).slots = 0 := by rw [hkR]
  refine gw_iload_n C 3 dX9_spread_0 rfl rfl ?_
  refine gw_istore C (lv2 := [(4, iN (c)), (0, .ref (sa 0)), (1, iN (s)), (2, .ref (qa)), (3, iN (c))]) dX9_spread_1 (by omega) rfl ?_
  refine gw_aload_n C 1 dX9_spread_3 rfl rfl ?_
  refine gw_iload_n C 2 dX9_spread_4 rfl rfl ?_
  refine gw_allVI (n := 1) C (c_stored (kl K) (kD K) cI cB cS cJ cF cG tt sa nf fwq rch ql Wy Nm NL g ((qa, .inl (cI, ql, .inl (fun j => nI ((Q) j)))) :: F) hg s hNL (by omega)) 0 rfl rfl rfl gX9_spread_X9_stored rfl (by decide +kernel) dX9_spread_5 (by rw [hkR]; decide) (by rw [hkR]; decide) rfl (Nat.le_of_ble_eq_true rfl) rfl (fun rv v hv => ?_)
  subst hv
  refine gw_istore C (lv2 := [(5, iN (g s)), (4, iN (c)), (0, .ref (sa 0)), (1, iN (s)), (2, .ref (qa)), (3, iN (c))]) dX9_spread_8 (by omega) rfl ?_
  refine gw_aload_n C 2 dX9_spread_10 rfl rfl ?_
  refine gw_iload_n C 3 dX9_spread_11 rfl rfl ?_
  refine gw_allVV (n := 1) C (hSh Nm g Q s (by omega)) 0 rfl rfl rfl gX9_spread_X9_showState rfl (by decide +kernel) dX9_spread_12 (by rw [hkR]; decide) (by rw [hkR]; decide) rfl (Nat.le_of_ble_eq_true rfl) rfl (fun v2 hv2 => ?_)
  refine gw_iconst C 0 dX9_spread_15 (by decide) ?_
  refine gw_istore C (lv2 := [(6, iN (0)), (5, iN (g s)), (4, iN (c)), (0, .ref (sa 0)), (1, iN (s)), (2, .ref (qa)), (3, iN (c))]) dX9_spread_16 (by omega) rfl ?_
  have hdg := dg_lt sz nf s hz
  obtain ⟨x, ex⟩ : ∃ x, x = dg_ sz nf s := ⟨_, rfl⟩
  rw [← ex] at hdg ret
  have hrow : ∀ i, i < nf → ss_N sz nf s Nm nf i = x i := fun i hi => by rw [ex]; exact ss_row sz nf s Nm i hi
  obtain ⟨tn, etn⟩ : ∃ tn, tn = g s := ⟨_, rfl⟩
  rw [← etn] at hgs ret
  rw [← etn]
  generalize ss_N sz nf s Nm nf = Nm1 at hrow ⊢
  have lpF : ∀ (n face : Nat) (N : Nat → Nat), face + n = 6 → (∀ i, i < nf → N i = x i) → gw_G K ([(sa 0, .inr (7, [.ref (sa 1), iN (fwq), iN (rch), iN (ql), .ref (sa 2), .ref (sa 3), .ref (sa 4)])), (sa 1, .inl (cI, 15, .inl (fun j => nI (Wy j)))), (sa 2, .inl (cF, nf, .inr (.inr (.inr (.inr (fq_ sa nf)))))), (sa 3, .inl (cI, 16 * nf, .inl (fun j => nI (N j)))), (sa 4, .inl (cJ, NL, .inr (.inl (fun j => lN ((wd ((spO nx sz nf tn fwq rch ql x (g, Q, c) face).1)) j))))), (qa, .inl (cI, ql, .inl (fun j => nI (((spO nx sz nf tn fwq rch ql x (g, Q, c) face).2.1) j))))] ++ F) 0 0 18 [(6, iN (face)), (5, iN (tn)), (4, iN ((spO nx sz nf tn fwq rch ql x (g, Q, c) face).2.2)), (2, .ref (qa)), (0, .ref (sa 0))] [] := by
    intro n
    induction n with
    | zero =>
      intro face N hj hN
      refine gw_iload C 0 dX9_spread_18 rfl ?_
      refine gw_bipush C 6 dX9_spread_20 (by decide) ?_
      refine gw_icmp_ge C 112 dX9_spread_22 (by decide) (by omega) (by omega) (fun h67 => ?_) (fun h67 => ?_)
      ·
        rw [show face = 6 by omega]
        refine gw_iload C 2 dX9_spread_112 rfl ?_
        exact ret N dX9_spread_114 rfl rfl rfl (Nat.le_refl 0) (Nat.le_refl 0)
      ·
        exact absurd h67 (by omega)
    | succ n ih =>
      intro face N hj hN
      refine gw_iload C 0 dX9_spread_18 rfl ?_
      refine gw_bipush C 6 dX9_spread_20 (by decide) ?_
      refine gw_icmp_ge C 112 dX9_spread_22 (by decide) (by omega) (by omega) (fun h68 => ?_) (fun h68 => ?_)
      ·
        exact absurd h68 (by omega)
      ·
        refine gw_aload_n C 4 dX9_spread_25 rfl rfl ?_
        refine gw_iconst C 0 dX9_spread_26 (by decide) ?_
        refine gw_allVV (n := 1) C (c_copyDown (kl K) (kD K) cI cB cS cJ cF cG tt sa nf fwq rch ql Wy N (.ref (sa 4)) ((sa 4, .inl (cJ, NL, .inr (.inl (fun j => lN (wd ((spO nx sz nf tn fwq rch ql x (g, Q, c) face).1) j))))) :: (qa, .inl (cI, ql, .inl (fun j => nI (((spO nx sz nf tn fwq rch ql x (g, Q, c) face).2.1) j)))) :: F) 0 (by decide) hnf) 0 rfl rfl rfl gX9_spread_X9_copyDown rfl (by decide +kernel) dX9_spread_27 (by rw [hkR]; decide) (by rw [hkR]; decide) rfl (Nat.le_of_ble_eq_true rfl) rfl (fun v3 hv3 => ?_)
        rw [Nat.zero_mul, Nat.zero_add]
        refine gw_iconst C 0 dX9_spread_30 (by decide) ?_
        refine gw_istore C (lv2 := [(7, iN (0)), (6, iN (face)), (5, iN (tn)), (4, iN ((spO nx sz nf tn fwq rch ql x (g, Q, c) face).2.2)), (2, .ref (qa)), (0, .ref (sa 0))]) dX9_spread_31 (by omega) rfl ?_
        have r0 : ∀ i, i < nf → cpy1 N 0 nf nf i = x i := fun i hi => by have := cp_low (nf := nf) (Nm := N) 0 i (by omega); rw [Nat.zero_add] at this; rw [this]; exact hN i hi
        have r1 : ∀ i, i < nf → cpy1 N 0 nf nf (nf + i) = yI nx face x 0 i := fun i hi => by have := cp_row (nf := nf) (Nm := N) (x := x) 0 (fun i hi => by rw [Nat.zero_add]; exact hN i hi) i hi; rw [Nat.zero_add] at this; exact this
        generalize cpy1 N 0 nf nf = N1 at r0 r1 ⊢
        have lpI : ∀ (k i : Nat) (N : Nat → Nat), i + k = to_ fwq face → (∀ i, i < nf → N i = x i) → (∀ j, j < nf → N (nf + j) = yI nx face x i j) → gw_G K ([(sa 0, .inr (7, [.ref (sa 1), iN (fwq), iN (rch), iN (ql), .ref (sa 2), .ref (sa 3), .ref (sa 4)])), (sa 1, .inl (cI, 15, .inl (fun j => nI (Wy j)))), (sa 2, .inl (cF, nf, .inr (.inr (.inr (.inr (fq_ sa nf)))))), (sa 3, .inl (cI, 16 * nf, .inl (fun j => nI (N j)))), (sa 4, .inl (cJ, NL, .inr (.inl (fun j => lN ((wd ((spI nx sz nf tn rch ql face x (spO nx sz nf tn fwq rch ql x (g, Q, c) face) i).1)) j))))), (qa, .inl (cI, ql, .inl (fun j => nI (((spI nx sz nf tn rch ql face x (spO nx sz nf tn fwq rch ql x (g, Q, c) face) i).2.1) j))))] ++ F) 0 0 33 [(7, iN (i)), (6, iN (face)), (5, iN (tn)), (4, iN ((spI nx sz nf tn rch ql face x (spO nx sz nf tn fwq rch ql x (g, Q, c) face) i).2.2)), (2, .ref (qa)), (0, .ref (sa 0))] [] := by
          intro k
          induction k with
          | zero =>
            intro i N hk hN0 hN1
            have hto : to_ fwq face ≤ 3 := by rw [to_]; split <;> omega
            refine gw_iload C 0 dX9_spread_33 rfl ?_
            refine gw_aload_n C 5 dX9_spread_35 rfl rfl ?_
            refine gw_iload C 1 dX9_spread_36 rfl ?_
            refine gw_allVI (n := 1) C (c_turnsOf (kl K) (kD K) cI cB cS cJ cF cG tt sa nf fwq rch ql Wy N (.ref (sa 4)) ((sa 4, .inl (cJ, NL, .inr (.inl (fun j => lN (wd ((spI nx sz nf tn rch ql face x (spO nx sz nf tn fwq rch ql x (g, Q, c) face) i).1) j))))) :: (qa, .inl (cI, ql, .inl (fun j => nI (((spI nx sz nf tn rch ql face x (spO nx sz nf tn fwq rch ql x (g, Q, c) face) i).2.1) j)))) :: F) face (by omega) hq6) 0 rfl rfl rfl gX9_spread_X9_turnsOf rfl (by decide +kernel) dX9_spread_38 (by rw [hkR]; decide) (by rw [hkR]; decide) rfl (Nat.le_of_ble_eq_true rfl) rfl (fun rw w hw => ?_)
            subst hw
            refine gw_icmp_ge C 106 dX9_spread_41 (by decide) (by omega) (by omega) (fun h69 => ?_) (fun h69 => ?_)
            ·
              rw [show i = to_ fwq face by omega]
              refine gw_ws (ws2 := [(sa 0, .inr (7, [.ref (sa 1), iN (fwq), iN (rch), iN (ql), .ref (sa 2), .ref (sa 3), .ref (sa 4)])), (sa 1, .inl (cI, 15, .inl (fun j => nI (Wy j)))), (sa 2, .inl (cF, nf, .inr (.inr (.inr (.inr (fq_ sa nf)))))), (sa 3, .inl (cI, 16 * nf, .inl (fun j => nI (N j)))), (sa 4, .inl (cJ, NL, .inr (.inl (fun j => lN ((wd ((spO nx sz nf tn fwq rch ql x (g, Q, c) (face + 1)).1)) j))))), (qa, .inl (cI, ql, .inl (fun j => nI (((spO nx sz nf tn fwq rch ql x (g, Q, c) (face + 1)).2.1) j))))] ++ F) rfl ?_
              refine gw_iinc C (v := nI (face + 1)) (lv2 := [(6, iN (face + 1)), (7, iN (to_ fwq face)), (5, iN (tn)), (4, iN ((spO nx sz nf tn fwq rch ql x (g, Q, c) (face + 1)).2.2)), (2, .ref (qa)), (0, .ref (sa 0))]) 1 dX9_spread_106 rfl (nI_add _ _) (by omega) rfl ?_
              refine gw_goto C 18 dX9_spread_109 (by decide) ?_
              refine gw_lv (lv2 := [(6, iN (face + 1)), (5, iN (tn)), (4, iN ((spO nx sz nf tn fwq rch ql x (g, Q, c) (face + 1)).2.2)), (2, .ref (qa)), (0, .ref (sa 0))]) [0, 2, 3, 4, 5] rfl ?_
              exact ih (face + 1) N (by omega) hN0
            ·
              exact absurd h69 (by omega)
          | succ k ihk =>
            intro i N hk hN0 hN1
            have hto : to_ fwq face ≤ 3 := by rw [to_]; split <;> omega
            refine gw_iload C 0 dX9_spread_33 rfl ?_
            refine gw_aload_n C 5 dX9_spread_35 rfl rfl ?_
            refine gw_iload C 1 dX9_spread_36 rfl ?_
            refine gw_allVI (n := 1) C (c_turnsOf (kl K) (kD K) cI cB cS cJ cF cG tt sa nf fwq rch ql Wy N (.ref (sa 4)) ((sa 4, .inl (cJ, NL, .inr (.inl (fun j => lN (wd ((spI nx sz nf tn rch ql face x (spO nx sz nf tn fwq rch ql x (g, Q, c) face) i).1) j))))) :: (qa, .inl (cI, ql, .inl (fun j => nI (((spI nx sz nf tn rch ql face x (spO nx sz nf tn fwq rch ql x (g, Q, c) face) i).2.1) j)))) :: F) face (by omega) hq6) 0 rfl rfl rfl gX9_spread_X9_turnsOf rfl (by decide +kernel) dX9_spread_38 (by rw [hkR]; decide) (by rw [hkR]; decide) rfl (Nat.le_of_ble_eq_true rfl) rfl (fun rw w hw => ?_)
            subst hw
            refine gw_icmp_ge C 106 dX9_spread_41 (by decide) (by omega) (by omega) (fun h70 => ?_) (fun h70 => ?_)
            ·
              exact absurd h70 (by omega)
            ·
              have hyl := yI_lt (hx face (by omega)) hdg i
              have hyl2 := yI_lt (hx face (by omega)) hdg (i + 1)
              refine gw_aload_n C 5 dX9_spread_44 rfl rfl ?_
              refine gw_iconst C 1 dX9_spread_45 (by decide) ?_
              refine gw_iload C 1 dX9_spread_46 rfl ?_
              refine gw_allVV (n := 2) C (hAd N _ _ 1 face (by decide) (by omega) (fun j hj => by rw [Nat.one_mul, hN1 j hj]; exact hyl j hj)) 0 rfl rfl rfl gX9_spread_X9_advance rfl (by decide +kernel) dX9_spread_48 (by rw [hkR]; decide) (by rw [hkR]; decide) rfl (Nat.le_of_ble_eq_true rfl) rfl (fun w2 hw2 => ?_)
              rw [Nat.one_mul]
              have hA0 : ∀ j, j < nf → ad_ nx nf face N nf j = x j := fun j hj => by rw [ad_fix nx nf face N nf j (by omega)]; exact hN0 j hj
              have hA1 : ∀ j, j < nf → ad_ nx nf face N nf (nf + j) = yI nx face x (i + 1) j := fun j hj => by rw [ad_at nx nf face N nf j hj, hN1 j hj]; rfl
              generalize ad_ nx nf face N nf = N2 at hA0 hA1 ⊢
              refine gw_aload_n C 5 dX9_spread_51 rfl rfl ?_
              refine gw_iconst C 1 dX9_spread_52 (by decide) ?_
              refine gw_allVI (n := 1) C (hSt N2 _ _ 1 (by decide)) 0 rfl rfl rfl gX9_spread_X9_stateAt rfl (by decide +kernel) dX9_spread_53 (by rw [hkR]; decide) (by rw [hkR]; decide) rfl (Nat.le_of_ble_eq_true rfl) rfl (fun rw3 w3 hw3 => ?_)
              subst hw3
              rw [Nat.one_mul, sa_sv sz N2 nf nf hA1]
              have hnb := hsv _ hyl2
              have hsp := spI_ok nx sz nf (rch := rch) face x hgs (spO_ok nx sz nf (fwq := fwq) (rch := rch) x hgs (show sp_ok ql (g, Q, c) from ⟨hg, hc⟩) face) i
              have eS1 : (spI nx sz nf tn rch ql face x (spO nx sz nf tn fwq rch ql x (g, Q, c) face) (i + 1)) = sp1 tn rch ql (sv_ sz (yI nx face x (i + 1)) nf) (spI nx sz nf tn rch ql face x (spO nx sz nf tn fwq rch ql x (g, Q, c) face) i) := rfl
              have ihq := ihk (i + 1) N2 (by omega) hA0 hA1
              rw [eS1] at ihq
              generalize sv_ sz (yI nx face x (i + 1)) nf = nb at hnb ihq ⊢
              generalize (spI nx sz nf tn rch ql face x (spO nx sz nf tn fwq rch ql x (g, Q, c) face) i) = S at hsp ihq ⊢
              obtain ⟨hs1, hs2⟩ := hsp
              refine gw_istore C (lv2 := [(8, iN (nb)), (7, iN (i)), (6, iN (face)), (5, iN (tn)), (4, iN (S.2.2)), (2, .ref (qa)), (0, .ref (sa 0))]) dX9_spread_56 (by omega) rfl ?_
              refine gw_aload_n C 6 dX9_spread_58 rfl rfl ?_
              refine gw_iload C 0 dX9_spread_59 rfl ?_
              refine gw_allVI (n := 1) C (c_stored (kl K) (kD K) cI cB cS cJ cF cG tt sa nf fwq rch ql Wy N2 NL S.1 ((qa, .inl (cI, ql, .inl (fun j => nI ((S.2.1) j)))) :: F) hs1 nb hNL (by omega)) 0 rfl rfl rfl gX9_spread_X9_stored rfl (by decide +kernel) dX9_spread_61 (by rw [hkR]; decide) (by rw [hkR]; decide) rfl (Nat.le_of_ble_eq_true rfl) rfl (fun rw4 w4 hw4 => ?_)
              subst hw4
              have hs3 := hs1 nb
              refine gw_if_ne C 100 dX9_spread_64 (by decide) (by omega) (fun h71 => ?_) (fun h71 => ?_)
              ·
                refine gw_iinc C (v := nI (i + 1)) (lv2 := [(7, iN (i + 1)), (8, iN (nb)), (6, iN (face)), (5, iN (tn)), (4, iN (S.2.2)), (2, .ref (qa)), (0, .ref (sa 0))]) 1 dX9_spread_100 rfl (nI_add _ _) (by omega) rfl ?_
                refine gw_goto C 33 dX9_spread_103 (by decide) ?_
                refine gw_lv (lv2 := [(7, iN (i + 1)), (6, iN (face)), (5, iN (tn)), (4, iN (S.2.2)), (2, .ref (qa)), (0, .ref (sa 0))]) [0, 2, 3, 4, 5, 6] rfl ?_
                rw [sp1, if_neg h71] at ihq
                exact ihq
              ·
                refine gw_aload_n C 6 dX9_spread_67 rfl rfl ?_
                refine gw_iload C 0 dX9_spread_68 rfl ?_
                refine gw_iload C 3 dX9_spread_70 rfl ?_
                refine gw_allVV (n := 2) C (c_store (kl K) (kD K) cI cB cS cJ cF cG tt sa nf fwq rch ql Wy N2 NL S.1 ((qa, .inl (cI, ql, .inl (fun j => nI ((S.2.1) j)))) :: F) hs1 nb hNL (by omega) tn hgs h71) 0 rfl rfl rfl gX9_spread_X9_store rfl (by decide +kernel) dX9_spread_72 (by rw [hkR]; decide) (by rw [hkR]; decide) rfl (Nat.le_of_ble_eq_true rfl) rfl (fun w5 hw5 => ?_)
                refine gw_iload C 3 dX9_spread_75 rfl ?_
                refine gw_aload_n C 6 dX9_spread_77 rfl rfl ?_
                refine gw_get C 0 2 in_X9_spread_X9 dX9_spread_78 lk_X9_spread_15 rfl rfl (by decide) rfl rfl ?_
                refine gw_icmp_ge C 100 dX9_spread_81 (by decide) (by omega) (by omega) (fun h72 => ?_) (fun h72 => ?_)
                ·
                  refine gw_iinc C (v := nI (i + 1)) (lv2 := [(7, iN (i + 1)), (8, iN (nb)), (6, iN (face)), (5, iN (tn)), (4, iN (S.2.2)), (2, .ref (qa)), (0, .ref (sa 0))]) 1 dX9_spread_100 rfl (nI_add _ _) (by omega) rfl ?_
                  refine gw_goto C 33 dX9_spread_103 (by decide) ?_
                  refine gw_lv (lv2 := [(7, iN (i + 1)), (6, iN (face)), (5, iN (tn)), (4, iN (S.2.2)), (2, .ref (qa)), (0, .ref (sa 0))]) [0, 2, 3, 4, 5, 6] rfl ?_
                  rw [sp1, if_pos h71, if_neg (by omega)] at ihq
                  exact ihq
                ·
                  refine gw_iload C 4 dX9_spread_84 rfl ?_
                  refine gw_aload_n C 5 dX9_spread_86 rfl rfl ?_
                  refine gw_alen C 5 0 (ql) dX9_spread_87 rfl rfl rfl ?_
                  refine gw_icmp_ge C 100 dX9_spread_88 (by decide) (by omega) (by omega) (fun h73 => ?_) (fun h73 => ?_)
                  ·
                    refine gw_iinc C (v := nI (i + 1)) (lv2 := [(7, iN (i + 1)), (8, iN (nb)), (6, iN (face)), (5, iN (tn)), (4, iN (S.2.2)), (2, .ref (qa)), (0, .ref (sa 0))]) 1 dX9_spread_100 rfl (nI_add _ _) (by omega) rfl ?_
                    refine gw_goto C 33 dX9_spread_103 (by decide) ?_
                    refine gw_lv (lv2 := [(7, iN (i + 1)), (6, iN (face)), (5, iN (tn)), (4, iN (S.2.2)), (2, .ref (qa)), (0, .ref (sa 0))]) [0, 2, 3, 4, 5, 6] rfl ?_
                    rw [sp1, if_pos h71, if_neg (by omega)] at ihq
                    exact ihq
                  ·
                    refine gw_aload_n C 5 dX9_spread_91 rfl rfl ?_
                    refine gw_iload C 4 dX9_spread_92 rfl ?_
                    refine gw_iload C 0 dX9_spread_94 rfl ?_
                    refine gw_istN C (ws2 := [(sa 0, .inr (7, [.ref (sa 1), iN (fwq), iN (rch), iN (ql), .ref (sa 2), .ref (sa 3), .ref (sa 4)])), (sa 1, .inl (cI, 15, .inl (fun j => nI (Wy j)))), (sa 2, .inl (cF, nf, .inr (.inr (.inr (.inr (fq_ sa nf)))))), (sa 3, .inl (cI, 16 * nf, .inl (fun j => nI (N2 j)))), (sa 4, .inl (cJ, NL, .inr (.inl (fun j => lN ((wd (up1 S.1 nb (tn + 1))) j))))), (qa, .inl (cI, ql, .inl (fun j => nI ((up1 (S.2.1) (S.2.2) (nb)) j))))] ++ F) 5 0 dX9_spread_96 rfl rfl (by first | decide | omega) (by omega) rfl ?_
                    refine gw_iinc C (v := nI (S.2.2 + 1)) (lv2 := [(4, iN (S.2.2 + 1)), (8, iN (nb)), (7, iN (i)), (6, iN (face)), (5, iN (tn)), (2, .ref (qa)), (0, .ref (sa 0))]) 4 dX9_spread_97 rfl (nI_add _ _) (by omega) rfl ?_
                    refine gw_iinc C (v := nI (i + 1)) (lv2 := [(7, iN (i + 1)), (4, iN (S.2.2 + 1)), (8, iN (nb)), (6, iN (face)), (5, iN (tn)), (2, .ref (qa)), (0, .ref (sa 0))]) 2 dX9_spread_100 rfl (nI_add _ _) (by omega) rfl ?_
                    refine gw_goto C 33 dX9_spread_103 (by decide) ?_
                    refine gw_lv (lv2 := [(7, iN (i + 1)), (6, iN (face)), (5, iN (tn)), (4, iN (S.2.2 + 1)), (2, .ref (qa)), (0, .ref (sa 0))]) [0, 3, 4, 1, 5, 6] rfl ?_
                    rw [sp1, if_pos h71, if_pos ⟨h72, h73⟩] at ihq
                    exact ihq
        refine gw_lv (lv2 := [(7, iN (0)), (6, iN (face)), (5, iN (tn)), (4, iN ((spO nx sz nf tn fwq rch ql x (g, Q, c) face).2.2)), (2, .ref (qa)), (0, .ref (sa 0))]) [0, 1, 2, 3, 4, 5] rfl ?_
        exact lpI (to_ fwq face) 0 N1 (by omega) r0 r1
  refine gw_lv (lv2 := [(6, iN (0)), (5, iN (tn)), (4, iN (c)), (2, .ref (qa)), (0, .ref (sa 0))]) [0, 1, 2, 5, 3] rfl ?_
  exact lpF 6 0 Nm1 rfl hrow
