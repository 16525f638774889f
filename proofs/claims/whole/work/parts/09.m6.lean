/-- a whole array replaced -/
def mo_a (N : Nat → Nat → Nat) (k : Nat) (f : Nat → Nat) : Nat → Nat → Nat := fun k' j => if k' = k then f j else N k' j
def up1 (f : Nat → Nat) (i v : Nat) : Nat → Nat := fun j => if j = i then v else f j
theorem mo_up_a {N : Nat → Nat → Nat} {k i v : Nat} {f : Nat → Nat} : mo_up (mo_a N k f) k i v = mo_a N k (up1 f i v) := by
  funext k' j
  simp only [mo_up, mo_a, up1]
  split <;> simp
theorem mo_a_self (N : Nat → Nat → Nat) (k : Nat) : mo_a N k (N k) = N := by
  funext k' j
  simp only [mo_a]
  split
  · rename_i h; rw [h]
  · rfl
theorem mo_up_0 {N : Nat → Nat → Nat} {k i v : Nat} : mo_up N k i v = mo_a N k (up1 (N k) i v) := by
  funext k' j
  simp only [mo_up, mo_a, up1]
theorem mo_a_ne {N : Nat → Nat → Nat} {k k' : Nat} {f : Nat → Nat} (h : k' ≠ k) : mo_a N k f k' = N k' := by funext j; simp [mo_a, h]
theorem mo_a_eq {N : Nat → Nat → Nat} {k : Nat} {f : Nat → Nat} : mo_a N k f k = f := by funext j; simp [mo_a]
def fl1 (v : Nat) (f : Nat → Nat) (i : Nat) : Nat → Nat := fun j => if j < i then v else f j
theorem fl1_0 (v : Nat) (f : Nat → Nat) : fl1 v f 0 = f := by funext j; simp [fl1]
theorem fl1_s (v : Nat) (f : Nat → Nat) (i : Nat) : up1 (fl1 v f i) i v = fl1 v f (i + 1) := by
  funext j
  simp only [up1, fl1]
  by_cases h : j = i
  · subst h; simp
  · have : (j < i + 1) = (j < i) := by simp; omega
    simp [h, this]
/-- one round of a search by levels -/
def bf_s (d x : Nat) (S : (Nat → Nat) × Nat) : (Nat → Nat) × Nat := if S.1 x = 100 then (up1 S.1 x (d + 1), 1) else S
def bf_t1 (nx : Nat → Nat → Nat) (al : Nat → Nat) (d s : Nat) : Nat → (Nat → Nat) × Nat → (Nat → Nat) × Nat
  | 0, S => S
  | t + 1, S => if (bf_t1 nx al d s t S).1 s = d ∧ al t ≠ 0 then bf_s d (nx s t) (bf_t1 nx al d s t S) else bf_t1 nx al d s t S
def bf_r1 (nx : Nat → Nat → Nat) (al : Nat → Nat) (d : Nat) : Nat → (Nat → Nat) × Nat → (Nat → Nat) × Nat
  | 0, S => S
  | s + 1, S => bf_t1 nx al d s 18 (bf_r1 nx al d s S)
def bf_l1 (nx : Nat → Nat → Nat) (al : Nat → Nat) (n : Nat) (f : Nat → Nat) : Nat → (Nat → Nat) × Nat
  | 0 => (f, 1)
  | d + 1 => bf_r1 nx al d n ((bf_l1 nx al n f d).1, 0)
theorem bf_t1_stop (nx : Nat → Nat → Nat) (al : Nat → Nat) (d s : Nat) (S : (Nat → Nat) × Nat) (t : Nat) (h : (bf_t1 nx al d s t S).1 s ≠ d) : ∀ k, bf_t1 nx al d s (t + k) S = bf_t1 nx al d s t S := by
  intro k
  induction k with
  | zero => rfl
  | succ k ih => rw [Nat.add_succ, bf_t1, ih, if_neg (fun q => h q.1)]
/-- what stands in the array stays small -/
def bf_ok (S : (Nat → Nat) × Nat) : Prop := (∀ j, S.1 j ≤ 100) ∧ S.2 ≤ 1
theorem bf_s_ok {d x : Nat} {S : (Nat → Nat) × Nat} (hd : d < 100) (h : bf_ok S) : bf_ok (bf_s d x S) := by
  rw [bf_s]
  split
  · refine ⟨fun j => ?_, Nat.le_refl _⟩
    simp only [up1]
    split
    · omega
    · exact h.1 j
  · exact h
theorem bf_t1_ok (nx : Nat → Nat → Nat) (al : Nat → Nat) {d s : Nat} {S : (Nat → Nat) × Nat} (hd : d < 100) (h : bf_ok S) : ∀ t, bf_ok (bf_t1 nx al d s t S) := by
  intro t
  induction t with
  | zero => exact h
  | succ t ih => rw [bf_t1]; split; exact bf_s_ok hd ih; exact ih
theorem bf_r1_ok (nx : Nat → Nat → Nat) (al : Nat → Nat) {d : Nat} {S : (Nat → Nat) × Nat} (hd : d < 100) (h : bf_ok S) : ∀ s, bf_ok (bf_r1 nx al d s S) := by
  intro s
  induction s with
  | zero => exact h
  | succ s ih => rw [bf_r1]; exact bf_t1_ok nx al hd ih 18
theorem bf_l1_ok (nx : Nat → Nat → Nat) (al : Nat → Nat) {n : Nat} {f : Nat → Nat} (h : ∀ j, f j ≤ 100) : ∀ d, d ≤ 100 → bf_ok (bf_l1 nx al n f d) := by
  intro d
  induction d with
  | zero => intro _; exact ⟨h, Nat.le_refl _⟩
  | succ d ih =>
    intro hd
    have q : bf_ok ((bf_l1 nx al n f d).1, 0) := ⟨(ih (by omega)).1, Nat.zero_le 1⟩
    rw [bf_l1]
    exact bf_r1_ok nx al (show d < 100 by omega) q n
/-- makeFirst's neighbour -/
def mo_nx1 (N : Nat → Nat → Nat) (s t : Nat) : Nat → Nat
  | 0 => 0
  | p + 1 => mo_nx1 N s t p ||| ((s / 2 ^ (N 12 (12 * t + p)) &&& 1) ^^^ N 13 (12 * t + p)) * 2 ^ p
theorem bf_x1 {x y p : Nat} (hy : y < 2) (hp : p < 12) : ((x &&& 1) ^^^ y) * 2 ^ p < 2 ^ 12 := by
  have h1 : x &&& 1 ≤ 1 := Nat.and_le_right
  have h2 : (x &&& 1) ^^^ y < 2 ^ 1 := Nat.xor_lt_two_pow (by omega) (by omega)
  have h3 : 2 ^ p ≤ 2 ^ 11 := Nat.pow_le_pow_right (by decide) (by omega)
  calc ((x &&& 1) ^^^ y) * 2 ^ p ≤ 1 * 2 ^ 11 := Nat.mul_le_mul (by omega) h3
    _ < 2 ^ 12 := by decide
theorem mo_nx1_lt (N : Nat → Nat → Nat) (s t : Nat) (h : ∀ j, j < 216 → N 13 j < 2) (ht : t < 18) : ∀ p, p ≤ 12 → mo_nx1 N s t p < 2 ^ 12 := by
  intro p
  induction p with
  | zero => intro _; exact Nat.two_pow_pos 12
  | succ p ih => intro hp; rw [mo_nx1]; exact Nat.or_lt_two_pow (ih (by omega)) (bf_x1 (h _ (by omega)) (by omega))
def bf_one (_ : Nat) : Nat := 1
def mo_near1 (N : Nat → Nat → Nat) : Nat → (Nat → Nat) × Nat := bf_l1 (fun s t => mo_nx1 N s t 12) bf_one 4096 (up1 (fl1 100 (N 20) 4096) 0 0)
theorem in_X11_makeFirst : ∀ w ∈ wsX110, w ∈ wsX11_makeFirst := fun _ h => List.mem_cons_of_mem _ (List.mem_append_right _ h)
theorem lk_X11_makeFirst_46 : Cond.fieldLink RX11 46 "StageCubeModel" "edgeFrom" "[I" ∈ wsX11_makeFirst := by decide +kernel
theorem lk_X11_makeFirst_49 : Cond.fieldLink RX11 49 "StageCubeModel" "edgeMore" "[I" ∈ wsX11_makeFirst := by decide +kernel
theorem lk_X11_makeFirst_58 : Cond.fieldLink RX11 58 "StageCubeModel" "near1" "[B" ∈ wsX11_makeFirst := by decide +kernel
set_option maxHeartbeats 4000000 in
set_option maxRecDepth 100000 in
theorem c_makeFirst (l : Launch) (D : va_G) (cI cB cS cJ cF cG : ClassId) (zz : (Nat → Prop) → State → Heap → Prop) (hz : gw_zT zz) (o : Nat) (ad : Nat → Nat) (N : Nat → Nat → Nat) (hN : ∀ j, N 20 j ≤ 100) (hg : ∀ j, j < 216 → N 12 j < 12) (hh : ∀ j, j < 216 → N 13 j < 2) (E : Nat) (hE : E < 99) (hE0 : (mo_near1 N E).2 = 0) (hE1 : ∀ d, d < E → (mo_near1 N d).2 ≠ 0) : gw_CV l yX11_makeFirst wsX11_makeFirst 0 0 0 0 D (mo_ty cI cB cS cJ cF cG) zz (mo_ws o ad cI cB cS N) [.ref o] (fun N' => N' = mo_a N 20 (mo_near1 N E).1) (fun N' => mo_ws o ad cI cB cS N') := by
  refine gw_CV.of (cc := cX11_makeFirst) (maxL := 7) hz (by decide) rfl (Nat.le_of_ble_eq_true rfl) ?_
  intro K C hkl hkn hkR hkD hmn ret
  have C : gw_x K cX11_makeFirst RX11 wsX11_makeFirst (mo_ty cI cB cS cJ cF cG) zz := C
  refine gw_iconst C 0 dX11_makeFirst_0 (by decide) ?_
  refine gw_istore_n C (lv2 := [(1, iN (0)), (0, .ref (o))]) dX11_makeFirst_1 rfl (by omega) rfl ?_
  rw [show mo_ws o ad cI cB cS N = mo_ws o ad cI cB cS (mo_a N 20 (fl1 100 (N 20) 0)) by rw [fl1_0, mo_a_self]]
  have lp : ∀ ni i : Nat, i + ni = 4096 → gw_G K (mo_ws o ad cI cB cS (mo_a N 20 (fl1 100 (N 20) i))) 0 0 2 [(1, iN (i)), (0, .ref (o))] [] := by
    intro ni
    induction ni with
    | zero =>
      intro i hii
      refine gw_iload_n C 0 dX11_makeFirst_2 rfl rfl ?_
      refine gw_sipush C 4096 dX11_makeFirst_3 (by decide) ?_
      refine gw_icmp_ge C 23 dX11_makeFirst_6 (by decide) (by omega) (by omega) (fun h61 => ?_) (fun h61 => ?_)
      ·
        rw [show i = 4096 by omega]
        refine gw_aload_n C 1 dX11_makeFirst_23 rfl rfl ?_
        refine gw_get C 0 20 in_X11_makeFirst dX11_makeFirst_24 lk_X11_makeFirst_58 rfl rfl (by decide) rfl rfl ?_
        refine gw_iconst C 0 dX11_makeFirst_27 (by decide) ?_
        refine gw_iconst C 0 dX11_makeFirst_28 (by decide) ?_
        refine gw_bst C 17 1 dX11_makeFirst_29 rfl rfl (by decide) (by omega) (by decide) mo_st20 ?_
        refine gw_iconst C 1 dX11_makeFirst_30 (by decide) ?_
        refine gw_istore_n C (lv2 := [(1, iN (1)), (0, .ref (o))]) dX11_makeFirst_31 rfl (by omega) rfl ?_
        refine gw_iconst C 0 dX11_makeFirst_32 (by decide) ?_
        refine gw_istore_n C (lv2 := [(2, iN (0)), (1, iN (1)), (0, .ref (o))]) dX11_makeFirst_33 rfl (by omega) rfl ?_
        rw [mo_up_a]
        have hok : ∀ d, d ≤ 100 → bf_ok (mo_near1 N d) := bf_l1_ok _ _ (fun j => by simp only [up1, fl1]; split; omega; split; omega; exact hN j)
        have lpd : ∀ nd d : Nat, d + nd = E → gw_G K (mo_ws o ad cI cB cS (mo_a N 20 (mo_near1 N d).1)) 0 0 34 [(2, iN d), (1, iN (mo_near1 N d).2), (0, .ref o)] [] := by
          intro nd
          induction nd with
          | zero =>
            intro d hd
            have hd2 : d = E := by omega
            subst hd2
            rw [hE0]
            refine gw_iload_n C 1 dX11_makeFirst_34 rfl rfl ?_
            refine gw_if_eq C 170 dX11_makeFirst_35 (by decide) (by omega) (fun h62 => ?_) (fun h62 => ?_)
            ·
              exact ret (mo_a N 20 (mo_near1 N d).1) dX11_makeFirst_170 rfl rfl (Nat.le_refl 0) (Nat.le_refl 0)
            ·
              exact absurd h62 (by omega)
          | succ nd ihd =>
            intro d hd
            have hm := hE1 d (by omega)
            have hk := hok d (by omega)
            have hk2 := hk.2
            obtain ⟨S0, eS0⟩ : ∃ S0, S0 = ((mo_near1 N d).1, 0) := ⟨_, rfl⟩
            have ok0 : bf_ok S0 := by rw [eS0]; exact ⟨hk.1, Nat.zero_le _⟩
            refine gw_iload_n C 1 dX11_makeFirst_34 rfl rfl ?_
            refine gw_if_eq C 170 dX11_makeFirst_35 (by decide) (by omega) (fun h63 => ?_) (fun h63 => ?_)
            ·
              exact absurd h63 hm
            ·
              refine gw_iconst C 0 dX11_makeFirst_38 (by decide) ?_
              refine gw_istore_n C (lv2 := [(1, iN (0)), (2, iN (d)), (0, .ref (o))]) dX11_makeFirst_39 rfl (by omega) rfl ?_
              refine gw_iconst C 0 dX11_makeFirst_40 (by decide) ?_
              refine gw_istore_n C (lv2 := [(3, iN (0)), (1, iN (0)), (2, iN (d)), (0, .ref (o))]) dX11_makeFirst_41 rfl (by omega) rfl ?_
              rw [show (mo_near1 N d).1 = (bf_r1 (fun s t => mo_nx1 N s t 12) bf_one d 0 S0).1 by rw [eS0]; rfl]
              have e02 : (bf_r1 (fun s t => mo_nx1 N s t 12) bf_one d 0 S0).2 = 0 := by rw [eS0]; rfl
              refine gw_lv (lv2 := [(3, iN (0)), (1, iN ((bf_r1 (fun s t => mo_nx1 N s t 12) bf_one d 0 S0).2)), (2, iN (d)), (0, .ref (o))]) [0, 1, 2, 3] (by rw [e02]; rfl) ?_
              have lps : ∀ ns s : Nat, s + ns = 4096 → gw_G K (mo_ws o ad cI cB cS (mo_a N 20 ((bf_r1 (fun s t => mo_nx1 N s t 12) bf_one d s S0).1))) 0 0 42 [(3, iN (s)), (2, iN (d)), (1, iN ((bf_r1 (fun s t => mo_nx1 N s t 12) bf_one d s S0).2)), (0, .ref (o))] [] := by
                intro ns
                induction ns with
                | zero =>
                  intro s his
                  refine gw_iload_n C 0 dX11_makeFirst_42 rfl rfl ?_
                  refine gw_sipush C 4096 dX11_makeFirst_43 (by decide) ?_
                  refine gw_icmp_ge C 164 dX11_makeFirst_46 (by decide) (by omega) (by omega) (fun h64 => ?_) (fun h64 => ?_)
                  ·
                    rw [show s = 4096 by omega]
                    refine gw_iinc C (v := nI (d + 1)) (lv2 := [(2, iN (d + 1)), (3, iN (4096)), (1, iN ((bf_r1 (fun s t => mo_nx1 N s t 12) bf_one d 4096 S0).2)), (0, .ref (o))]) 1 dX11_makeFirst_164 rfl (nI_add _ _) (by omega) rfl ?_
                    refine gw_goto C 34 dX11_makeFirst_167 (by decide) ?_
                    refine gw_lv (lv2 := [(2, iN (d + 1)), (1, iN ((bf_r1 (fun s t => mo_nx1 N s t 12) bf_one d 4096 S0).2)), (0, .ref (o))]) [0, 2, 3] rfl ?_
                    have k := ihd (d + 1) (by omega)
                    rw [show mo_near1 N (d + 1) = bf_r1 (fun s t => mo_nx1 N s t 12) bf_one d 4096 S0 by rw [eS0]; rfl] at k
                    exact k
                  ·
                    exact absurd h64 (by omega)
                | succ ns ihs =>
                  intro s his
                  refine gw_iload_n C 0 dX11_makeFirst_42 rfl rfl ?_
                  refine gw_sipush C 4096 dX11_makeFirst_43 (by decide) ?_
                  refine gw_icmp_ge C 164 dX11_makeFirst_46 (by decide) (by omega) (by omega) (fun h65 => ?_) (fun h65 => ?_)
                  ·
                    exact absurd h65 (by omega)
                  ·
                    have okr := bf_r1_ok (fun s t => mo_nx1 N s t 12) bf_one (d := d) (by omega) ok0 s
                    obtain ⟨S1, eS1⟩ : ∃ S1, S1 = bf_r1 (fun s t => mo_nx1 N s t 12) bf_one d s S0 := ⟨_, rfl⟩
                    rw [← eS1] at okr
                    rw [← eS1]
                    refine gw_iconst C 0 dX11_makeFirst_49 (by decide) ?_
                    refine gw_istore C (lv2 := [(4, iN (0)), (3, iN (s)), (2, iN (d)), (1, iN (S1.2)), (0, .ref (o))]) dX11_makeFirst_50 (by omega) rfl ?_
                    have hx : ∀ t lv4, bf_t1 (fun s t => mo_nx1 N s t 12) bf_one d s 18 S1 = bf_t1 (fun s t => mo_nx1 N s t 12) bf_one d s t S1 → gw_G K (mo_ws o ad cI cB cS (mo_a N 20 (bf_t1 (fun s t => mo_nx1 N s t 12) bf_one d s t S1).1)) 0 0 158 [(4, iN lv4), (3, iN s), (2, iN d), (1, iN (bf_t1 (fun s t => mo_nx1 N s t 12) bf_one d s t S1).2), (0, .ref o)] [] := by
                      intro t lv4 e
                      refine gw_iinc C (v := nI (s + 1)) (lv2 := [(3, iN (s + 1)), (4, iN (lv4)), (2, iN (d)), (1, iN ((bf_t1 (fun s t => mo_nx1 N s t 12) bf_one d s t S1).2)), (0, .ref (o))]) 1 dX11_makeFirst_158 rfl (nI_add _ _) (by omega) rfl ?_
                      refine gw_goto C 42 dX11_makeFirst_161 (by decide) ?_
                      refine gw_lv (lv2 := [(3, iN (s + 1)), (2, iN (d)), (1, iN ((bf_t1 (fun s t => mo_nx1 N s t 12) bf_one d s t S1).2)), (0, .ref (o))]) [0, 2, 3, 4] rfl ?_
                      have k := ihs (s + 1) (by omega)
                      rw [bf_r1, ← eS1, e] at k
                      exact k
                    have lpt : ∀ nt t : Nat, t + nt = 18 → gw_G K (mo_ws o ad cI cB cS (mo_a N 20 ((bf_t1 (fun s t => mo_nx1 N s t 12) bf_one d s t S1).1))) 0 0 52 [(4, iN (t)), (3, iN (s)), (2, iN (d)), (1, iN ((bf_t1 (fun s t => mo_nx1 N s t 12) bf_one d s t S1).2)), (0, .ref (o))] [] := by
                      intro nt
                      induction nt with
                      | zero =>
                        intro t hit
                        refine gw_iload C 0 dX11_makeFirst_52 rfl ?_
                        refine gw_bipush C 18 dX11_makeFirst_54 (by decide) ?_
                        refine gw_icmp_ge C 158 dX11_makeFirst_56 (by decide) (by omega) (by omega) (fun h66 => ?_) (fun h66 => ?_)
                        ·
                          rw [show t = 18 by omega]
                          exact hx 18 18 rfl
                        ·
                          exact absurd h66 (by omega)
                      | succ nt iht =>
                        intro t hit
                        refine gw_iload C 0 dX11_makeFirst_52 rfl ?_
                        refine gw_bipush C 18 dX11_makeFirst_54 (by decide) ?_
                        refine gw_icmp_ge C 158 dX11_makeFirst_56 (by decide) (by omega) (by omega) (fun h67 => ?_) (fun h67 => ?_)
                        ·
                          exact absurd h67 (by omega)
                        ·
                          have okt := bf_t1_ok (fun s t => mo_nx1 N s t 12) bf_one (d := d) (s := s) (by omega) okr t
                          have okt1 := okt.1 s
                          obtain ⟨S2, eS2⟩ : ∃ S2, S2 = bf_t1 (fun s t => mo_nx1 N s t 12) bf_one d s t S1 := ⟨_, rfl⟩
                          rw [← eS2] at okt okt1
                          rw [← eS2]
                          refine gw_aload_n C 4 dX11_makeFirst_59 rfl rfl ?_
                          refine gw_get C 0 20 in_X11_makeFirst dX11_makeFirst_60 lk_X11_makeFirst_58 rfl rfl (by decide) rfl rfl ?_
                          refine gw_iload_n C 1 dX11_makeFirst_63 rfl rfl ?_
                          refine gw_bld C (v := nI ((S2.1) (s))) 17 1 dX11_makeFirst_64 rfl rfl (by decide) (by omega) (by rw [mo_a_eq]) ?_
                          refine gw_iload_n C 2 dX11_makeFirst_65 rfl rfl ?_
                          refine gw_icmp_ne C 158 dX11_makeFirst_66 (by decide) (by omega) (by omega) (fun h68 => ?_) (fun h68 => ?_)
                          ·
                            refine gw_lv (lv2 := [(4, iN (t)), (3, iN (s)), (2, iN (d)), (1, iN (S2.2)), (0, .ref (o))]) [0, 1, 2, 3, 4] rfl ?_
                            rw [eS2]
                            exact hx t t (by have := bf_t1_stop (fun s t => mo_nx1 N s t 12) bf_one d s S1 t (by rw [← eS2]; exact h68) (18 - t); rw [show t + (18 - t) = 18 by omega] at this; exact this)
                          ·
                            refine gw_iconst C 0 dX11_makeFirst_69 (by decide) ?_
                            refine gw_istore C (lv2 := [(5, iN (0)), (4, iN (t)), (3, iN (s)), (2, iN (d)), (1, iN (S2.2)), (0, .ref (o))]) dX11_makeFirst_70 (by omega) rfl ?_
                            refine gw_iconst C 0 dX11_makeFirst_72 (by decide) ?_
                            refine gw_istore C (lv2 := [(6, iN (0)), (5, iN (0)), (4, iN (t)), (3, iN (s)), (2, iN (d)), (1, iN (S2.2)), (0, .ref (o))]) dX11_makeFirst_73 (by omega) rfl ?_
                            have lpp : ∀ np p : Nat, p + np = 12 → gw_G K (mo_ws o ad cI cB cS (mo_a N 20 (S2.1))) 0 0 75 [(6, iN (p)), (5, iN (mo_nx1 N s t p)), (4, iN (t)), (3, iN (s)), (2, iN (d)), (1, iN (S2.2)), (0, .ref (o))] [] := by
                              intro np
                              induction np with
                              | zero =>
                                intro p hip
                                refine gw_iload C 0 dX11_makeFirst_75 rfl ?_
                                refine gw_bipush C 12 dX11_makeFirst_77 (by decide) ?_
                                refine gw_icmp_ge C 127 dX11_makeFirst_79 (by decide) (by omega) (by omega) (fun h69 => ?_) (fun h69 => ?_)
                                ·
                                  rw [show p = 12 by omega]
                                  have lx := mo_nx1_lt N s t hh (by omega) 12 (Nat.le_refl _)
                                  obtain ⟨x, ex⟩ : ∃ x, x = mo_nx1 N s t 12 := ⟨_, rfl⟩
                                  rw [← ex] at lx
                                  rw [← ex]
                                  have okx := okt.1 x
                                  refine gw_aload_n C 6 dX11_makeFirst_127 rfl rfl ?_
                                  refine gw_get C 0 20 in_X11_makeFirst dX11_makeFirst_128 lk_X11_makeFirst_58 rfl rfl (by decide) rfl rfl ?_
                                  refine gw_iload C 1 dX11_makeFirst_131 rfl ?_
                                  refine gw_bld C (v := nI ((S2.1) (x))) 17 1 dX11_makeFirst_133 rfl rfl (by decide) (by omega) (by rw [mo_a_eq]) ?_
                                  refine gw_bipush C 100 dX11_makeFirst_134 (by decide) ?_
                                  refine gw_icmp_ne C 152 dX11_makeFirst_136 (by decide) (by omega) (by omega) (fun h70 => ?_) (fun h70 => ?_)
                                  ·
                                    refine gw_iinc C (v := nI (t + 1)) (lv2 := [(4, iN (t + 1)), (6, iN (12)), (5, iN (x)), (3, iN (s)), (2, iN (d)), (1, iN (S2.2)), (0, .ref (o))]) 2 dX11_makeFirst_152 rfl (nI_add _ _) (by omega) rfl ?_
                                    refine gw_goto C 52 dX11_makeFirst_155 (by decide) ?_
                                    refine gw_lv (lv2 := [(4, iN (t + 1)), (3, iN (s)), (2, iN (d)), (1, iN (S2.2)), (0, .ref (o))]) [0, 3, 4, 5, 6] rfl ?_
                                    have k := iht (t + 1) (by omega)
                                    rw [bf_t1, if_pos ⟨by rw [← eS2]; exact h68, Nat.one_ne_zero⟩, ← eS2, bf_s, if_neg (by rw [← ex]; exact h70)] at k
                                    exact k
                                  ·
                                    refine gw_aload_n C 6 dX11_makeFirst_139 rfl rfl ?_
                                    refine gw_get C 0 20 in_X11_makeFirst dX11_makeFirst_140 lk_X11_makeFirst_58 rfl rfl (by decide) rfl rfl ?_
                                    refine gw_iload C 1 dX11_makeFirst_143 rfl ?_
                                    refine gw_iload_n C 4 dX11_makeFirst_145 rfl rfl ?_
                                    refine gw_iconst C 1 dX11_makeFirst_146 (by decide) ?_
                                    refine gw_iadd C dX11_makeFirst_147 ?_
                                    refine gw_i2b C dX11_makeFirst_148 (by omega) ?_
                                    refine gw_bst C 17 1 dX11_makeFirst_149 rfl rfl (by decide) (by omega) (gw_nb (by omega)).1 mo_st20 ?_
                                    refine gw_iconst C 1 dX11_makeFirst_150 (by decide) ?_
                                    refine gw_istore_n C (lv2 := [(1, iN (1)), (6, iN (12)), (5, iN (x)), (4, iN (t)), (3, iN (s)), (2, iN (d)), (0, .ref (o))]) dX11_makeFirst_151 rfl (by omega) rfl ?_
                                    refine gw_iinc C (v := nI (t + 1)) (lv2 := [(4, iN (t + 1)), (1, iN (1)), (6, iN (12)), (5, iN (x)), (3, iN (s)), (2, iN (d)), (0, .ref (o))]) 3 dX11_makeFirst_152 rfl (nI_add _ _) (by omega) rfl ?_
                                    refine gw_goto C 52 dX11_makeFirst_155 (by decide) ?_
                                    refine gw_lv (lv2 := [(4, iN (t + 1)), (3, iN (s)), (2, iN (d)), (1, iN (1)), (0, .ref (o))]) [0, 4, 5, 1, 6] rfl ?_
                                    have k := iht (t + 1) (by omega)
                                    rw [bf_t1, if_pos ⟨by rw [← eS2]; exact h68, Nat.one_ne_zero⟩, ← eS2, bf_s, if_pos (by rw [← ex]; exact h70)] at k
                                    rw [← ex] at k
                                    rw [mo_up_a]
                                    exact k
                                ·
                                  exact absurd h69 (by omega)
                              | succ np ihp =>
                                intro p hip
                                refine gw_iload C 0 dX11_makeFirst_75 rfl ?_
                                refine gw_bipush C 12 dX11_makeFirst_77 (by decide) ?_
                                refine gw_icmp_ge C 127 dX11_makeFirst_79 (by decide) (by omega) (by omega) (fun h71 => ?_) (fun h71 => ?_)
                                ·
                                  exact absurd h71 (by omega)
                                ·
                                  have g1 := hg (12 * t + p) (by omega)
                                  have g2 := hh (12 * t + p) (by omega)
                                  refine gw_iload C 1 dX11_makeFirst_82 rfl ?_
                                  refine gw_iload_n C 3 dX11_makeFirst_84 rfl rfl ?_
                                  refine gw_aload_n C 6 dX11_makeFirst_85 rfl rfl ?_
                                  refine gw_get C 0 12 in_X11_makeFirst dX11_makeFirst_86 lk_X11_makeFirst_46 rfl rfl (by decide) rfl rfl ?_
                                  refine gw_bipush C 12 dX11_makeFirst_89 (by decide) ?_
                                  refine gw_iload C 2 dX11_makeFirst_91 rfl ?_
                                  refine gw_imul C dX11_makeFirst_93 ?_
                                  refine gw_iload C 0 dX11_makeFirst_94 rfl ?_
                                  refine gw_iadd C dX11_makeFirst_96 ?_
                                  refine gw_ild C (v := nI (N 12 (((12) * (t)) + (p)))) 13 0 dX11_makeFirst_97 rfl rfl (by decide) (by omega) (by rw [mo_a_ne (by decide)]) ?_
                                  refine gw_ishr C dX11_makeFirst_98 (by omega) (by omega) ?_
                                  refine gw_iconst C 1 dX11_makeFirst_99 (by decide) ?_
                                  refine gw_iand C dX11_makeFirst_100 ?_
                                  refine gw_aload_n C 6 dX11_makeFirst_101 rfl rfl ?_
                                  refine gw_get C 0 13 in_X11_makeFirst dX11_makeFirst_102 lk_X11_makeFirst_49 rfl rfl (by decide) rfl rfl ?_
                                  refine gw_bipush C 12 dX11_makeFirst_105 (by decide) ?_
                                  refine gw_iload C 2 dX11_makeFirst_107 rfl ?_
                                  refine gw_imul C dX11_makeFirst_109 ?_
                                  refine gw_iload C 0 dX11_makeFirst_110 rfl ?_
                                  refine gw_iadd C dX11_makeFirst_112 ?_
                                  refine gw_ild C (v := nI (N 13 (((12) * (t)) + (p)))) 14 0 dX11_makeFirst_113 rfl rfl (by decide) (by omega) (by rw [mo_a_ne (by decide)]) ?_
                                  refine gw_ixor C dX11_makeFirst_114 ?_
                                  refine gw_iload C 0 dX11_makeFirst_115 rfl ?_
                                  refine gw_ishl C dX11_makeFirst_117 (by omega) (by have := bf_x1 (x := s / 2 ^ (N 12 (12 * t + p))) g2 (show p < 12 by omega); omega) ?_
                                  refine gw_ior C dX11_makeFirst_118 ?_
                                  refine gw_istore C (lv2 := [(5, iN ((mo_nx1 N s t p) ||| (((((s) / 2 ^ (N 12 (((12) * (t)) + (p)))) &&& (1)) ^^^ (N 13 (((12) * (t)) + (p)))) * 2 ^ (p)))), (6, iN (p)), (4, iN (t)), (3, iN (s)), (2, iN (d)), (1, iN (S2.2)), (0, .ref (o))]) dX11_makeFirst_119 (by omega) rfl ?_
                                  refine gw_iinc C (v := nI (p + 1)) (lv2 := [(6, iN (p + 1)), (5, iN ((mo_nx1 N s t p) ||| (((((s) / 2 ^ (N 12 (((12) * (t)) + (p)))) &&& (1)) ^^^ (N 13 (((12) * (t)) + (p)))) * 2 ^ (p)))), (4, iN (t)), (3, iN (s)), (2, iN (d)), (1, iN (S2.2)), (0, .ref (o))]) 1 dX11_makeFirst_121 rfl (nI_add _ _) (by omega) rfl ?_
                                  refine gw_goto C 75 dX11_makeFirst_124 (by decide) ?_
                                  refine gw_lv (lv2 := [(6, iN (p + 1)), (5, iN ((mo_nx1 N s t p) ||| (((((s) / 2 ^ (N 12 (((12) * (t)) + (p)))) &&& (1)) ^^^ (N 13 (((12) * (t)) + (p)))) * 2 ^ (p)))), (4, iN (t)), (3, iN (s)), (2, iN (d)), (1, iN (S2.2)), (0, .ref (o))]) [0, 1, 2, 3, 4, 5, 6] rfl ?_
                                  exact ihp (p + 1) (by omega)
                            refine gw_lv (lv2 := [(6, iN (0)), (5, iN (0)), (4, iN (t)), (3, iN (s)), (2, iN (d)), (1, iN (S2.2)), (0, .ref (o))]) [0, 1, 2, 3, 4, 5, 6] rfl ?_
                            exact lpp (12 - 0) 0 (by omega)
                    refine gw_lv (lv2 := [(4, iN (0)), (3, iN (s)), (2, iN (d)), (1, iN (S1.2)), (0, .ref (o))]) [0, 1, 2, 3, 4] rfl ?_
                    exact lpt (18 - 0) 0 (by omega)
              refine gw_lv (lv2 := [(3, iN (0)), (2, iN (d)), (1, iN ((bf_r1 (fun s t => mo_nx1 N s t 12) bf_one d 0 S0).2)), (0, .ref (o))]) [0, 2, 1, 3] rfl ?_
              exact lps (4096 - 0) 0 (by omega)
        refine gw_lv (lv2 := [(2, iN (0)), (1, iN (1)), (0, .ref (o))]) [0, 1, 2] rfl ?_
        exact lpd E 0 (by omega)
      ·
        exact absurd h61 (by omega)
    | succ ni ihi =>
      intro i hii
      refine gw_iload_n C 0 dX11_makeFirst_2 rfl rfl ?_
      refine gw_sipush C 4096 dX11_makeFirst_3 (by decide) ?_
      refine gw_icmp_ge C 23 dX11_makeFirst_6 (by decide) (by omega) (by omega) (fun h72 => ?_) (fun h72 => ?_)
      ·
        exact absurd h72 (by omega)
      ·
        refine gw_aload_n C 1 dX11_makeFirst_9 rfl rfl ?_
        refine gw_get C 0 20 in_X11_makeFirst dX11_makeFirst_10 lk_X11_makeFirst_58 rfl rfl (by decide) rfl rfl ?_
        refine gw_iload_n C 0 dX11_makeFirst_13 rfl rfl ?_
        refine gw_bipush C 100 dX11_makeFirst_14 (by decide) ?_
        refine gw_bst C 17 1 dX11_makeFirst_16 rfl rfl (by decide) (by omega) (by decide) mo_st20 ?_
        refine gw_iinc C (v := nI (i + 1)) (lv2 := [(1, iN (i + 1)), (0, .ref (o))]) 0 dX11_makeFirst_17 rfl (nI_add _ _) (by omega) rfl ?_
        refine gw_goto C 2 dX11_makeFirst_20 (by decide) ?_
        refine gw_lv (lv2 := [(1, iN (i + 1)), (0, .ref (o))]) [0, 1] rfl ?_
        exact gw_ws (congrArg (mo_ws o ad cI cB cS) (by rw [mo_up_a, fl1_s])) (ihi (i + 1) (by omega))
  refine gw_lv (lv2 := [(1, iN (0)), (0, .ref (o))]) [0, 1] rfl ?_
  exact lp (4096 - 0) 0 (by omega)
