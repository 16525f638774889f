def mt_fme : Nat → Nat → Nat
  | 0, v => (((((((((((0 * 2 + (v / 2 / 2 / 2 / 2 / 2 / 2 / 2 / 2 / 2 / 2 % 2)) * 2 + (v / 2 / 2 / 2 / 2 / 2 / 2 / 2 / 2 / 2 % 2)) * 2 + (((v / 2 / 2 / 2 % 2) + 0) % 2)) * 2 + (((v / 2 / 2 / 2 / 2 % 2) + 0) % 2)) * 2 + (v / 2 / 2 / 2 / 2 / 2 / 2 % 2)) * 2 + (v / 2 / 2 / 2 / 2 / 2 % 2)) * 2 + (((v / 2 / 2 / 2 / 2 / 2 / 2 / 2 / 2 % 2) + 0) % 2)) * 2 + (((v / 2 / 2 / 2 / 2 / 2 / 2 / 2 % 2) + 0) % 2)) * 2 + (v / 2 / 2 % 2)) * 2 + (v / 2 % 2)) * 2 + (v % 2))
  | 1, v => (((((((((((0 * 2 + (((v / 2 / 2 / 2 / 2 / 2 / 2 % 2) + 0) % 2)) * 2 + (((v / 2 / 2 / 2 / 2 / 2 % 2) + 0) % 2)) * 2 + (v / 2 / 2 / 2 / 2 / 2 / 2 / 2 / 2 % 2)) * 2 + (v / 2 / 2 / 2 / 2 / 2 / 2 / 2 % 2)) * 2 + (((v / 2 / 2 / 2 / 2 / 2 / 2 / 2 / 2 / 2 % 2) + 0) % 2)) * 2 + (((v / 2 / 2 / 2 / 2 / 2 / 2 / 2 / 2 / 2 / 2 % 2) + 0) % 2)) * 2 + (v / 2 / 2 / 2 / 2 % 2)) * 2 + (v / 2 / 2 / 2 % 2)) * 2 + (v / 2 / 2 % 2)) * 2 + (v / 2 % 2)) * 2 + (v % 2))
  | 2, v => (((((((((((0 * 2 + (v / 2 / 2 / 2 / 2 / 2 / 2 / 2 / 2 / 2 / 2 % 2)) * 2 + (v / 2 / 2 / 2 / 2 / 2 / 2 / 2 / 2 / 2 % 2)) * 2 + (v / 2 / 2 / 2 / 2 / 2 / 2 / 2 / 2 % 2)) * 2 + (v / 2 / 2 / 2 / 2 / 2 / 2 / 2 % 2)) * 2 + (((v / 2 / 2 % 2) + 0) % 2)) * 2 + (v / 2 / 2 / 2 / 2 / 2 % 2)) * 2 + (((v % 2) + 0) % 2)) * 2 + (v / 2 / 2 / 2 % 2)) * 2 + (((v / 2 / 2 / 2 / 2 % 2) + 0) % 2)) * 2 + (v / 2 % 2)) * 2 + (((v / 2 / 2 / 2 / 2 / 2 / 2 % 2) + 0) % 2))
  | 3, v => (((((((((((0 * 2 + (v / 2 / 2 / 2 / 2 / 2 / 2 / 2 / 2 / 2 / 2 % 2)) * 2 + (v / 2 / 2 / 2 / 2 / 2 / 2 / 2 / 2 / 2 % 2)) * 2 + (v / 2 / 2 / 2 / 2 / 2 / 2 / 2 / 2 % 2)) * 2 + (v / 2 / 2 / 2 / 2 / 2 / 2 / 2 % 2)) * 2 + (v / 2 / 2 / 2 / 2 / 2 / 2 % 2)) * 2 + ((((2 - (((((((((((0 + v % 2) + v / 2 % 2) + v / 2 / 2 % 2) + v / 2 / 2 / 2 % 2) + v / 2 / 2 / 2 / 2 % 2) + v / 2 / 2 / 2 / 2 / 2 % 2) + v / 2 / 2 / 2 / 2 / 2 / 2 % 2) + v / 2 / 2 / 2 / 2 / 2 / 2 / 2 % 2) + v / 2 / 2 / 2 / 2 / 2 / 2 / 2 / 2 % 2) + v / 2 / 2 / 2 / 2 / 2 / 2 / 2 / 2 / 2 % 2) + v / 2 / 2 / 2 / 2 / 2 / 2 / 2 / 2 / 2 / 2 % 2) % 2) % 2) + 0) % 2)) * 2 + (v / 2 / 2 / 2 / 2 % 2)) * 2 + (((v / 2 % 2) + 0) % 2)) * 2 + (v / 2 / 2 % 2)) * 2 + (((v / 2 / 2 / 2 / 2 / 2 % 2) + 0) % 2)) * 2 + (v % 2))
  | 4, v => (((((((((((0 * 2 + (((v / 2 % 2) + 1) % 2)) * 2 + (v / 2 / 2 / 2 / 2 / 2 / 2 / 2 / 2 / 2 % 2)) * 2 + (((v / 2 / 2 % 2) + 1) % 2)) * 2 + (v / 2 / 2 / 2 / 2 / 2 / 2 / 2 % 2)) * 2 + (v / 2 / 2 / 2 / 2 / 2 / 2 % 2)) * 2 + (v / 2 / 2 / 2 / 2 / 2 % 2)) * 2 + (v / 2 / 2 / 2 / 2 % 2)) * 2 + (v / 2 / 2 / 2 % 2)) * 2 + (((v / 2 / 2 / 2 / 2 / 2 / 2 / 2 / 2 / 2 / 2 % 2) + 1) % 2)) * 2 + (((v / 2 / 2 / 2 / 2 / 2 / 2 / 2 / 2 % 2) + 1) % 2)) * 2 + (v % 2))
  | _, v => (((((((((((0 * 2 + (v / 2 / 2 / 2 / 2 / 2 / 2 / 2 / 2 / 2 / 2 % 2)) * 2 + (((v % 2) + 1) % 2)) * 2 + (v / 2 / 2 / 2 / 2 / 2 / 2 / 2 / 2 % 2)) * 2 + ((((2 - (((((((((((0 + v % 2) + v / 2 % 2) + v / 2 / 2 % 2) + v / 2 / 2 / 2 % 2) + v / 2 / 2 / 2 / 2 % 2) + v / 2 / 2 / 2 / 2 / 2 % 2) + v / 2 / 2 / 2 / 2 / 2 / 2 % 2) + v / 2 / 2 / 2 / 2 / 2 / 2 / 2 % 2) + v / 2 / 2 / 2 / 2 / 2 / 2 / 2 / 2 % 2) + v / 2 / 2 / 2 / 2 / 2 / 2 / 2 / 2 / 2 % 2) + v / 2 / 2 / 2 / 2 / 2 / 2 / 2 / 2 / 2 / 2 % 2) % 2) % 2) + 1) % 2)) * 2 + (v / 2 / 2 / 2 / 2 / 2 / 2 % 2)) * 2 + (v / 2 / 2 / 2 / 2 / 2 % 2)) * 2 + (v / 2 / 2 / 2 / 2 % 2)) * 2 + (v / 2 / 2 / 2 % 2)) * 2 + (v / 2 / 2 % 2)) * 2 + (v / 2 % 2)) * 2 + (((v / 2 / 2 / 2 / 2 / 2 / 2 / 2 % 2) + 1) % 2))
theorem fme_eq {f : Nat} (hf : f < 6) (v : Nat) : nxme (6 * v + f) = mt_fme f v := by
  rw [nxme, (mt_j6 hf).1, (mt_j6 hf).2]
  match f, hf with
  | 0, _ => rfl
  | 1, _ => rfl
  | 2, _ => rfl
  | 3, _ => rfl
  | 4, _ => rfl
  | 5, _ => rfl
def mt_fmc : Nat → Nat → Nat
  | 0, v => (((((((0 * 3 + (v / 3 / 3 / 3 / 3 / 3 / 3 % 3)) * 3 + (v / 3 / 3 / 3 / 3 / 3 % 3)) * 3 + (v / 3 / 3 / 3 / 3 % 3)) * 3 + (v / 3 / 3 / 3 % 3)) * 3 + (((v / 3 % 3) + 0) % 3)) * 3 + ((((3 - (((((((0 + v % 3) + v / 3 % 3) + v / 3 / 3 % 3) + v / 3 / 3 / 3 % 3) + v / 3 / 3 / 3 / 3 % 3) + v / 3 / 3 / 3 / 3 / 3 % 3) + v / 3 / 3 / 3 / 3 / 3 / 3 % 3) % 3) % 3) + 0) % 3)) * 3 + (((v / 3 / 3 % 3) + 0) % 3))
  | 1, v => (((((((0 * 3 + (((v / 3 / 3 / 3 / 3 % 3) + 0) % 3)) * 3 + (((v / 3 / 3 / 3 / 3 / 3 / 3 % 3) + 0) % 3)) * 3 + (((v / 3 / 3 / 3 % 3) + 0) % 3)) * 3 + (((v / 3 / 3 / 3 / 3 / 3 % 3) + 0) % 3)) * 3 + (v / 3 / 3 % 3)) * 3 + (v / 3 % 3)) * 3 + (v % 3))
  | 2, v => (((((((0 * 3 + (((v / 3 / 3 % 3) + 2) % 3)) * 3 + (v / 3 / 3 / 3 / 3 / 3 % 3)) * 3 + (((v / 3 / 3 / 3 / 3 / 3 / 3 % 3) + 1) % 3)) * 3 + (v / 3 / 3 / 3 % 3)) * 3 + (((v % 3) + 1) % 3)) * 3 + (v / 3 % 3)) * 3 + (((v / 3 / 3 / 3 / 3 % 3) + 2) % 3))
  | 3, v => (((((((0 * 3 + (v / 3 / 3 / 3 / 3 / 3 / 3 % 3)) * 3 + (((v / 3 / 3 / 3 % 3) + 1) % 3)) * 3 + (v / 3 / 3 / 3 / 3 % 3)) * 3 + ((((3 - (((((((0 + v % 3) + v / 3 % 3) + v / 3 / 3 % 3) + v / 3 / 3 / 3 % 3) + v / 3 / 3 / 3 / 3 % 3) + v / 3 / 3 / 3 / 3 / 3 % 3) + v / 3 / 3 / 3 / 3 / 3 / 3 % 3) % 3) % 3) + 2) % 3)) * 3 + (v / 3 / 3 % 3)) * 3 + (((v / 3 / 3 / 3 / 3 / 3 % 3) + 2) % 3)) * 3 + (v % 3))
  | 4, v => (((((((0 * 3 + (((((v / 3 % 3) + 2) % 3) + 1) % 3)) * 3 + (((((v / 3 / 3 % 3) + 1) % 3) + 2) % 3)) * 3 + (v / 3 / 3 / 3 / 3 % 3)) * 3 + (v / 3 / 3 / 3 % 3)) * 3 + (((((v / 3 / 3 / 3 / 3 / 3 % 3) + 1) % 3) + 2) % 3)) * 3 + (((((v / 3 / 3 / 3 / 3 / 3 / 3 % 3) + 2) % 3) + 1) % 3)) * 3 + (v % 3))
  | _, v => (((((((0 * 3 + (v / 3 / 3 / 3 / 3 / 3 / 3 % 3)) * 3 + (v / 3 / 3 / 3 / 3 / 3 % 3)) * 3 + ((((((3 - (((((((0 + v % 3) + v / 3 % 3) + v / 3 / 3 % 3) + v / 3 / 3 / 3 % 3) + v / 3 / 3 / 3 / 3 % 3) + v / 3 / 3 / 3 / 3 / 3 % 3) + v / 3 / 3 / 3 / 3 / 3 / 3 % 3) % 3) % 3) + 1) % 3) + 2) % 3)) * 3 + (((((v % 3) + 2) % 3) + 1) % 3)) * 3 + (v / 3 / 3 % 3)) * 3 + (v / 3 % 3)) * 3 + (((((v / 3 / 3 / 3 % 3) + 2) % 3) + 1) % 3))
theorem fmc_eq {f : Nat} (hf : f < 6) (v : Nat) : nxmc (6 * v + f) = mt_fmc f v := by
  rw [nxmc, (mt_j6 hf).1, (mt_j6 hf).2]
  match f, hf with
  | 0, _ => rfl
  | 1, _ => rfl
  | 2, _ => rfl
  | 3, _ => rfl
  | 4, _ => rfl
  | 5, _ => rfl
theorem desc {C G : Q4 → Prop} {fwq : Nat} {rd : Q4 → Nat} (hC : ∀ a t, C a → t < 18 → mt_alq fwq t → C (mkQ t a)) (hG : ∀ a, C a → rd a = 0 → G a) (lv : Nat → Nat) (hd : ∀ a, C a → rd a ≠ 0 → ∃ t, t < 18 ∧ mt_alq fwq t ∧ lv (rd (mkQ t a)) < lv (rd a)) : ∀ n a, C a → lv (rd a) ≤ n → mt_RQ G mkQ (mt_alq fwq) n a := by
  intro n
  induction n with
  | zero =>
    intro a ha h
    by_cases e : rd a = 0
    · exact hG a ha e
    · obtain ⟨t, _, _, h3⟩ := hd a ha e
      omega
  | succ n ih =>
    intro a ha h
    by_cases e : rd a = 0
    · exact RQ_G (hG a ha e) _
    · obtain ⟨t, h1, h2, h3⟩ := hd a ha e
      exact Or.inr ⟨t, h1, h2, ih _ (hC a t ha h1 h2) (by omega)⟩
theorem mt_pig : ∀ (n : Nat) (g : Nat → Nat) (l : List Nat), l.Nodup → (∀ x ∈ l, ∃ a, a < n ∧ g a = x) → l.length ≤ n := by
  intro n
  induction n with
  | zero =>
    intro g l _ h
    cases l with
    | nil => exact Nat.le_refl _
    | cons x l => obtain ⟨a, ha, _⟩ := h x List.mem_cons_self; omega
  | succ n ih =>
    intro g l hn h
    by_cases c : g n ∈ l
    · have h1 := ih g (l.erase (g n)) (hn.erase _) (fun x hx => by
        rw [hn.mem_erase_iff] at hx
        obtain ⟨a, ha, e⟩ := h x hx.2
        refine ⟨a, ?_, e⟩
        by_cases q : a = n
        · subst q; exact absurd e.symm hx.1
        · omega)
      rw [List.length_erase_of_mem c] at h1
      omega
    · have h1 := ih g l hn (fun x hx => by
        obtain ⟨a, ha, e⟩ := h x hx
        refine ⟨a, ?_, e⟩
        by_cases q : a = n
        · subst q; rw [e] at c; exact absurd hx c
        · omega)
      omega
theorem ballL {nbs : Nat → List Nat} (g : Nat → Nat) (e : Nat → Nat) (h0 : g 0 = 0) (e0 : 0 < e 0) (hm : ∀ m, e m ≤ e (m + 1)) (M : Nat) (hs : ∀ m a, m < M → a < e m → ∀ b ∈ nbs (g a), ∃ a', a' < e (m + 1) ∧ g a' = b) : ∀ m, m ≤ M → ∀ x, mt_Bq nbs m x → ∃ a, a < e m ∧ g a = x := by
  intro m
  induction m with
  | zero => intro _ x hx; exact ⟨0, e0, by rw [h0]; exact (show x = 0 from hx).symm⟩
  | succ m ih =>
    intro hM x hx
    rcases hx with hx | ⟨y, hy, hxy⟩
    · obtain ⟨a, ha, ea⟩ := ih (by omega) x hx
      exact ⟨a, Nat.lt_of_lt_of_le ha (hm m), ea⟩
    · obtain ⟨a, ha, ea⟩ := ih (by omega) y hy
      rw [← ea] at hxy
      exact hs m a (by omega) ha x hxy
def mt_itd (F : Nat → Nat) : Nat → Nat → Nat
  | 0, v => v
  | i + 1, v => F (mt_itd F i v)
theorem yI_it (nx : Nat → Nat → Nat) (f j : Nat) (y : Nat → Nat) : ∀ i, yI nx f y i j = mt_itd (fun v => nx j (6 * v + f)) i (y j) := by
  intro i
  induction i with
  | zero => rfl
  | succ i ih => rw [yI, av_, ih]; rfl
theorem itd_cg {F F' : Nat → Nat} {n : Nat} (h : ∀ v, v < n → F v = F' v) (hl : ∀ v, v < n → F v < n) : ∀ i v, v < n → mt_itd F i v = mt_itd F' i v ∧ mt_itd F i v < n := by
  intro i
  induction i with
  | zero => intro v hv; exact ⟨rfl, hv⟩
  | succ i ih =>
    intro v hv
    obtain ⟨h1, h2⟩ := ih v hv
    refine ⟨?_, hl _ h2⟩
    show F (mt_itd F i v) = F' (mt_itd F' i v)
    rw [h _ h2, h1]
def mt_ixt (fwq t : Nat) : Nat := if t / 3 < fwq then t % 3 + 1 else 1
theorem ixt_ft {fwq t : Nat} (ht : t < 18) (hal : mt_alq fwq t) : ∃ i, i < to_ fwq (t / 3) ∧ ft_ fwq (t / 3) + i = t ∧ mt_ixt fwq t = i + 1 := by
  unfold mt_alq at hal
  unfold to_ ft_ mt_ixt
  by_cases e : t / 3 < fwq
  · rw [if_pos e, if_pos e, if_pos e]; exact ⟨t % 3, by omega, by omega, rfl⟩
  · rw [if_neg e, if_neg e, if_neg e]; exact ⟨0, by omega, by omega, rfl⟩
theorem mk_it {C : Q4 → Prop} {nx : Nat → Nat → Nat} {nf fwq : Nat} {x : Q4 → Nat → Nat} (hC : ∀ a f, C a → f < 6 → C (mt_pwQ f a (mt_stp fwq f))) (hR : ∀ a f j, C a → f < 6 → j < nf → x (mt_pwQ f a (mt_stp fwq f)) j = nx j (6 * x a j + f)) {a : Q4} {t : Nat} (ha : C a) (ht : t < 18) (hal : mt_alq fwq t) {j : Nat} (hj : j < nf) : x (mkQ t a) j = mt_itd (fun v => nx j (6 * v + t / 3)) (mt_ixt fwq t) (x a j) := by
  obtain ⟨i, h1, h2, h3⟩ := ixt_ft ht hal
  have := yI_mk hC hR a (t / 3) i ha (by omega) h1 j hj
  rw [h2] at this
  rw [← this, h3, yI_it]
def mt_alb (fwq t : Nat) : Bool := Nat.ble t 17 && (Nat.ble (t / 3 + 1) fwq || Nat.beq (t % 3) 1)
theorem alb_s {fwq t : Nat} (h : mt_alb fwq t = true) : t < 18 ∧ mt_alq fwq t := by
  rw [mt_alb, Bool.and_eq_true, Bool.or_eq_true, Nat.ble_eq, Nat.ble_eq] at h
  refine ⟨by omega, ?_⟩
  rcases h.2 with q | q
  · exact Or.inl (by omega)
  · exact Or.inr (Nat.eq_of_beq_eq_true q)
