def mt_PSQ : Nat := 0xf59d102ef0a6982bcb43467d5711e38c7c55e1ca8e3aa7382c2d3df7408bef2a6059f10d419be69af650829cbb3447d637213b81fa56ec4c8d5a97e0999bd02f40bdf42d0b42f6665a913bec4a5681fc8d3727e02c2be69af08b8eac7855c1ce419d3df74650e31aa33877153aa1e3e1cc558c7a8e5717382efd10434bcb4f7065f9ab084c1b3ef590a698267d941dd322c6be59fa60344cbb35f116ee9ca0ef210d8297d621ade5832a7b5847cd237b1395a07e547c638f11d52f4bd042fd0b4ec07e95adc84c1de59990bdf42666f81b132376a555cc78387aa339c1d58f1ab88ea1cee3171521ab3ee2ac6354770e22cdd3f9a065584a7bee91164f7b089416be35fca08327cd9770534ecdc8f816a539cab8e2a70efac053977688fac688
def mt_IDQ : Nat := 0x9725c3a64de44a72edbb2932ddb962da54874e1b317b0183570ede416ac1cba80f57b474e60bc68bddb862dd52d86fdb325aa9f42891a0bd54ba2c7790172a64d94ae7f0dbb15ca613e8f15ec152b634480f16a94eb24ca891d627912e2c64cae5498d155a697223c4bf7664e3886e5e9b3d09cbb7e7cd3682f5c9d3101ba350d1f993e8553e6a6cea944c9e9d36ad03c667cc3684a17af4d01c2e52956b16aad12862cdba150c143880998a75d09b304eb52b7668d5265ed58a940b93225aedeb16cb11b97ecda2056f5db564a90bf72dd8a55c58fbd7eb531e2ee5d327ed5b1638f1ab16470b142c60d3a4a9d6143afdeaf4870abb70d1eb76850f3e66cd81e2848da54ea551a26b57a14674f205848c9934a91182440caf5aad418229d2a34070f102491d9f3889510366cc2c406880e4902132689073670f1f2e6039d20449943a1ca967d0c325952e13f4a1a4495ed63470c91a3089152060a1912366a1fc20a925ca86f920593218348f182a56abe2c44a142237cfe041461214378f5d3b4cb022270e55a744101a2870a0c0440dfbe7af1225061143376e93ab068dcb8589918304a1b375ec140262c9a355ab81334c9d4aa66095ac02cdbb66ad198164c582f5cb40a858ad52950053a64a911a2020801d4280f9e3a00e1b3464c170048b15284c900224078e1a3000716284880e00305080c101
def mt_CNQ : Nat := 0x60c183060c183060c183060c183060c183060c183060c183060c183060c183060c183060c183060c183060c183060c183060c183060c183060c183060c183060c183060c183060c183060c183060c183060c183060c183060c183060c183060c183060c183060c183060c183060c183060c183060c183060c183060c183060c183060c183060c183060c183060c183060c183060c183060c183060c183060c183060c183060c183060c183060c183060c183060c183060c183060c183060c183060c183060c183060c183060c183060c183060c183060c183060c183060c183060c183060c183060c183060c183060c182fdebd7af5ebb72e5cb76ad5ab56acd8b162c58b162c58b162c58b162c58b162c58b162c58b162c58af5aad4a9529d2a342850a1428509f3a74e9d3a6cc993264c993264c993264c993264c993264c993264c993264c993264c993264c993264c993264c993264c993264c993264c993264c99325ca952a54a93224488f1a3468d1a2c48912244891224489122448912244891224489122448912244870a0c08101fbe7af1e3c78f1e3c76e9d3a74e9cb870e1c3870e1c3870e1c3870e1c3870e1c3870e1c3870e1c3870e1bb66ad19b364c582f5cb56ad58ad52950a13a64a911a244891224280f9e3a74e1b3464c172e5cb15284c912224078e1a3060c16284880e1c305080c101
def mt_SVQ : Nat := 0x254e759670e3395f21483146e8103f7861448c96407ea1d45ae76d4db8649886215e2694d512a3838b54a2447a05a8d8494ef52b61a5cd5d9f6c3d68eec14282adb863026f9e2b5508b08ba5b47111f01b132900
def mt_psq (k j : Nat) : Nat := mt_tb mt_PSQ 3 (8 * k + j)
def mt_idq (k i : Nat) : Nat := mt_tb mt_IDQ 7 (6 * k + i)
def mt_cnq (n : Nat) : Nat := mt_tb mt_CNQ 7 n
def mt_svq (v : Nat) : Nat := mt_tb mt_SVQ 7 v
def all8 (f : Nat → Bool) : Bool := f 0 && (f 1 && (f 2 && (f 3 && (f 4 && (f 5 && (f 6 && f 7))))))
theorem all8_s {f : Nat → Bool} (h : all8 f = true) {a : Nat} (ha : a < 8) : f a = true := by
  rw [all8, Bool.and_eq_true, Bool.and_eq_true, Bool.and_eq_true, Bool.and_eq_true, Bool.and_eq_true, Bool.and_eq_true, Bool.and_eq_true] at h
  match a, ha with
  | 0, _ => exact h.1
  | 1, _ => exact h.2.1
  | 2, _ => exact h.2.2.1
  | 3, _ => exact h.2.2.2.1
  | 4, _ => exact h.2.2.2.2.1
  | 5, _ => exact h.2.2.2.2.2.1
  | 6, _ => exact h.2.2.2.2.2.2.1
  | 7, _ => exact h.2.2.2.2.2.2.2
def mt_qck (k : Nat) : Bool := Nat.ble 96 k || (Nat.beq (mo_thr (mt_psq k) 8) 255 && (all8 (fun j => Nat.ble (mt_psq k j) 7) && (Nat.ble (mt_svq k) 95 && (all8 (fun j => Nat.beq (mt_psq (mt_svq k) j) (mt_shC k (fun _ => 0) (fun _ => 0) j)) && all8 (fun i => Nat.ble 6 i || (Nat.ble (mt_idq k i) 95 && all8 (fun j => Nat.beq (mk_cp i (mt_psq k) 2 j) (mt_psq (mt_idq k i) j))))))))
theorem qck_0 : mt_chk mt_qck 5 0 = true := by decide +kernel
theorem qck_1 : mt_chk mt_qck 5 32 = true := by decide +kernel
theorem qck_2 : mt_chk mt_qck 5 64 = true := by decide +kernel
theorem qck_s {k : Nat} (h : k < 96) : mo_thr (mt_psq k) 8 = 255 ∧ (∀ j, j < 8 → mt_psq k j < 8) ∧ mt_svq k < 96 ∧ (∀ j, j < 8 → mt_psq (mt_svq k) j = mt_shC k (fun _ => 0) (fun _ => 0) j) ∧ ∀ i, i < 6 → mt_idq k i < 96 ∧ ∀ j, j < 8 → mk_cp i (mt_psq k) 2 j = mt_psq (mt_idq k i) j := by
  have hk : mt_qck k = true := by
    rcases (show k < 32 ∨ (32 ≤ k ∧ k < 64) ∨ 64 ≤ k by omega) with w | w | w
    · exact chk_s qck_0 k (Nat.zero_le _) (by simp; omega)
    · exact chk_s qck_1 k w.1 (by simp; omega)
    · exact chk_s qck_2 k w (by simp; omega)
  rw [mt_qck, Bool.or_eq_true] at hk
  rcases hk with hk | hk
  · exact absurd (Nat.le_of_ble_eq_true hk) (by omega)
  · rw [Bool.and_eq_true, Bool.and_eq_true, Bool.and_eq_true, Bool.and_eq_true] at hk
    obtain ⟨a1, a2, a3, a4, a5⟩ := hk
    refine ⟨Nat.eq_of_beq_eq_true a1, fun j hj => ?_, ?_, fun j hj => Nat.eq_of_beq_eq_true (all8_s a4 hj), fun i hi => ?_⟩
    · have := Nat.le_of_ble_eq_true (all8_s a2 hj); omega
    · have := Nat.le_of_ble_eq_true a3; omega
    · have := all8_s a5 (show i < 8 by omega)
      rw [Bool.or_eq_true] at this
      rcases this with w | w
      · exact absurd (Nat.le_of_ble_eq_true w) (by omega)
      · rw [Bool.and_eq_true] at w
        refine ⟨?_, fun j hj => Nat.eq_of_beq_eq_true (all8_s w.2 hj)⟩
        have := Nat.le_of_ble_eq_true w.1; omega
def mt_prm (P : Nat → Nat) : Prop := (∀ j, j < 8 → P j < 8) ∧ ∀ v, v < 8 → ∃ j, j < 8 ∧ P j = v
theorem psq_prm {k : Nat} (h : k < 96) : mt_prm (mt_psq k) := ⟨(qck_s h).2.1, thr_perm (qck_s h).1⟩
def mt_SQL (k : Nat) : Nat := mo_rk (mt_psq k) 8 8
def mt_kyq (k : Nat) : Nat := mt_tb mt_PSQ 24 k
theorem dst_ok : mt_chk (fun a => mt_chk (fun b => Nat.ble 96 a || (Nat.ble 96 b || (Nat.beq a b || !(Nat.beq (mt_kyq a) (mt_kyq b))))) 7 0) 7 0 = true := by decide +kernel
theorem ky_of : mt_chk (fun a => Nat.ble 96 a || Nat.beq (mt_kyq a) (mt_psq a 0 + 8 * mt_psq a 1 + 64 * mt_psq a 2 + 512 * mt_psq a 3 + 4096 * mt_psq a 4 + 32768 * mt_psq a 5 + 262144 * mt_psq a 6 + 2097152 * mt_psq a 7)) 7 0 = true := by decide +kernel
theorem psq_inj {a b : Nat} (ha : a < 96) (hb : b < 96) (h : ∀ j, j < 8 → mt_psq a j = mt_psq b j) : a = b := by
  have h1 := chk_s (chk_s dst_ok a (Nat.zero_le _) (by simp; omega)) b (Nat.zero_le _) (by simp; omega)
  have k1 := chk_s ky_of a (Nat.zero_le _) (by simp; omega)
  have k2 := chk_s ky_of b (Nat.zero_le _) (by simp; omega)
  rw [Bool.or_eq_true] at h1 k1 k2
  rcases h1 with h1 | h1
  · exact absurd (Nat.le_of_ble_eq_true h1) (by omega)
  rcases k1 with k1 | k1
  · exact absurd (Nat.le_of_ble_eq_true k1) (by omega)
  rcases k2 with k2 | k2
  · exact absurd (Nat.le_of_ble_eq_true k2) (by omega)
  rw [Bool.or_eq_true] at h1
  rcases h1 with h1 | h1
  · exact absurd (Nat.le_of_ble_eq_true h1) (by omega)
  rw [Bool.or_eq_true] at h1
  rcases h1 with h1 | h1
  · exact Nat.eq_of_beq_eq_true h1
  · have e : mt_kyq a = mt_kyq b := by
      rw [Nat.eq_of_beq_eq_true k1, Nat.eq_of_beq_eq_true k2, h 0 (by decide), h 1 (by decide), h 2 (by decide), h 3 (by decide), h 4 (by decide), h 5 (by decide), h 6 (by decide), h 7 (by decide)]
    rw [e, Nat.beq_refl] at h1
    exact absurd h1 (by decide)
theorem SQL_inj {a b : Nat} (ha : a < 96) (hb : b < 96) (h : mt_SQL a = mt_SQL b) : a = b := psq_inj ha hb (rk_inj (by decide) (psq_prm ha).1 (psq_prm ha).2 (psq_prm hb).1 (psq_prm hb).2 h)
theorem cnq_ok : mt_chk (fun n => Nat.ble 576 n || (Nat.ble (mt_idq (n / 6) (n % 6) + 1) (mt_cnq n) && Nat.beq (mt_cnq (n + 1)) (mt_cnq n) || (Nat.beq (mt_idq (n / 6) (n % 6)) (mt_cnq n) && Nat.beq (mt_cnq (n + 1)) (mt_cnq n + 1)))) 10 0 = true := by decide +kernel
theorem cnq_s {k i : Nat} (hk : k < 96) (hi : i < 6) : (mt_idq k i < mt_cnq (6 * k + i) ∧ mt_cnq (6 * k + i + 1) = mt_cnq (6 * k + i)) ∨ (mt_idq k i = mt_cnq (6 * k + i) ∧ mt_cnq (6 * k + i + 1) = mt_cnq (6 * k + i) + 1) := by
  have h := chk_s cnq_ok (6 * k + i) (Nat.zero_le _) (by simp; omega)
  rw [Bool.or_eq_true] at h
  rcases h with h | h
  · exact absurd (Nat.le_of_ble_eq_true h) (by omega)
  · rw [show (6 * k + i) / 6 = k by omega, show (6 * k + i) % 6 = i by omega, Bool.or_eq_true, Bool.and_eq_true, Bool.and_eq_true] at h
    rcases h with h | h
    · exact Or.inl ⟨Nat.le_of_ble_eq_true h.1, Nat.eq_of_beq_eq_true h.2⟩
    · exact Or.inr ⟨Nat.eq_of_beq_eq_true h.1, Nat.eq_of_beq_eq_true h.2⟩
theorem cnq_k : ∀ k, k < 96 → k < mt_cnq (6 * k) := by decide +kernel
theorem cnq_96 : mt_cnq 576 = 96 ∧ mt_cnq 0 = 1 := by decide +kernel
theorem psq_0 : ∀ j, j < 8 → mt_psq 0 j = j := by decide +kernel
theorem SQL_0 : mt_SQL 0 = 0 := by decide +kernel
def mt_SqI (N0 N : Nat → Nat → Nat) (c : Nat) : Prop := (∀ k, k ≠ 30 → k ≠ 31 → k ≠ 36 → k ≠ 37 → N k = N0 k) ∧ (∀ j, j < c → N 31 j = mt_SQL j) ∧ (∀ j, j < c → N 30 (mt_SQL j) = j) ∧ ∀ j, j < 96 → c ≤ j → 2 ^ 31 ≤ N 30 (mt_SQL j)
theorem sqR_rk {N : Nat → Nat → Nat} (hM : mt_MT N) {A k t : Nat} (ht : t < 18) {P : Nat → Nat} (hP : mt_prm P) (e : N A k = mo_rk P 8 8) : ∀ j, j < 8 → mo_sqR N A k t 36 j = mk_cp (t / 3) P (t % 3 + 1) j := by
  intro j hj
  have hc := ((hM t ht).1 j hj).1
  have lc := mk_cp_lt (t / 3) (cp := fun j => j) (fun j hj => hj) (t % 3 + 1) j hj
  rw [mo_sqR, mo_trow_v _ _ _ hj (by rw [mo_unr_k (by decide), hc]; exact lc), mo_unr_k (k := 10) (by decide), hc, e, unr_rk (by decide) hP.1 hP.2 N _ lc, mk_cp_nat (t / 3) P]
theorem MT_of {N N0 : Nat → Nat → Nat} (hM : mt_MT N0) (h10 : N 10 = N0 10) (h11 : N 11 = N0 11) (h12 : N 12 = N0 12) (h13 : N 13 = N0 13) : mt_MT N := by
  intro t ht
  rw [h10, h11, h12, h13]
  exact hM t ht
theorem SqI_s {N0 N : Nat → Nat → Nat} (hM : mt_MT N0) {k i : Nat} (hk : k < 96) (hi : i < 6) (h : mt_SqI N0 N (mt_cnq (6 * k + i))) (hkc : k < mt_cnq (6 * k + i)) : mt_SqI N0 (mo_sqS k (1 + 3 * i) (N, mt_cnq (6 * k + i))).1 (mt_cnq (6 * k + i + 1)) ∧ (mo_sqS k (1 + 3 * i) (N, mt_cnq (6 * k + i))).2 = mt_cnq (6 * k + i + 1) := by
  obtain ⟨h1, h2, h3, h4⟩ := h
  have hMN : mt_MT N := MT_of hM (h1 10 (by decide) (by decide) (by decide) (by decide)) (h1 11 (by decide) (by decide) (by decide) (by decide)) (h1 12 (by decide) (by decide) (by decide) (by decide)) (h1 13 (by decide) (by decide) (by decide) (by decide))
  have q := (qck_s hk).2.2.2.2 i hi
  have hr : mo_rk (mo_sqR N 31 k (1 + 3 * i) 36) 8 8 = mt_SQL (mt_idq k i) := by
    refine rk_cg (fun j hj => ?_) 8 (Nat.le_refl _)
    rw [sqR_rk hMN (t := 1 + 3 * i) (by omega) (psq_prm hk) (h2 k hkc) j hj, show (1 + 3 * i) / 3 = i by omega, show (1 + 3 * i) % 3 + 1 = 2 by omega]
    exact q.2 j hj
  have hR : ∀ a, a ≠ 36 → a ≠ 37 → mo_sqR N 31 k (1 + 3 * i) a = N a := fun a b1 b2 => mo_sqR_k b1 b2 N 31 k (1 + 3 * i)
  rw [mo_sqS]
  dsimp only
  rw [hr]
  rcases cnq_s hk hi with ⟨w1, w2⟩ | ⟨w1, w2⟩
  · have hc96 : mt_idq k i < 96 := q.1
    rw [if_neg (by rw [h3 _ w1]; omega), w2]
    refine ⟨⟨fun a b1 b2 b3 b4 => ?_, fun j hj => ?_, fun j hj => ?_, fun j hj hj2 => ?_⟩, rfl⟩
    · dsimp only; rw [hR a b3 b4]; exact h1 a b1 b2 b3 b4
    · dsimp only; rw [hR 31 (by decide) (by decide)]; exact h2 j hj
    · dsimp only; rw [hR 30 (by decide) (by decide)]; exact h3 j hj
    · dsimp only; rw [hR 30 (by decide) (by decide)]; exact h4 j hj hj2
  · have hc96 : mt_cnq (6 * k + i) < 96 := by rw [← w1]; exact q.1
    rw [w1, if_pos (h4 _ hc96 (Nat.le_refl _)), w2]
    refine ⟨⟨fun a b1 b2 b3 b4 => ?_, fun j hj => ?_, fun j hj => ?_, fun j hj hj2 => ?_⟩, rfl⟩
    · dsimp only
      funext x
      rw [mo_up_ne (Or.inl b2), mo_up_ne (Or.inl b1), hR a b3 b4, h1 a b1 b2 b3 b4]
    · dsimp only
      by_cases e : j = mt_cnq (6 * k + i)
      · subst e; simp [mo_up]
      · rw [mo_up_ne (Or.inr e), mo_up_ne (Or.inl (by decide)), hR 31 (by decide) (by decide)]
        exact h2 j (by omega)
    · dsimp only
      rw [mo_up_ne (Or.inl (by decide))]
      by_cases e : j = mt_cnq (6 * k + i)
      · subst e; simp [mo_up]
      · rw [mo_up_ne (Or.inr (fun w => e (SQL_inj (by omega) hc96 w))), hR 30 (by decide) (by decide)]
        exact h3 j (by omega)
    · dsimp only
      rw [mo_up_ne (Or.inl (by decide)), mo_up_ne (Or.inr (fun w => by have := SQL_inj hj hc96 w; omega)), hR 30 (by decide) (by decide)]
      exact h4 j hj (by omega)
theorem cnq_mono : mt_chk (fun n => Nat.ble 576 n || Nat.ble (mt_cnq n) (mt_cnq (n + 1))) 10 0 = true := by decide +kernel
theorem cnq_le {k i : Nat} (hk : k < 96) : i ≤ 6 → mt_cnq (6 * k) ≤ mt_cnq (6 * k + i) := by
  induction i with
  | zero => intro _; exact Nat.le_refl _
  | succ i ih =>
    intro hi
    have h := chk_s cnq_mono (6 * k + i) (Nat.zero_le _) (by simp; omega)
    rw [Bool.or_eq_true] at h
    rcases h with h | h
    · exact absurd (Nat.le_of_ble_eq_true h) (by omega)
    · have := Nat.le_of_ble_eq_true h
      have := ih (by omega)
      rw [show 6 * k + (i + 1) = 6 * k + i + 1 by omega]
      omega
theorem SqI_I {N0 : Nat → Nat → Nat} (hM : mt_MT N0) {k : Nat} (hk : k < 96) {S : (Nat → Nat → Nat) × Nat} (hS : S.2 = mt_cnq (6 * k)) (h : mt_SqI N0 S.1 (mt_cnq (6 * k))) : ∀ i, i ≤ 6 → mt_SqI N0 (mo_sqI k i S).1 (mt_cnq (6 * k + i)) ∧ (mo_sqI k i S).2 = mt_cnq (6 * k + i) := by
  intro i
  induction i with
  | zero => intro _; exact ⟨h, hS⟩
  | succ i ih =>
    intro hi
    obtain ⟨a, b⟩ := ih (by omega)
    have hkc : k < mt_cnq (6 * k + i) := Nat.lt_of_lt_of_le (cnq_k k hk) (cnq_le hk (by omega))
    have := SqI_s hM hk (by omega) a hkc
    rw [mo_sqI]
    rw [show mo_sqI k i S = ((mo_sqI k i S).1, mt_cnq (6 * k + i)) by rw [← b]]
    exact this
theorem SqI_all {N0 N : Nat → Nat → Nat} (hM : mt_MT N0) (h : mt_SqI N0 N 1) : ∀ k, k ≤ 96 → mt_SqI N0 (mo_sq k (N, 1)).1 (mt_cnq (6 * k)) ∧ (mo_sq k (N, 1)).2 = mt_cnq (6 * k) := by
  intro k
  induction k with
  | zero => intro _; rw [show mt_cnq (6 * 0) = 1 from cnq_96.2]; exact ⟨h, rfl⟩
  | succ k ih =>
    intro hk
    obtain ⟨a, b⟩ := ih (by omega)
    have := SqI_I hM (k := k) (by omega) b a 6 (Nat.le_refl _)
    rw [mo_sq, show 6 * (k + 1) = 6 * k + 6 by omega]
    exact this
theorem fk_v (N : Nat → Nat → Nat) : ∀ R r, r < R → mo_fk R N 30 r = 4294967295 ∧ mo_fk R N 28 r = 4294967295 := by
  intro R
  induction R with
  | zero => intro r h; omega
  | succ R ih =>
    intro r h
    rw [mo_fk]
    by_cases e : r = R
    · subst e; simp [mo_up]
    · have := ih r (by omega)
      rw [mo_up_ne (Or.inl (by decide)), mo_up_ne (Or.inr e), mo_up_ne (Or.inr e), mo_up_ne (Or.inl (by decide))]
      exact this
theorem fk_k {a : Nat} (h1 : a ≠ 28) (h2 : a ≠ 30) (N : Nat → Nat → Nat) : ∀ R, mo_fk R N a = N a := by
  intro R
  induction R with
  | zero => rfl
  | succ R ih => rw [mo_fk]; funext x; rw [mo_up_ne (Or.inl h1), mo_up_ne (Or.inl h2), ih]
theorem mt_Sq0 (N : Nat → Nat → Nat) : mt_SqI (mo_kinds0 N) (mo_kinds0 N) 1 := by
  refine ⟨fun _ _ _ _ _ => rfl, fun j hj => ?_, fun j hj => ?_, fun j hj hj2 => ?_⟩
  · rw [show j = 0 by omega, SQL_0]; simp [mo_kinds0, mo_up]
  · rw [show j = 0 by omega, SQL_0]; simp [mo_kinds0, mo_up]
  · have hne : mt_SQL j ≠ 0 := fun w => by
      have := SQL_inj hj (by decide) (w.trans SQL_0.symm)
      omega
    rw [mo_kinds0, mo_up_ne (Or.inl (by decide)), mo_up_ne (Or.inr hne), (fk_v N 40320 (mt_SQL j) (mo_rk_lt8 _)).1]
    decide
