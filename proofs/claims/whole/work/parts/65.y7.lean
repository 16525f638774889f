def mt_exM (p : Nat) : List Nat → Nat
  | [] => 0
  | d :: l => Nat.lor (Nat.shiftLeft (Nat.sub (Nat.pow 2 p) 1) (Nat.mul d p)) (mt_exM p l)
def mt_rpM (m w : Nat) : Nat → Nat
  | 0 => m
  | k + 1 => Nat.lor (mt_rpM m w k) (Nat.shiftLeft (mt_rpM m w k) (Nat.mul w (Nat.pow 2 k)))
theorem exM_s {p x : Nat} : ∀ {l : List Nat}, (mt_exM p l).testBit x = true → ∃ d r, d ∈ l ∧ r < p ∧ x = d * p + r := by
  intro l
  induction l with
  | nil => intro h; rw [mt_exM, Nat.zero_testBit] at h; exact absurd h (by decide)
  | cons d l ih =>
    intro h
    rw [mt_exM] at h
    have h' : (((2 ^ p - 1) <<< (d * p)) ||| mt_exM p l).testBit x = true := h
    rw [Nat.testBit_or, Bool.or_eq_true] at h'
    rcases h' with q | q
    · rw [Nat.testBit_shiftLeft, Bool.and_eq_true, Nat.testBit_two_pow_sub_one, decide_eq_true_eq, decide_eq_true_eq] at q
      exact ⟨d, x - d * p, List.mem_cons_self, q.2, by omega⟩
    · obtain ⟨d', r, h1, h2⟩ := ih q
      exact ⟨d', r, List.mem_cons_of_mem _ h1, h2⟩
theorem rpM_s {m w : Nat} : ∀ {k x : Nat}, (mt_rpM m w k).testBit x = true → ∃ u, u * w ≤ x ∧ m.testBit (x - u * w) = true := by
  intro k
  induction k with
  | zero => intro x h; exact ⟨0, by omega, by rw [Nat.zero_mul, Nat.sub_zero]; exact h⟩
  | succ k ih =>
    intro x h
    rw [mt_rpM] at h
    have h' : (mt_rpM m w k ||| (mt_rpM m w k) <<< (w * 2 ^ k)).testBit x = true := h
    rw [Nat.testBit_or, Bool.or_eq_true] at h'
    rcases h' with q | q
    · exact ih q
    · rw [Nat.testBit_shiftLeft, Bool.and_eq_true, decide_eq_true_eq] at q
      obtain ⟨u, h1, h2⟩ := ih q.2
      refine ⟨u + 2 ^ k, ?_, ?_⟩
      · rw [Nat.add_mul, Nat.mul_comm (2 ^ k) w]; omega
      · rw [Nat.add_mul, Nat.mul_comm (2 ^ k) w, show x - (u * w + w * 2 ^ k) = x - w * 2 ^ k - u * w by omega]; exact h2
def mt_mkM (p n k : Nat) (l : List Nat) : Nat := mt_rpM (mt_exM p l) (Nat.mul n p) k
theorem mkM_s {p n k x : Nat} {l : List Nat} (h : (mt_mkM p n k l).testBit x = true) : ∃ u d r, d ∈ l ∧ r < p ∧ x = u * (n * p) + d * p + r := by
  obtain ⟨u, h1, h2⟩ := rpM_s h
  obtain ⟨d, r, h3, h4, h5⟩ := exM_s h2
  exact ⟨u, d, r, h3, h4, by have : u * (n * p) = u * Nat.mul n p := rfl; omega⟩
def mt_opd (p n k : Nat) (B : Nat) : List (Nat × Nat × List Nat) → Nat
  | [] => 0
  | g :: gs => Nat.lor (Nat.shiftLeft (Nat.shiftRight (Nat.land B (mt_mkM p n k g.2.2)) (Nat.mul g.1 p)) (Nat.mul g.2.1 p)) (mt_opd p n k B gs)
def mt_mvd (p n : Nat) (tab : Nat → Nat) (y : Nat) : Nat := y - y / p % n * p + tab (y / p % n) * p
def mt_gok (n : Nat) (tab : Nat → Nat) (gs : List (Nat × Nat × List Nat)) : Bool := gs.all (fun g => g.2.2.all (fun d => Nat.ble g.1 d && (Nat.ble (d - g.1 + g.2.1 + 1) n && Nat.beq (tab (d - g.1 + g.2.1)) d)))
theorem opd_s {p n k B y : Nat} {tab : Nat → Nat} (hp : 0 < p) : ∀ {gs : List (Nat × Nat × List Nat)}, mt_gok n tab gs = true → (mt_opd p n k B gs).testBit y = true → B.testBit (mt_mvd p n tab y) = true := by
  intro gs
  induction gs with
  | nil => intro _ h; rw [mt_opd, Nat.zero_testBit] at h; exact absurd h (by decide)
  | cons g gs ih =>
    intro hg h
    rw [mt_gok, List.all_cons, Bool.and_eq_true] at hg
    have h' : ((((B &&& mt_mkM p n k g.2.2) >>> (g.1 * p)) <<< (g.2.1 * p)) ||| mt_opd p n k B gs).testBit y = true := h
    rw [Nat.testBit_or, Bool.or_eq_true] at h'
    rcases h' with q | q
    · rw [Nat.testBit_shiftLeft, Bool.and_eq_true, decide_eq_true_eq, Nat.testBit_shiftRight, Nat.testBit_and, Bool.and_eq_true] at q
      obtain ⟨q1, q2, q3⟩ := q
      obtain ⟨u, d, r, e1, e2, e3⟩ := mkM_s q3
      have hd := List.all_eq_true.mp hg.1 d e1
      rw [Bool.and_eq_true, Bool.and_eq_true, Nat.ble_eq, Nat.ble_eq] at hd
      obtain ⟨mt_d1, mt_d2, d3⟩ := hd
      have d3 := Nat.eq_of_beq_eq_true d3
      have ha : g.1 * p ≤ d * p := Nat.mul_le_mul_right p mt_d1
      have hy : y = u * (n * p) + (d - g.1 + g.2.1) * p + r := by
        rw [Nat.add_mul, Nat.sub_mul]
        omega
      have hdig : y / p % n = d - g.1 + g.2.1 := by
        have e : y = p * (u * n + (d - g.1 + g.2.1)) + r := by
          rw [hy, Nat.mul_add, Nat.mul_comm p (d - g.1 + g.2.1), ← Nat.mul_assoc, Nat.mul_comm p (u * n)]
        rw [e, Nat.mul_add_div hp, Nat.div_eq_of_lt e2, Nat.add_zero, Nat.mul_comm u n, Nat.mul_add_mod]
        exact Nat.mod_eq_of_lt (by omega)
      have hm : mt_mvd p n tab y = u * (n * p) + d * p + r := by
        rw [mt_mvd, hdig, d3]
        omega
      rw [hm, ← e3]
      exact q2
    · exact ih (by rw [mt_gok]; exact hg.2) q
def gr0_0 : List (Nat × Nat × List Nat) := [(4, 0, [4, 5, 6, 7, 12, 13, 14, 15, 20, 21, 22, 23, 28, 29, 30, 31, 36, 37, 38, 39, 44, 45, 46, 47, 52, 53, 54, 55, 60, 61, 62, 63, 68, 69, 70, 71, 76, 77, 78, 79, 84, 85, 86, 87, 92, 93, 94, 95]), (0, 4, [0, 1, 2, 3, 8, 9, 10, 11, 16, 17, 18, 19, 24, 25, 26, 27, 32, 33, 34, 35, 40, 41, 42, 43, 48, 49, 50, 51, 56, 57, 58, 59, 64, 65, 66, 67, 72, 73, 74, 75, 80, 81, 82, 83, 88, 89, 90, 91])]
theorem gr0_0_ok : mt_gok 96 (fun v => mt_tco (6 * v + 0)) gr0_0 = true := by decide +kernel
def gr1_0 : List (Nat × Nat × List Nat) := [(1, 0, [1, 3, 5, 7, 9, 11, 13, 15, 17, 19, 21, 23]), (0, 1, [0, 2, 4, 6, 8, 10, 12, 14, 16, 18, 20, 22])]
theorem gr1_0_ok : mt_gok 24 (fun v => mt_tr0 (6 * v + 0)) gr1_0 = true := by decide +kernel
def gr2_0 : List (Nat × Nat × List Nat) := [(1, 0, [1, 3, 5, 7, 9, 11, 13, 15, 17, 19, 21, 23]), (0, 1, [0, 2, 4, 6, 8, 10, 12, 14, 16, 18, 20, 22])]
theorem gr2_0_ok : mt_gok 24 (fun v => mt_tr1 (6 * v + 0)) gr2_0 = true := by decide +kernel
def op3_0 (B : Nat) : Nat := mt_opd 13824 96 0 (mt_opd 576 24 7 (mt_opd 24 24 12 (B) gr2_0) gr1_0) gr0_0
def gr0_1 : List (Nat × Nat × List Nat) := [(59, 0, [75, 79]), (57, 0, [74, 78]), (55, 0, [73, 77]), (53, 0, [72, 76]), (42, 0, [50, 51, 54, 55, 82, 83, 86, 87]), (38, 0, [48, 49, 52, 53, 80, 81, 84, 85]), (27, 0, [59, 63]), (25, 0, [25, 27, 29, 31, 58, 62, 89, 91, 93, 95]), (23, 0, [24, 26, 28, 30, 57, 61, 88, 90, 92, 94]), (21, 0, [56, 60]), (0, 21, [35, 39]), (0, 23, [1, 3, 5, 7, 34, 38, 65, 67, 69, 71]), (0, 25, [0, 2, 4, 6, 33, 37, 64, 66, 68, 70]), (0, 27, [32, 36]), (0, 38, [10, 11, 14, 15, 42, 43, 46, 47]), (0, 42, [8, 9, 12, 13, 40, 41, 44, 45]), (0, 53, [19, 23]), (0, 55, [18, 22]), (0, 57, [17, 21]), (0, 59, [16, 20])]
theorem gr0_1_ok : mt_gok 96 (fun v => mt_tco (6 * v + 1)) gr0_1 = true := by decide +kernel
def gr1_1 : List (Nat × Nat × List Nat) := [(14, 0, [18, 19]), (10, 0, [12, 13, 20, 21]), (6, 0, [6, 7, 14, 15, 22, 23]), (0, 6, [0, 1, 8, 9, 16, 17]), (0, 10, [2, 3, 10, 11]), (0, 14, [4, 5])]
theorem gr1_1_ok : mt_gok 24 (fun v => mt_tr0 (6 * v + 1)) gr1_1 = true := by decide +kernel
def gr2_1 : List (Nat × Nat × List Nat) := [(14, 0, [18, 19]), (10, 0, [12, 13, 20, 21]), (6, 0, [6, 7, 14, 15, 22, 23]), (0, 6, [0, 1, 8, 9, 16, 17]), (0, 10, [2, 3, 10, 11]), (0, 14, [4, 5])]
theorem gr2_1_ok : mt_gok 24 (fun v => mt_tr1 (6 * v + 1)) gr2_1 = true := by decide +kernel
def op3_1 (B : Nat) : Nat := mt_opd 13824 96 0 (mt_opd 576 24 7 (mt_opd 24 24 12 (B) gr2_1) gr1_1) gr0_1
def gr0_2 : List (Nat × Nat × List Nat) := [(84, 0, [84, 85, 86, 87, 92, 93, 94, 95]), (56, 0, [60, 61, 62, 63, 88, 89, 90, 91]), (52, 0, [68, 69, 70, 71, 76, 77, 78, 79]), (24, 0, [36, 37, 38, 39, 44, 45, 46, 47, 52, 53, 54, 55, 64, 65, 66, 67, 72, 73, 74, 75, 80, 81, 82, 83]), (0, 24, [12, 13, 14, 15, 20, 21, 22, 23, 28, 29, 30, 31, 40, 41, 42, 43, 48, 49, 50, 51, 56, 57, 58, 59]), (0, 52, [16, 17, 18, 19, 24, 25, 26, 27]), (0, 56, [4, 5, 6, 7, 32, 33, 34, 35]), (0, 84, [0, 1, 2, 3, 8, 9, 10, 11])]
theorem gr0_2_ok : mt_gok 96 (fun v => mt_tco (6 * v + 2)) gr0_2 = true := by decide +kernel
def gr2_2 : List (Nat × Nat × List Nat) := [(19, 0, [20, 22]), (14, 0, [14, 23]), (11, 0, [16, 18]), (6, 0, [8, 10, 12, 17, 19, 21]), (0, 6, [2, 4, 6, 11, 13, 15]), (0, 11, [5, 7]), (0, 14, [0, 9]), (0, 19, [1, 3])]
theorem gr2_2_ok : mt_gok 24 (fun v => mt_tr1 (6 * v + 2)) gr2_2 = true := by decide +kernel
def gr3_2 : List (Nat × Nat × List Nat) := [(19, 0, [20, 22]), (14, 0, [14, 23]), (11, 0, [16, 18]), (6, 0, [8, 10, 12, 17, 19, 21]), (0, 6, [2, 4, 6, 11, 13, 15]), (0, 11, [5, 7]), (0, 14, [0, 9]), (0, 19, [1, 3])]
theorem gr3_2_ok : mt_gok 24 (fun v => mt_tr2 (6 * v + 2)) gr3_2 = true := by decide +kernel
def op3_2 (B : Nat) : Nat := mt_opd 13824 96 0 (mt_opd 24 24 12 (mt_opd 1 24 16 (B) gr3_2) gr2_2) gr0_2
def gr0_3 : List (Nat × Nat × List Nat) := [(15, 0, [43, 67]), (14, 0, [18, 19, 90, 91]), (13, 0, [42, 66]), (11, 0, [11, 41, 65, 95]), (10, 0, [16, 17, 34, 35, 70, 71, 88, 89]), (9, 0, [10, 21, 23, 40, 45, 47, 57, 59, 64, 81, 83, 94]), (7, 0, [9, 20, 22, 44, 46, 56, 58, 80, 82, 93]), (6, 0, [32, 33, 68, 69]), (5, 0, [8, 92]), (0, 5, [3, 87]), (0, 6, [26, 27, 62, 63]), (0, 7, [2, 13, 15, 37, 39, 49, 51, 73, 75, 86]), (0, 9, [1, 12, 14, 31, 36, 38, 48, 50, 55, 72, 74, 85]), (0, 10, [6, 7, 24, 25, 60, 61, 78, 79]), (0, 11, [0, 30, 54, 84]), (0, 13, [29, 53]), (0, 14, [4, 5, 76, 77]), (0, 15, [28, 52])]
theorem gr0_3_ok : mt_gok 96 (fun v => mt_tco (6 * v + 3)) gr0_3 = true := by decide +kernel
def gr2_3 : List (Nat × Nat × List Nat) := [(5, 0, [5, 11, 17, 23]), (2, 0, [3, 4, 9, 10, 15, 16, 21, 22]), (0, 2, [1, 2, 7, 8, 13, 14, 19, 20]), (0, 5, [0, 6, 12, 18])]
theorem gr2_3_ok : mt_gok 24 (fun v => mt_tr1 (6 * v + 3)) gr2_3 = true := by decide +kernel
def gr3_3 : List (Nat × Nat × List Nat) := [(5, 0, [5, 11, 17, 23]), (2, 0, [3, 4, 9, 10, 15, 16, 21, 22]), (0, 2, [1, 2, 7, 8, 13, 14, 19, 20]), (0, 5, [0, 6, 12, 18])]
theorem gr3_3_ok : mt_gok 24 (fun v => mt_tr2 (6 * v + 3)) gr3_3 = true := by decide +kernel
def op3_3 (B : Nat) : Nat := mt_opd 13824 96 0 (mt_opd 24 24 12 (mt_opd 1 24 16 (B) gr3_3) gr2_3) gr0_3
def gr0_4 : List (Nat × Nat × List Nat) := [(79, 0, [83, 91]), (77, 0, [82, 90]), (75, 0, [81, 89]), (73, 0, [80, 88]), (58, 0, [58, 59, 94, 95]), (54, 0, [56, 57, 92, 93]), (46, 0, [66, 67, 74, 75]), (42, 0, [64, 65, 72, 73]), (27, 0, [51, 71]), (25, 0, [33, 35, 41, 43, 50, 70, 77, 79, 85, 87]), (23, 0, [32, 34, 40, 42, 49, 69, 76, 78, 84, 86]), (21, 0, [48, 68]), (0, 21, [27, 47]), (0, 23, [9, 11, 17, 19, 26, 46, 53, 55, 61, 63]), (0, 25, [8, 10, 16, 18, 25, 45, 52, 54, 60, 62]), (0, 27, [24, 44]), (0, 42, [22, 23, 30, 31]), (0, 46, [20, 21, 28, 29]), (0, 54, [2, 3, 38, 39]), (0, 58, [0, 1, 36, 37]), (0, 73, [7, 15]), (0, 75, [6, 14]), (0, 77, [5, 13]), (0, 79, [4, 12])]
theorem gr0_4_ok : mt_gok 96 (fun v => mt_tco (6 * v + 4)) gr0_4 = true := by decide +kernel
def gr1_4 : List (Nat × Nat × List Nat) := [(19, 0, [20, 22]), (14, 0, [14, 23]), (11, 0, [16, 18]), (6, 0, [8, 10, 12, 17, 19, 21]), (0, 6, [2, 4, 6, 11, 13, 15]), (0, 11, [5, 7]), (0, 14, [0, 9]), (0, 19, [1, 3])]
theorem gr1_4_ok : mt_gok 24 (fun v => mt_tr0 (6 * v + 4)) gr1_4 = true := by decide +kernel
def gr3_4 : List (Nat × Nat × List Nat) := [(14, 0, [18, 19]), (10, 0, [12, 13, 20, 21]), (6, 0, [6, 7, 14, 15, 22, 23]), (0, 6, [0, 1, 8, 9, 16, 17]), (0, 10, [2, 3, 10, 11]), (0, 14, [4, 5])]
theorem gr3_4_ok : mt_gok 24 (fun v => mt_tr2 (6 * v + 4)) gr3_4 = true := by decide +kernel
def op3_4 (B : Nat) : Nat := mt_opd 13824 96 0 (mt_opd 576 24 7 (mt_opd 1 24 16 (B) gr3_4) gr1_4) gr0_4
def gr0_5 : List (Nat × Nat × List Nat) := [(20, 0, [20, 21, 22, 23, 44, 45, 46, 47, 68, 69, 70, 71, 92, 93, 94, 95]), (8, 0, [12, 13, 14, 15, 16, 17, 18, 19, 36, 37, 38, 39, 40, 41, 42, 43, 60, 61, 62, 63, 64, 65, 66, 67, 84, 85, 86, 87, 88, 89, 90, 91]), (0, 8, [4, 5, 6, 7, 8, 9, 10, 11, 28, 29, 30, 31, 32, 33, 34, 35, 52, 53, 54, 55, 56, 57, 58, 59, 76, 77, 78, 79, 80, 81, 82, 83]), (0, 20, [0, 1, 2, 3, 24, 25, 26, 27, 48, 49, 50, 51, 72, 73, 74, 75])]
theorem gr0_5_ok : mt_gok 96 (fun v => mt_tco (6 * v + 5)) gr0_5 = true := by decide +kernel
def gr1_5 : List (Nat × Nat × List Nat) := [(5, 0, [5, 11, 17, 23]), (2, 0, [3, 4, 9, 10, 15, 16, 21, 22]), (0, 2, [1, 2, 7, 8, 13, 14, 19, 20]), (0, 5, [0, 6, 12, 18])]
theorem gr1_5_ok : mt_gok 24 (fun v => mt_tr0 (6 * v + 5)) gr1_5 = true := by decide +kernel
def gr3_5 : List (Nat × Nat × List Nat) := [(1, 0, [1, 3, 5, 7, 9, 11, 13, 15, 17, 19, 21, 23]), (0, 1, [0, 2, 4, 6, 8, 10, 12, 14, 16, 18, 20, 22])]
theorem gr3_5_ok : mt_gok 24 (fun v => mt_tr2 (6 * v + 5)) gr3_5 = true := by decide +kernel
def op3_5 (B : Nat) : Nat := mt_opd 13824 96 0 (mt_opd 576 24 7 (mt_opd 1 24 16 (B) gr3_5) gr1_5) gr0_5
def stp3 (B : Nat) : Nat := (Nat.lor (op3_0 B) (Nat.lor (op3_1 B) (Nat.lor (op3_2 B) (Nat.lor (op3_3 B) (Nat.lor (op3_4 B) (Nat.lor (op3_5 B) B))))))
def mt_U3 : Nat → Nat
  | 0 => 1
  | d + 1 => stp3 (mt_U3 d)
def mt_grW : List (Nat × Nat × List Nat) := [(0, 1, [0, 2, 4, 6, 8, 10, 12, 14, 16, 18, 20, 22]), (1, 0, [1, 3, 5, 7, 9, 11, 13, 15, 17, 19, 21, 23])]
def mt_tau (v : Nat) : Nat := if v % 2 = 0 then v + 1 else v - 1
theorem grW_ok : mt_gok 24 mt_tau mt_grW = true := by decide +kernel
theorem U3_full : Nat.beq (Nat.lor (mt_U3 15) (mt_opd 1 24 16 (mt_U3 15) mt_grW)) (Nat.sub (Nat.pow 2 1327104) 1) = true := by decide +kernel
theorem idn3_0 : ∀ v, v < 24 → mt_tr2 (6 * v + 0) = v := by decide +kernel
theorem idn3_1 : ∀ v, v < 24 → mt_tr2 (6 * v + 1) = v := by decide +kernel
theorem idn1_2 : ∀ v, v < 24 → mt_tr0 (6 * v + 2) = v := by decide +kernel
theorem idn1_3 : ∀ v, v < 24 → mt_tr0 (6 * v + 3) = v := by decide +kernel
theorem idn2_4 : ∀ v, v < 24 → mt_tr1 (6 * v + 4) = v := by decide +kernel
theorem idn2_5 : ∀ v, v < 24 → mt_tr1 (6 * v + 5) = v := by decide +kernel
theorem mvd_dig {p n : Nat} {tab : Nat → Nat} {u d r : Nat} (hp : 0 < p) (hr : r < p) (hd : d < n) : mt_mvd p n tab (u * (n * p) + d * p + r) = u * (n * p) + tab d * p + r := by
  have e : (u * (n * p) + d * p + r) / p % n = d := by
    have e : u * (n * p) + d * p + r = p * (u * n + d) + r := by
      rw [Nat.mul_add, Nat.mul_comm p d, ← Nat.mul_assoc, Nat.mul_comm p (u * n)]
    rw [e, Nat.mul_add_div hp, Nat.div_eq_of_lt hr, Nat.add_zero, Nat.mul_comm u n, Nat.mul_add_mod]
    exact Nat.mod_eq_of_lt hd
  rw [mt_mvd, e]
  omega
theorem mt_mv3 {tab : Nat → Nat} {c a b e : Nat} (he : e < 24) : mt_mvd 1 24 tab (((c * 24 + a) * 24 + b) * 24 + e) = ((c * 24 + a) * 24 + b) * 24 + tab e := by
  have := mvd_dig (tab := tab) (p := 1) (n := 24) (u := (c * 24 + a) * 24 + b) (d := e) (r := 0) (by decide) (by decide) he
  rw [show ((c * 24 + a) * 24 + b) * 24 + e = ((c * 24 + a) * 24 + b) * (24 * 1) + e * 1 + 0 by omega, this]; omega
theorem mt_mv2 {tab : Nat → Nat} {c a b e : Nat} (hb : b < 24) (he : e < 24) : mt_mvd 24 24 tab (((c * 24 + a) * 24 + b) * 24 + e) = ((c * 24 + a) * 24 + tab b) * 24 + e := by
  have := mvd_dig (tab := tab) (p := 24) (n := 24) (u := c * 24 + a) (d := b) (r := e) (by decide) he hb
  rw [show ((c * 24 + a) * 24 + b) * 24 + e = (c * 24 + a) * (24 * 24) + b * 24 + e by omega, this]; omega
theorem mt_mv1 {tab : Nat → Nat} {c a b e : Nat} (ha : a < 24) (hb : b < 24) (he : e < 24) : mt_mvd 576 24 tab (((c * 24 + a) * 24 + b) * 24 + e) = ((c * 24 + tab a) * 24 + b) * 24 + e := by
  have := mvd_dig (tab := tab) (p := 576) (n := 24) (u := c) (d := a) (r := b * 24 + e) (by decide) (by omega) ha
  rw [show ((c * 24 + a) * 24 + b) * 24 + e = c * (24 * 576) + a * 576 + (b * 24 + e) by omega, this]; omega
theorem mt_mv0 {tab : Nat → Nat} {c a b e : Nat} (hc : c < 96) (ha : a < 24) (hb : b < 24) (he : e < 24) : mt_mvd 13824 96 tab (((c * 24 + a) * 24 + b) * 24 + e) = ((tab c * 24 + a) * 24 + b) * 24 + e := by
  have := mvd_dig (tab := tab) (p := 13824) (n := 96) (u := 0) (d := c) (r := a * 576 + b * 24 + e) (by decide) (by omega) hc
  rw [show ((c * 24 + a) * 24 + b) * 24 + e = 0 * (96 * 13824) + c * 13824 + (a * 576 + b * 24 + e) by omega, this]; omega
theorem op3_0_s {B c a b e : Nat} (hc : c < 96) (ha : a < 24) (hb : b < 24) (he : e < 24) (h : (op3_0 B).testBit (((c * 24 + a) * 24 + b) * 24 + e) = true) : B.testBit (((mt_tco (6 * c + 0) * 24 + mt_tr0 (6 * a + 0)) * 24 + mt_tr1 (6 * b + 0)) * 24 + mt_tr2 (6 * e + 0)) = true := by
  have h0 := tco_eq (j := 6 * c + 0) (by omega)
  have h1 := tr0_eq (j := 6 * a + 0) (by omega)
  have h2 := tr1_eq (j := 6 * b + 0) (by omega)
  have h3 := tr2_eq (j := 6 * e + 0) (by omega)
  have l0 : mt_tco (6 * c + 0) < 96 := by rw [← h0]; exact nxco_lt c hc 0 (by decide)
  have l1 : mt_tr0 (6 * a + 0) < 24 := by rw [← h1]; exact nxor_lt 0 (by decide) a ha 0 (by decide)
  have l2 : mt_tr1 (6 * b + 0) < 24 := by rw [← h2]; exact nxor_lt 1 (by decide) b hb 0 (by decide)
  have l3 : mt_tr2 (6 * e + 0) < 24 := by rw [← h3]; exact nxor_lt 2 (by decide) e he 0 (by decide)
  rw [op3_0] at h
  have h := opd_s (tab := fun v => mt_tco (6 * v + 0)) (by decide) gr0_0_ok h
  rw [mt_mv0 hc ha hb he] at h
  have h := opd_s (tab := fun v => mt_tr0 (6 * v + 0)) (by decide) gr1_0_ok h
  rw [mt_mv1 ha hb he] at h
  have h := opd_s (tab := fun v => mt_tr1 (6 * v + 0)) (by decide) gr2_0_ok h
  rw [mt_mv2 hb he] at h
  rw [idn3_0 _ he]
  exact h
theorem op3_1_s {B c a b e : Nat} (hc : c < 96) (ha : a < 24) (hb : b < 24) (he : e < 24) (h : (op3_1 B).testBit (((c * 24 + a) * 24 + b) * 24 + e) = true) : B.testBit (((mt_tco (6 * c + 1) * 24 + mt_tr0 (6 * a + 1)) * 24 + mt_tr1 (6 * b + 1)) * 24 + mt_tr2 (6 * e + 1)) = true := by
  have h0 := tco_eq (j := 6 * c + 1) (by omega)
  have h1 := tr0_eq (j := 6 * a + 1) (by omega)
  have h2 := tr1_eq (j := 6 * b + 1) (by omega)
  have h3 := tr2_eq (j := 6 * e + 1) (by omega)
  have l0 : mt_tco (6 * c + 1) < 96 := by rw [← h0]; exact nxco_lt c hc 1 (by decide)
  have l1 : mt_tr0 (6 * a + 1) < 24 := by rw [← h1]; exact nxor_lt 0 (by decide) a ha 1 (by decide)
  have l2 : mt_tr1 (6 * b + 1) < 24 := by rw [← h2]; exact nxor_lt 1 (by decide) b hb 1 (by decide)
  have l3 : mt_tr2 (6 * e + 1) < 24 := by rw [← h3]; exact nxor_lt 2 (by decide) e he 1 (by decide)
  rw [op3_1] at h
  have h := opd_s (tab := fun v => mt_tco (6 * v + 1)) (by decide) gr0_1_ok h
  rw [mt_mv0 hc ha hb he] at h
  have h := opd_s (tab := fun v => mt_tr0 (6 * v + 1)) (by decide) gr1_1_ok h
  rw [mt_mv1 ha hb he] at h
  have h := opd_s (tab := fun v => mt_tr1 (6 * v + 1)) (by decide) gr2_1_ok h
  rw [mt_mv2 hb he] at h
  rw [idn3_1 _ he]
  exact h
theorem op3_2_s {B c a b e : Nat} (hc : c < 96) (ha : a < 24) (hb : b < 24) (he : e < 24) (h : (op3_2 B).testBit (((c * 24 + a) * 24 + b) * 24 + e) = true) : B.testBit (((mt_tco (6 * c + 2) * 24 + mt_tr0 (6 * a + 2)) * 24 + mt_tr1 (6 * b + 2)) * 24 + mt_tr2 (6 * e + 2)) = true := by
  have h0 := tco_eq (j := 6 * c + 2) (by omega)
  have h1 := tr0_eq (j := 6 * a + 2) (by omega)
  have h2 := tr1_eq (j := 6 * b + 2) (by omega)
  have h3 := tr2_eq (j := 6 * e + 2) (by omega)
  have l0 : mt_tco (6 * c + 2) < 96 := by rw [← h0]; exact nxco_lt c hc 2 (by decide)
  have l1 : mt_tr0 (6 * a + 2) < 24 := by rw [← h1]; exact nxor_lt 0 (by decide) a ha 2 (by decide)
  have l2 : mt_tr1 (6 * b + 2) < 24 := by rw [← h2]; exact nxor_lt 1 (by decide) b hb 2 (by decide)
  have l3 : mt_tr2 (6 * e + 2) < 24 := by rw [← h3]; exact nxor_lt 2 (by decide) e he 2 (by decide)
  rw [op3_2] at h
  have h := opd_s (tab := fun v => mt_tco (6 * v + 2)) (by decide) gr0_2_ok h
  rw [mt_mv0 hc ha hb he] at h
  have h := opd_s (tab := fun v => mt_tr1 (6 * v + 2)) (by decide) gr2_2_ok h
  rw [mt_mv2 hb he] at h
  have h := opd_s (tab := fun v => mt_tr2 (6 * v + 2)) (by decide) gr3_2_ok h
  rw [mt_mv3 he] at h
  rw [idn1_2 _ ha]
  exact h
theorem op3_3_s {B c a b e : Nat} (hc : c < 96) (ha : a < 24) (hb : b < 24) (he : e < 24) (h : (op3_3 B).testBit (((c * 24 + a) * 24 + b) * 24 + e) = true) : B.testBit (((mt_tco (6 * c + 3) * 24 + mt_tr0 (6 * a + 3)) * 24 + mt_tr1 (6 * b + 3)) * 24 + mt_tr2 (6 * e + 3)) = true := by
  have h0 := tco_eq (j := 6 * c + 3) (by omega)
  have h1 := tr0_eq (j := 6 * a + 3) (by omega)
  have h2 := tr1_eq (j := 6 * b + 3) (by omega)
  have h3 := tr2_eq (j := 6 * e + 3) (by omega)
  have l0 : mt_tco (6 * c + 3) < 96 := by rw [← h0]; exact nxco_lt c hc 3 (by decide)
  have l1 : mt_tr0 (6 * a + 3) < 24 := by rw [← h1]; exact nxor_lt 0 (by decide) a ha 3 (by decide)
  have l2 : mt_tr1 (6 * b + 3) < 24 := by rw [← h2]; exact nxor_lt 1 (by decide) b hb 3 (by decide)
  have l3 : mt_tr2 (6 * e + 3) < 24 := by rw [← h3]; exact nxor_lt 2 (by decide) e he 3 (by decide)
  rw [op3_3] at h
  have h := opd_s (tab := fun v => mt_tco (6 * v + 3)) (by decide) gr0_3_ok h
  rw [mt_mv0 hc ha hb he] at h
  have h := opd_s (tab := fun v => mt_tr1 (6 * v + 3)) (by decide) gr2_3_ok h
  rw [mt_mv2 hb he] at h
  have h := opd_s (tab := fun v => mt_tr2 (6 * v + 3)) (by decide) gr3_3_ok h
  rw [mt_mv3 he] at h
  rw [idn1_3 _ ha]
  exact h
theorem op3_4_s {B c a b e : Nat} (hc : c < 96) (ha : a < 24) (hb : b < 24) (he : e < 24) (h : (op3_4 B).testBit (((c * 24 + a) * 24 + b) * 24 + e) = true) : B.testBit (((mt_tco (6 * c + 4) * 24 + mt_tr0 (6 * a + 4)) * 24 + mt_tr1 (6 * b + 4)) * 24 + mt_tr2 (6 * e + 4)) = true := by
  have h0 := tco_eq (j := 6 * c + 4) (by omega)
  have h1 := tr0_eq (j := 6 * a + 4) (by omega)
  have h2 := tr1_eq (j := 6 * b + 4) (by omega)
  have h3 := tr2_eq (j := 6 * e + 4) (by omega)
  have l0 : mt_tco (6 * c + 4) < 96 := by rw [← h0]; exact nxco_lt c hc 4 (by decide)
  have l1 : mt_tr0 (6 * a + 4) < 24 := by rw [← h1]; exact nxor_lt 0 (by decide) a ha 4 (by decide)
  have l2 : mt_tr1 (6 * b + 4) < 24 := by rw [← h2]; exact nxor_lt 1 (by decide) b hb 4 (by decide)
  have l3 : mt_tr2 (6 * e + 4) < 24 := by rw [← h3]; exact nxor_lt 2 (by decide) e he 4 (by decide)
  rw [op3_4] at h
  have h := opd_s (tab := fun v => mt_tco (6 * v + 4)) (by decide) gr0_4_ok h
  rw [mt_mv0 hc ha hb he] at h
  have h := opd_s (tab := fun v => mt_tr0 (6 * v + 4)) (by decide) gr1_4_ok h
  rw [mt_mv1 ha hb he] at h
  have h := opd_s (tab := fun v => mt_tr2 (6 * v + 4)) (by decide) gr3_4_ok h
  rw [mt_mv3 he] at h
  rw [idn2_4 _ hb]
  exact h
theorem op3_5_s {B c a b e : Nat} (hc : c < 96) (ha : a < 24) (hb : b < 24) (he : e < 24) (h : (op3_5 B).testBit (((c * 24 + a) * 24 + b) * 24 + e) = true) : B.testBit (((mt_tco (6 * c + 5) * 24 + mt_tr0 (6 * a + 5)) * 24 + mt_tr1 (6 * b + 5)) * 24 + mt_tr2 (6 * e + 5)) = true := by
  have h0 := tco_eq (j := 6 * c + 5) (by omega)
  have h1 := tr0_eq (j := 6 * a + 5) (by omega)
  have h2 := tr1_eq (j := 6 * b + 5) (by omega)
  have h3 := tr2_eq (j := 6 * e + 5) (by omega)
  have l0 : mt_tco (6 * c + 5) < 96 := by rw [← h0]; exact nxco_lt c hc 5 (by decide)
  have l1 : mt_tr0 (6 * a + 5) < 24 := by rw [← h1]; exact nxor_lt 0 (by decide) a ha 5 (by decide)
  have l2 : mt_tr1 (6 * b + 5) < 24 := by rw [← h2]; exact nxor_lt 1 (by decide) b hb 5 (by decide)
  have l3 : mt_tr2 (6 * e + 5) < 24 := by rw [← h3]; exact nxor_lt 2 (by decide) e he 5 (by decide)
  rw [op3_5] at h
  have h := opd_s (tab := fun v => mt_tco (6 * v + 5)) (by decide) gr0_5_ok h
  rw [mt_mv0 hc ha hb he] at h
  have h := opd_s (tab := fun v => mt_tr0 (6 * v + 5)) (by decide) gr1_5_ok h
  rw [mt_mv1 ha hb he] at h
  have h := opd_s (tab := fun v => mt_tr2 (6 * v + 5)) (by decide) gr3_5_ok h
  rw [mt_mv3 he] at h
  rw [idn2_5 _ hb]
  exact h
theorem U3_s : ∀ n c a b e, c < 96 → a < 24 → b < 24 → e < 24 → (mt_U3 (n + 1)).testBit (((c * 24 + a) * 24 + b) * 24 + e) = true → (mt_U3 n).testBit (((c * 24 + a) * 24 + b) * 24 + e) = true ∨ ∃ f, f < 6 ∧ (mt_U3 n).testBit (((mt_tco (6 * c + f) * 24 + mt_tr0 (6 * a + f)) * 24 + mt_tr1 (6 * b + f)) * 24 + mt_tr2 (6 * e + f)) = true := by
  intro n c a b e hc ha hb he h
  rw [mt_U3, stp3] at h
  have h' : (op3_0 (mt_U3 n) ||| (op3_1 (mt_U3 n) ||| (op3_2 (mt_U3 n) ||| (op3_3 (mt_U3 n) ||| (op3_4 (mt_U3 n) ||| (op3_5 (mt_U3 n) ||| mt_U3 n)))))).testBit (((c * 24 + a) * 24 + b) * 24 + e) = true := h
  rw [Nat.testBit_or, Nat.testBit_or, Nat.testBit_or, Nat.testBit_or, Nat.testBit_or, Nat.testBit_or, Bool.or_eq_true, Bool.or_eq_true, Bool.or_eq_true, Bool.or_eq_true, Bool.or_eq_true, Bool.or_eq_true] at h'
  rcases h' with q | q | q | q | q | q | q
  · exact Or.inr ⟨0, by decide, op3_0_s hc ha hb he q⟩
  · exact Or.inr ⟨1, by decide, op3_1_s hc ha hb he q⟩
  · exact Or.inr ⟨2, by decide, op3_2_s hc ha hb he q⟩
  · exact Or.inr ⟨3, by decide, op3_3_s hc ha hb he q⟩
  · exact Or.inr ⟨4, by decide, op3_4_s hc ha hb he q⟩
  · exact Or.inr ⟨5, by decide, op3_5_s hc ha hb he q⟩
  · exact Or.inl q
theorem sv3x (q : Q4) : sv3q q = ((mt_x3 q 0 * 24 + mt_x3 q 1) * 24 + mt_x3 q 2) * 24 + mt_x3 q 3 := by
  show (((0 * 96 + mt_x3 q 0) * 24 + mt_x3 q 1) * 24 + mt_x3 q 2) * 24 + mt_x3 q 3 = _
  rw [Nat.zero_mul, Nat.zero_add]
theorem x3_mk {q : Q4} (h : mt_C3 q) {f : Nat} (hf : f < 6) : mt_C3 (mkQ (3 * f + 1) q) ∧ mt_x3 (mkQ (3 * f + 1) q) 0 = mt_tco (6 * mt_x3 q 0 + f) ∧ mt_x3 (mkQ (3 * f + 1) q) 1 = mt_tr0 (6 * mt_x3 q 1 + f) ∧ mt_x3 (mkQ (3 * f + 1) q) 2 = mt_tr1 (6 * mt_x3 q 2 + f) ∧ mt_x3 (mkQ (3 * f + 1) q) 3 = mt_tr2 (6 * mt_x3 q 3 + f) := by
  have e : mkQ (3 * f + 1) q = mt_pwQ f q (mt_stp 0 f) := by rw [mkQ_pw, show (3 * f + 1) / 3 = f by omega, show (3 * f + 1) % 3 + 1 = 2 by omega]; rfl
  rw [e]
  have l := mt_lt3 q h
  have l0 : mt_x3 q 0 < 96 := l 0 (by decide)
  have l1 : mt_x3 q 1 < 24 := l 1 (by decide)
  have l2 : mt_x3 q 2 < 24 := l 2 (by decide)
  have l3 : mt_x3 q 3 < 24 := l 3 (by decide)
  refine ⟨C3_st h hf, ?_, ?_, ?_, ?_⟩
  · rw [mt_rc3 q f 0 h hf (by decide)]; exact tco_eq (by omega)
  · rw [mt_rc3 q f 1 h hf (by decide)]; exact tr0_eq (by omega)
  · rw [mt_rc3 q f 2 h hf (by decide)]; exact tr1_eq (by omega)
  · rw [mt_rc3 q f 3 h hf (by decide)]; exact tr2_eq (by omega)
theorem U3_R : ∀ n q, mt_C3 q → (mt_U3 n).testBit (sv3q q) = true → mt_RQ mt_G3 mkQ (mt_alq 0) n q := by
  intro n
  induction n with
  | zero =>
    intro q h hb
    have : sv3q q = 0 := by
      rw [mt_U3] at hb
      by_cases c : sv3q q = 0
      · exact c
      · have : Nat.testBit 1 (sv3q q) = false := by
          rw [show (1 : Nat) = 2 ^ 0 from rfl, Nat.testBit_two_pow]
          exact decide_eq_false (fun e => c e.symm)
        rw [this] at hb; exact absurd hb (by decide)
    exact this
  | succ n ih =>
    intro q h hb
    rw [sv3x] at hb
    have l := mt_lt3 q h
    rcases U3_s n _ _ _ _ (l 0 (by decide)) (l 1 (by decide)) (l 2 (by decide)) (l 3 (by decide)) hb with w | ⟨f, hf, w⟩
    · rw [← sv3x] at w; exact RQ_s (ih q h w)
    · obtain ⟨h1, e0, e1, e2, e3⟩ := x3_mk h hf
      rw [← e0, ← e1, ← e2, ← e3, ← sv3x] at w
      exact Or.inr ⟨3 * f + 1, by omega, Or.inr (by omega), ih _ h1 w⟩
def mt_pC3 (c : Nat) : Nat := [0, 0, 0, 0, 0, 0, 0, 0, 0, 0, 0, 0, 0, 0, 0, 0, 0, 0, 0, 0, 0, 0, 0, 0, 0, 0, 0, 0, 0, 0, 0, 0, 0, 0, 0, 0, 0, 0, 0, 0, 0, 0, 0, 0, 0, 0, 0, 0, 0, 0, 0, 0, 0, 0, 0, 0, 0, 0, 0, 0, 0, 0, 0, 0, 0, 0, 0, 0, 0, 0, 0, 0, 0, 0, 0, 0, 0, 0, 0, 0, 0, 0, 0, 0, 0, 0, 0, 0, 0, 0, 0, 0, 0, 0, 0, 0].getD c 0
def mt_pO3 (c : Nat) : Nat := [0, 1, 1, 0, 0, 1, 1, 0, 0, 1, 1, 0, 0, 1, 1, 0, 0, 1, 1, 0, 0, 1, 1, 0].getD c 0
theorem pC_k : ∀ c, c < 96 → mt_pC3 c < 2 ∧ ∀ f, f < 6 → mt_pC3 (mt_tco (6 * c + f)) = mt_pC3 c := by decide +kernel
theorem pO_2 : ∀ c, c < 24 → mt_pO3 c < 2 ∧ mt_pO3 (mt_tau c) = 1 - mt_pO3 c ∧ mt_tau c < 24 := by decide +kernel
theorem pO_k1 : ∀ c, c < 24 → ∀ f, f < 6 → mt_pO3 (mt_tr0 (6 * c + f)) = (mt_pO3 c + [1, 1, 0, 0, 1, 1].getD f 0) % 2 := by decide +kernel
theorem pO_k2 : ∀ c, c < 24 → ∀ f, f < 6 → mt_pO3 (mt_tr1 (6 * c + f)) = (mt_pO3 c + [1, 1, 1, 1, 0, 0].getD f 0) % 2 := by decide +kernel
theorem pO_k3 : ∀ c, c < 24 → ∀ f, f < 6 → mt_pO3 (mt_tr2 (6 * c + f)) = (mt_pO3 c + [0, 0, 1, 1, 1, 1].getD f 0) % 2 := by decide +kernel
theorem mt_kk3 : ∀ f, f < 6 → ([1, 1, 0, 0, 1, 1].getD f 0 + [1, 1, 1, 1, 0, 0].getD f 0 + [0, 0, 1, 1, 1, 1].getD f 0) % 2 = 0 ∧ [1, 1, 0, 0, 1, 1].getD f 0 < 2 ∧ [1, 1, 1, 1, 0, 0].getD f 0 < 2 ∧ [0, 0, 1, 1, 1, 1].getD f 0 < 2 := by decide
theorem U3_p : ∀ n c a b e, c < 96 → a < 24 → b < 24 → e < 24 → (mt_U3 n).testBit (((c * 24 + a) * 24 + b) * 24 + e) = true → (mt_pC3 c + mt_pO3 a + mt_pO3 b + mt_pO3 e) % 2 = 0 := by
  intro n
  induction n with
  | zero =>
    intro c a b e hc ha hb he h
    have h0 : ((c * 24 + a) * 24 + b) * 24 + e = 0 := by
      rw [mt_U3, show (1 : Nat) = 2 ^ 0 from rfl, Nat.testBit_two_pow] at h
      exact (of_decide_eq_true h).symm
    rw [show c = 0 by omega, show a = 0 by omega, show b = 0 by omega, show e = 0 by omega]
    decide
  | succ n ih =>
    intro c a b e hc ha hb he h
    rcases U3_s n c a b e hc ha hb he h with w | ⟨f, hf, w⟩
    · exact ih c a b e hc ha hb he w
    · have l0 : mt_tco (6 * c + f) < 96 := by rw [← tco_eq (j := 6 * c + f) (by omega)]; exact nxco_lt c hc f hf
      have l1 : mt_tr0 (6 * a + f) < 24 := by rw [← tr0_eq (j := 6 * a + f) (by omega)]; exact nxor_lt 0 (by decide) a ha f hf
      have l2 : mt_tr1 (6 * b + f) < 24 := by rw [← tr1_eq (j := 6 * b + f) (by omega)]; exact nxor_lt 1 (by decide) b hb f hf
      have l3 : mt_tr2 (6 * e + f) < 24 := by rw [← tr2_eq (j := 6 * e + f) (by omega)]; exact nxor_lt 2 (by decide) e he f hf
      have := ih _ _ _ _ l0 l1 l2 l3 w
      rw [(pC_k c hc).2 f hf, pO_k1 a ha f hf, pO_k2 b hb f hf, pO_k3 e he f hf] at this
      have := mt_kk3 f hf
      omega
theorem od_cg {P P' : Nat → Nat} : ∀ nn i, i ≤ nn → (∀ j, j < nn → P j = P' j) → od_ P nn i = od_ P' nn i := by
  intro nn i
  induction i with
  | zero => intro _ _; rfl
  | succ i ih =>
    intro hi h
    rw [od_, od_, ih (by omega) h]
    have key : ∀ s b, s ≤ nn - (i + 1) → od_i P i b s = od_i P' i b s := by
      intro s
      induction s with
      | zero => intro b _; rfl
      | succ s ih2 => intro b hs; rw [od_i, od_i, ih2 b (by omega), h i (by omega), h (i + 1 + s) (by omega)]
    exact key _ _ (Nat.le_refl _)
theorem pC_sh : ∀ c, c < 96 → od_ (mt_shC c (fun _ => 0) (fun _ => 0)) 8 8 = mt_pC3 c := by decide +kernel
theorem pO_to : ∀ v, v < 24 → mt_os2 (cu_to v (fun _ => 0)) 4 4 % 2 = mt_pO3 v := by decide +kernel
theorem tt2_lt {P : Nat → Nat} {i j : Nat} (h : P i < P j) : mt_tt2 P i j = 0 := if_neg (by omega)
theorem os4_x (P : Nat → Nat) : mt_os2 P 4 4 = 0 + (0 + mt_tt2 P 0 1 + mt_tt2 P 0 2 + mt_tt2 P 0 3) + (0 + mt_tt2 P 1 2 + mt_tt2 P 1 3) + (0 + mt_tt2 P 2 3) + 0 := rfl
theorem pE_od {P : Nat → Nat} (hl : ∀ j, j < 12 → P j < 12) (h : ∀ v, v < 12 → ∃ j, j < 12 ∧ P j = v) (hf : ∀ b, b < 3 → ∀ i, i < 4 → P (4 * b + i) / 4 = b) : od_ P 12 12 = (mt_pO3 (mt_roE 0 P) + mt_pO3 (mt_roE 1 P) + mt_pO3 (mt_roE 2 P)) % 2 := by
  have hv : ∀ b, b < 3 → mt_roE b P < 24 ∧ ∀ i, i < 4 → P (4 * b + i) = 4 * b + cu_to (mt_roE b P) (fun _ => 0) i := by
    intro b hb
    have q := shE_ro hb hl h (hf b hb)
    exact ⟨q.1, fun i hi => by rw [← q.2 i hi, or_v _ _ _ i hi]⟩
  have hx : ∀ b b', b < b' → b' < 3 → ∀ i j, i < 4 → j < 4 → mt_tt2 P (4 * b + i) (4 * b' + j) = 0 := by
    intro b b' h1 h2 i j hi hj
    have a1 := hf b (by omega) i hi
    have a2 := hf b' h2 j hj
    exact tt2_lt (by omega)
  have hin : ∀ b, b < 3 → ∀ i j, i < 4 → j < 4 → mt_tt2 P (4 * b + i) (4 * b + j) = mt_tt2 (cu_to (mt_roE b P) (fun _ => 0)) i j := by
    intro b hb i j hi hj
    rw [mt_tt2, mt_tt2, (hv b hb).2 i hi, (hv b hb).2 j hj]
    by_cases c : cu_to (mt_roE b P) (fun _ => 0) j < cu_to (mt_roE b P) (fun _ => 0) i
    · rw [if_pos c, if_pos (by omega)]
    · rw [if_neg c, if_neg (by omega)]
  have t0_1 : mt_tt2 P 0 1 = mt_tt2 (cu_to (mt_roE 0 P) (fun _ => 0)) 0 1 := hin 0 (by decide) 0 1 (by decide) (by decide)
  have t0_2 : mt_tt2 P 0 2 = mt_tt2 (cu_to (mt_roE 0 P) (fun _ => 0)) 0 2 := hin 0 (by decide) 0 2 (by decide) (by decide)
  have t0_3 : mt_tt2 P 0 3 = mt_tt2 (cu_to (mt_roE 0 P) (fun _ => 0)) 0 3 := hin 0 (by decide) 0 3 (by decide) (by decide)
  have t0_4 : mt_tt2 P 0 4 = 0 := hx 0 1 (by decide) (by decide) 0 0 (by decide) (by decide)
  have t0_5 : mt_tt2 P 0 5 = 0 := hx 0 1 (by decide) (by decide) 0 1 (by decide) (by decide)
  have t0_6 : mt_tt2 P 0 6 = 0 := hx 0 1 (by decide) (by decide) 0 2 (by decide) (by decide)
  have t0_7 : mt_tt2 P 0 7 = 0 := hx 0 1 (by decide) (by decide) 0 3 (by decide) (by decide)
  have t0_8 : mt_tt2 P 0 8 = 0 := hx 0 2 (by decide) (by decide) 0 0 (by decide) (by decide)
  have t0_9 : mt_tt2 P 0 9 = 0 := hx 0 2 (by decide) (by decide) 0 1 (by decide) (by decide)
  have t0_10 : mt_tt2 P 0 10 = 0 := hx 0 2 (by decide) (by decide) 0 2 (by decide) (by decide)
  have t0_11 : mt_tt2 P 0 11 = 0 := hx 0 2 (by decide) (by decide) 0 3 (by decide) (by decide)
  have t1_2 : mt_tt2 P 1 2 = mt_tt2 (cu_to (mt_roE 0 P) (fun _ => 0)) 1 2 := hin 0 (by decide) 1 2 (by decide) (by decide)
  have t1_3 : mt_tt2 P 1 3 = mt_tt2 (cu_to (mt_roE 0 P) (fun _ => 0)) 1 3 := hin 0 (by decide) 1 3 (by decide) (by decide)
  have t1_4 : mt_tt2 P 1 4 = 0 := hx 0 1 (by decide) (by decide) 1 0 (by decide) (by decide)
  have t1_5 : mt_tt2 P 1 5 = 0 := hx 0 1 (by decide) (by decide) 1 1 (by decide) (by decide)
  have t1_6 : mt_tt2 P 1 6 = 0 := hx 0 1 (by decide) (by decide) 1 2 (by decide) (by decide)
  have t1_7 : mt_tt2 P 1 7 = 0 := hx 0 1 (by decide) (by decide) 1 3 (by decide) (by decide)
  have t1_8 : mt_tt2 P 1 8 = 0 := hx 0 2 (by decide) (by decide) 1 0 (by decide) (by decide)
  have t1_9 : mt_tt2 P 1 9 = 0 := hx 0 2 (by decide) (by decide) 1 1 (by decide) (by decide)
  have t1_10 : mt_tt2 P 1 10 = 0 := hx 0 2 (by decide) (by decide) 1 2 (by decide) (by decide)
  have t1_11 : mt_tt2 P 1 11 = 0 := hx 0 2 (by decide) (by decide) 1 3 (by decide) (by decide)
  have t2_3 : mt_tt2 P 2 3 = mt_tt2 (cu_to (mt_roE 0 P) (fun _ => 0)) 2 3 := hin 0 (by decide) 2 3 (by decide) (by decide)
  have t2_4 : mt_tt2 P 2 4 = 0 := hx 0 1 (by decide) (by decide) 2 0 (by decide) (by decide)
  have t2_5 : mt_tt2 P 2 5 = 0 := hx 0 1 (by decide) (by decide) 2 1 (by decide) (by decide)
  have t2_6 : mt_tt2 P 2 6 = 0 := hx 0 1 (by decide) (by decide) 2 2 (by decide) (by decide)
  have t2_7 : mt_tt2 P 2 7 = 0 := hx 0 1 (by decide) (by decide) 2 3 (by decide) (by decide)
  have t2_8 : mt_tt2 P 2 8 = 0 := hx 0 2 (by decide) (by decide) 2 0 (by decide) (by decide)
  have t2_9 : mt_tt2 P 2 9 = 0 := hx 0 2 (by decide) (by decide) 2 1 (by decide) (by decide)
  have t2_10 : mt_tt2 P 2 10 = 0 := hx 0 2 (by decide) (by decide) 2 2 (by decide) (by decide)
  have t2_11 : mt_tt2 P 2 11 = 0 := hx 0 2 (by decide) (by decide) 2 3 (by decide) (by decide)
  have t3_4 : mt_tt2 P 3 4 = 0 := hx 0 1 (by decide) (by decide) 3 0 (by decide) (by decide)
  have t3_5 : mt_tt2 P 3 5 = 0 := hx 0 1 (by decide) (by decide) 3 1 (by decide) (by decide)
  have t3_6 : mt_tt2 P 3 6 = 0 := hx 0 1 (by decide) (by decide) 3 2 (by decide) (by decide)
  have t3_7 : mt_tt2 P 3 7 = 0 := hx 0 1 (by decide) (by decide) 3 3 (by decide) (by decide)
  have t3_8 : mt_tt2 P 3 8 = 0 := hx 0 2 (by decide) (by decide) 3 0 (by decide) (by decide)
  have t3_9 : mt_tt2 P 3 9 = 0 := hx 0 2 (by decide) (by decide) 3 1 (by decide) (by decide)
  have t3_10 : mt_tt2 P 3 10 = 0 := hx 0 2 (by decide) (by decide) 3 2 (by decide) (by decide)
  have t3_11 : mt_tt2 P 3 11 = 0 := hx 0 2 (by decide) (by decide) 3 3 (by decide) (by decide)
  have t4_5 : mt_tt2 P 4 5 = mt_tt2 (cu_to (mt_roE 1 P) (fun _ => 0)) 0 1 := hin 1 (by decide) 0 1 (by decide) (by decide)
  have t4_6 : mt_tt2 P 4 6 = mt_tt2 (cu_to (mt_roE 1 P) (fun _ => 0)) 0 2 := hin 1 (by decide) 0 2 (by decide) (by decide)
  have t4_7 : mt_tt2 P 4 7 = mt_tt2 (cu_to (mt_roE 1 P) (fun _ => 0)) 0 3 := hin 1 (by decide) 0 3 (by decide) (by decide)
  have t4_8 : mt_tt2 P 4 8 = 0 := hx 1 2 (by decide) (by decide) 0 0 (by decide) (by decide)
  have t4_9 : mt_tt2 P 4 9 = 0 := hx 1 2 (by decide) (by decide) 0 1 (by decide) (by decide)
  have t4_10 : mt_tt2 P 4 10 = 0 := hx 1 2 (by decide) (by decide) 0 2 (by decide) (by decide)
  have t4_11 : mt_tt2 P 4 11 = 0 := hx 1 2 (by decide) (by decide) 0 3 (by decide) (by decide)
  have t5_6 : mt_tt2 P 5 6 = mt_tt2 (cu_to (mt_roE 1 P) (fun _ => 0)) 1 2 := hin 1 (by decide) 1 2 (by decide) (by decide)
  have t5_7 : mt_tt2 P 5 7 = mt_tt2 (cu_to (mt_roE 1 P) (fun _ => 0)) 1 3 := hin 1 (by decide) 1 3 (by decide) (by decide)
  have t5_8 : mt_tt2 P 5 8 = 0 := hx 1 2 (by decide) (by decide) 1 0 (by decide) (by decide)
  have t5_9 : mt_tt2 P 5 9 = 0 := hx 1 2 (by decide) (by decide) 1 1 (by decide) (by decide)
  have t5_10 : mt_tt2 P 5 10 = 0 := hx 1 2 (by decide) (by decide) 1 2 (by decide) (by decide)
  have t5_11 : mt_tt2 P 5 11 = 0 := hx 1 2 (by decide) (by decide) 1 3 (by decide) (by decide)
  have t6_7 : mt_tt2 P 6 7 = mt_tt2 (cu_to (mt_roE 1 P) (fun _ => 0)) 2 3 := hin 1 (by decide) 2 3 (by decide) (by decide)
  have t6_8 : mt_tt2 P 6 8 = 0 := hx 1 2 (by decide) (by decide) 2 0 (by decide) (by decide)
  have t6_9 : mt_tt2 P 6 9 = 0 := hx 1 2 (by decide) (by decide) 2 1 (by decide) (by decide)
  have t6_10 : mt_tt2 P 6 10 = 0 := hx 1 2 (by decide) (by decide) 2 2 (by decide) (by decide)
  have t6_11 : mt_tt2 P 6 11 = 0 := hx 1 2 (by decide) (by decide) 2 3 (by decide) (by decide)
  have t7_8 : mt_tt2 P 7 8 = 0 := hx 1 2 (by decide) (by decide) 3 0 (by decide) (by decide)
  have t7_9 : mt_tt2 P 7 9 = 0 := hx 1 2 (by decide) (by decide) 3 1 (by decide) (by decide)
  have t7_10 : mt_tt2 P 7 10 = 0 := hx 1 2 (by decide) (by decide) 3 2 (by decide) (by decide)
  have t7_11 : mt_tt2 P 7 11 = 0 := hx 1 2 (by decide) (by decide) 3 3 (by decide) (by decide)
  have t8_9 : mt_tt2 P 8 9 = mt_tt2 (cu_to (mt_roE 2 P) (fun _ => 0)) 0 1 := hin 2 (by decide) 0 1 (by decide) (by decide)
  have t8_10 : mt_tt2 P 8 10 = mt_tt2 (cu_to (mt_roE 2 P) (fun _ => 0)) 0 2 := hin 2 (by decide) 0 2 (by decide) (by decide)
  have t8_11 : mt_tt2 P 8 11 = mt_tt2 (cu_to (mt_roE 2 P) (fun _ => 0)) 0 3 := hin 2 (by decide) 0 3 (by decide) (by decide)
  have t9_10 : mt_tt2 P 9 10 = mt_tt2 (cu_to (mt_roE 2 P) (fun _ => 0)) 1 2 := hin 2 (by decide) 1 2 (by decide) (by decide)
  have t9_11 : mt_tt2 P 9 11 = mt_tt2 (cu_to (mt_roE 2 P) (fun _ => 0)) 1 3 := hin 2 (by decide) 1 3 (by decide) (by decide)
  have t10_11 : mt_tt2 P 10 11 = mt_tt2 (cu_to (mt_roE 2 P) (fun _ => 0)) 2 3 := hin 2 (by decide) 2 3 (by decide) (by decide)
  have p0 := pO_to _ (hv 0 (by decide)).1
  have p1 := pO_to _ (hv 1 (by decide)).1
  have p2 := pO_to _ (hv 2 (by decide)).1
  rw [os4_x] at p0 p1 p2
  rw [od_os, osE_x]
  rw [t0_1, t0_2, t0_3, t0_4, t0_5, t0_6, t0_7, t0_8, t0_9, t0_10, t0_11, t1_2, t1_3, t1_4, t1_5, t1_6, t1_7, t1_8, t1_9, t1_10, t1_11, t2_3, t2_4, t2_5, t2_6, t2_7, t2_8, t2_9, t2_10, t2_11, t3_4, t3_5, t3_6, t3_7, t3_8, t3_9, t3_10, t3_11, t4_5, t4_6, t4_7, t4_8, t4_9, t4_10, t4_11, t5_6, t5_7, t5_8, t5_9, t5_10, t5_11, t6_7, t6_8, t6_9, t6_10, t6_11, t7_8, t7_9, t7_10, t7_11, t8_9, t8_10, t8_11, t9_10, t9_11, t10_11]
  omega
theorem par3 {q : Q4} (h : mt_C3 q) : (mt_pC3 (mt_x3 q 0) + mt_pO3 (mt_x3 q 1) + mt_pO3 (mt_x3 q 2) + mt_pO3 (mt_x3 q 3)) % 2 = 0 := by
  have hL := h.1.1.1
  have hc := shC_ro hL.1.1 hL.2.1 (mt_f2r h)
  have e1 : od_ q.1 8 8 = mt_pC3 (mt_x3 q 0) := by
    rw [← od_cg 8 8 (Nat.le_refl _) hc.2]
    exact pC_sh _ hc.1
  have e2 : od_ q.2.2.1 12 12 = (mt_pO3 (mt_x3 q 1) + mt_pO3 (mt_x3 q 2) + mt_pO3 (mt_x3 q 3)) % 2 := pE_od hL.1.2.2.1 hL.2.2.1 (mt_f2s h)
  have e3 := hL.2.2.2.2.2
  rw [e1, e2] at e3
  omega
theorem from_full {A B n s : Nat} (h : Nat.beq (Nat.lor A B) (Nat.sub (Nat.pow 2 n) 1) = true) (hs : s < n) : A.testBit s = true ∨ B.testBit s = true := by
  have e : (A ||| B) = 2 ^ n - 1 := Nat.eq_of_beq_eq_true h
  have hb : (A ||| B).testBit s = true := by
    rw [e, Nat.testBit_two_pow_sub_one]
    exact decide_eq_true hs
  rw [Nat.testBit_or, Bool.or_eq_true] at hb
  exact hb
theorem mt_dm3 {q : Q4} (h : mt_C3 q) : mt_RQ mt_G3 mkQ (mt_alq 0) 15 q := by
  have l := mt_lt3 q h
  have l0 : mt_x3 q 0 < 96 := l 0 (by decide)
  have l1 : mt_x3 q 1 < 24 := l 1 (by decide)
  have l2 : mt_x3 q 2 < 24 := l 2 (by decide)
  have l3 : mt_x3 q 3 < 24 := l 3 (by decide)
  rcases from_full U3_full (s := sv3q q) (by rw [sv3x]; omega) with w | w
  · exact U3_R 15 q h w
  · have w2 := opd_s (tab := mt_tau) (by decide) grW_ok w
    rw [sv3x, mt_mv3 l3] at w2
    have hp := U3_p 15 _ _ _ _ l0 l1 l2 (pO_2 _ l3).2.2 w2
    have hq := par3 h
    rw [(pO_2 _ l3).2.1] at hp
    have := (pO_2 _ l3).1
    omega
