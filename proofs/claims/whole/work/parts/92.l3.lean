section GWL
variable {K : gw_K} {cc : ByteArray} {own : String} {Ts : List Cond} {tys : List (ClassId × FieldType)} {zz : (Nat → Prop) → State → Heap → Prop} {ws : va_W} {cells slots pc : Nat} {lv : List (Nat × Value)} {st : List Value}
theorem gw_scld (C : gw_x K cc own Ts tys zz) {b L i : Nat} {xs : Nat → Int32} (hX : va_X b L xs (ks K) (ks K).heap) (hbl : b < (ks K).heap.size) (hbA : ¬ kA K b) (hi : i < L) (hL : L < 2 ^ 31) (hd : decode cc pc = .ok (.iaload, 1)) (k : gw_G K ws cells slots (pc + 1) lv (.int (xs i) :: st)) : gw_G K ws cells slots pc lv (iN i :: .ref b :: st) := fun H locs ls hl hP hD hS => va_sld C.1.1 C.1.2.1 hX hbl hbA hS (vp_in_nI hi hL) hd (by rw [nI_clamp (Nat.lt_trans hi hL)]; exact k H locs ls hl hP hD hS)
theorem gw_sclen (C : gw_x K cc own Ts tys zz) {b L : Nat} {xs : Nat → Int32} (hX : va_X b L xs (ks K) (ks K).heap) (hbl : b < (ks K).heap.size) (hbA : ¬ kA K b) (hd : decode cc pc = .ok (.arraylength, 1)) (k : gw_G K ws cells slots (pc + 1) lv (iN L :: st)) : gw_G K ws cells slots pc lv (.ref b :: st) := fun H locs ls hl hP hD hS => va_slen C.1.1 C.1.2.1 hX hbl hbA hS hd (k H locs ls hl hP hD hS)
theorem gw_tabO (C : gw_x K cc own Ts tys zz) {dflt lo hi : Int} {offs : Array Int} {len : Nat} {x : Int32} (tgt : Nat) (hd : decode cc pc = .ok (.tableswitch dflt lo hi offs, len)) (h : x.toInt < lo ∨ hi < x.toInt) (ht : (pc : Int) + dflt = (tgt : Int)) (k : gw_G K ws cells slots tgt lv st) : gw_G K ws cells slots pc lv (.int x :: st) := fun H locs ls hl hP hD hS => lv_tableOut C.1.1 C.1.2.1 hd h ht (k H locs ls hl hP hD hS)
theorem gw_tabI (C : gw_x K cc own Ts tys zz) {dflt lo hi : Int} {offs : Array Int} {len : Nat} {x : Int32} (off : Int) (tgt : Nat) (hd : decode cc pc = .ok (.tableswitch dflt lo hi offs, len)) (h1 : ¬ x.toInt < lo) (h2 : ¬ hi < x.toInt) (ho : offs[(x.toInt - lo).toNat]? = some off) (ht : (pc : Int) + off = (tgt : Int)) (k : gw_G K ws cells slots tgt lv st) : gw_G K ws cells slots pc lv (.int x :: st) := fun H locs ls hl hP hD hS => lv_tableIn C.1.1 C.1.2.1 hd h1 h2 ho ht (k H locs ls hl hP hD hS)
end GWL
theorem nI_ex (x : Int32) : ∃ n, n < 2 ^ 32 ∧ x = nI n := ⟨x.toBitVec.toNat, x.toBitVec.isLt, by
  apply Int32.toBitVec_inj.mp
  show x.toBitVec = BitVec.ofNat 32 x.toBitVec.toNat
  rw [BitVec.ofNat_toNat, BitVec.setWidth_eq]⟩
def po1 (x : Option (Bool × S4)) (c f : Nat) : Nat := knc x c + (if knb x = true then 0 else f)
def poC (s : Nat → Option (Bool × S4)) : Nat := po1 (s 0) 5 6 + po1 (s 1) 6 10 + po1 (s 2) 9 10 + po1 (s 3) 12 18
def poS (s : Nat → Option (Bool × S4)) : Nat := po1 (s 0) 42 14494 + po1 (s 1) 64 85853 + po1 (s 2) 87 8926 + po1 (s 3) 125 94304
theorem po_step (x : Option (Bool × S4)) (v : Nat) (u : S4) (c f : Nat) : knc x c + fdc (knb x) v f + po1 (some (fdb (knb x) v, u)) c f = po1 x c f := by
  rw [po1, po1, show knc (some (fdb (knb x) v, u)) c = 0 from rfl, show knb (some (fdb (knb x) v, u)) = fdb (knb x) v from rfl, fdc, fdb]
  by_cases h : v = 0
  · rw [if_pos h, if_pos h]; omega
  · rw [if_neg h, if_neg h, if_pos rfl]; omega
theorem so_g_lt (u : Nat → S4) (sg : Nat → Option Nat) : ∀ n k, k < n → so_g u sg n k = some ((u k).1 0)
  | 0, _, h => absurd h (by omega)
  | n + 1, k, h => by
    rw [so_g]
    show (if k = n then _ else _) = _
    by_cases e : k = n
    · rw [if_pos e, e]
    · rw [if_neg e]; exact so_g_lt u sg n k (by omega)
theorem ssA_0 {cI cJ cF : ClassId} {NX : Nat → Nat → Nat → Nat} {EE : Nat → Nat} {b : Nat → Bool} {u : S4} {s : Nat → Option (Bool × S4)} (h : s 0 = some (b 0, u)) : ssA cI cJ cF NX EE b 0 u = stA cI cJ cF NX EE s 0 := by
  show ss0_ws cI cJ cF (NX 0) (EE 0) (b 0) u = st0_ws cI cJ cF (NX 0) (EE 0) (s 0)
  rw [h]
  rfl
theorem ssA_1 {cI cJ cF : ClassId} {NX : Nat → Nat → Nat → Nat} {EE : Nat → Nat} {b : Nat → Bool} {u : S4} {s : Nat → Option (Bool × S4)} (h : s 1 = some (b 1, u)) : ssA cI cJ cF NX EE b 1 u = stA cI cJ cF NX EE s 1 := by
  show ss1_ws cI cJ cF (NX 1) (EE 1) (b 1) u = st1_ws cI cJ cF (NX 1) (EE 1) (s 1)
  rw [h]
  rfl
theorem ssA_2 {cI cJ cF : ClassId} {NX : Nat → Nat → Nat → Nat} {EE : Nat → Nat} {b : Nat → Bool} {u : S4} {s : Nat → Option (Bool × S4)} (h : s 2 = some (b 2, u)) : ssA cI cJ cF NX EE b 2 u = stA cI cJ cF NX EE s 2 := by
  show ss2_ws cI cJ cF (NX 2) (EE 2) (b 2) u = st2_ws cI cJ cF (NX 2) (EE 2) (s 2)
  rw [h]
  rfl
theorem ssA_3 {cI cJ cF : ClassId} {NX : Nat → Nat → Nat → Nat} {EE : Nat → Nat} {b : Nat → Bool} {u : S4} {s : Nat → Option (Bool × S4)} (h : s 3 = some (b 3, u)) : ssA cI cJ cF NX EE b 3 u = stA cI cJ cF NX EE s 3 := by
  show ss3_ws cI cJ cF (NX 3) (EE 3) (b 3) u = st3_ws cI cJ cF (NX 3) (EE 3) (s 3)
  rw [h]
  rfl
def lwW (cI cB cS cJ cF cG : ClassId) (tt oa ca cw : Nat → Nat) (o : Nat) (ad EE : Nat → Nat) (q qw : Q4) (s : Nat → Option (Bool × S4)) (sg : Nat → Option Nat) (Ln St : Nat → Nat) (cnt th : Nat) (N : Nat → Nat → Nat) : va_W := (ob_ws cI cG oa (ca 0) (cw 0) sg Ln St cnt th ++ cq_ws cI tt ca q) ++ ((cq_ws cI tt cw qw ++ (stA cI cJ cF mt_NX EE s 0 ++ (stA cI cJ cF mt_NX EE s 1 ++ (stA cI cJ cF mt_NX EE s 2 ++ stA cI cJ cF mt_NX EE s 3)))) ++ mo_ws o ad cI cB cS N)
def lwI (K : gw_K) (cI cB cS cJ cF cG : ClassId) (tt oa ca cw : Nat → Nat) (o : Nat) (ad EE : Nat → Nat) (b pc i : Nat) : Prop := ∀ (cells slots : Nat) (q qw : Q4) (s : Nat → Option (Bool × S4)) (sg : Nat → Option Nat) (Ln St : Nat → Nat) (cnt th : Nat) (N : Nat → Nat → Nat), mt_JW N q Ln St cnt th → (∀ k, k < 4 → sg k = (s k).map (fun s => s.2.1 0)) → (∀ k, k < 4 → ∀ x, s k = some x → sc_ok k x.2.2.1) → cells + poC s ≤ 182462 → slots + poS s ≤ 8554864 → gw_G K (lwW cI cB cS cJ cF cG tt oa ca cw o ad EE q qw s sg Ln St cnt th N) cells slots pc [(3, iN i), (2, .ref o), (1, .ref (oa 0)), (0, .ref b)] []
def lwX (K : gw_K) (cI cB cS cJ cF cG : ClassId) (tt : Nat → Nat) (b L : Nat) (xs : Nat → Int32) : Prop := gw_x K cL_law RL wsL_law (mo_ty cI cB cS cJ cF cG) (zs tt) ∧ kR K = { frames := 2048, cells := 182462, slots := 8554864, locals := 84000 } ∧ va_X b L xs (ks K) (ks K).heap ∧ b < (ks K).heap.size ∧ ¬ kA K b ∧ L ≤ 2048
set_option maxHeartbeats 4000000 in
set_option maxRecDepth 100000 in
theorem law_corner {K : gw_K} {cI cB cS cJ cF cG : ClassId} {tt oa ca cw : Nat → Nat} {o : Nat} {ad EE : Nat → Nat} {b L i : Nat} {xs : Nat → Int32} (X : lwX K cI cB cS cJ cF cG tt b L xs) (hi : i + 4 ≤ L) (kk : lwI K cI cB cS cJ cF cG tt oa ca cw o ad EE b 345 i) : lwI K cI cB cS cJ cF cG tt oa ca cw o ad EE b 92 i := by
  obtain ⟨C, hkR, hX, hbl, hbA, hL⟩ := X
  intro cells slots q qw s sg Ln St cnt th N hJ hg hs hc1 hc2
  have hqb := hJ.2.1
  obtain ⟨a, ha, ea⟩ := nI_ex (xs (i + 1))
  obtain ⟨b2, hb2, eb2⟩ := nI_ex (xs (i + 2))
  obtain ⟨c2, hc3, ec2⟩ := nI_ex (xs (i + 3))
  refine gw_ws (ws2 := (ob_ws cI cG oa (ca 0) (cw 0) (sg) (Ln) (St) (cnt) (th) ++ cq_ws cI tt ca (q)) ++ ((cq_ws cI tt cw (qw) ++ (stA cI cJ cF mt_NX EE (s) 0 ++ (stA cI cJ cF mt_NX EE (s) 1 ++ (stA cI cJ cF mt_NX EE (s) 2 ++ stA cI cJ cF mt_NX EE (s) 3)))) ++ mo_ws o ad cI cB cS (N))) rfl ?_
  refine gw_aload_n C 2 dL_law_92 rfl rfl ?_
  refine gw_aload_n C 3 dL_law_93 rfl rfl ?_
  refine gw_iload_n C 0 dL_law_94 rfl rfl ?_
  refine gw_iconst C 1 dL_law_95 (by decide) ?_
  refine gw_iadd C dL_law_96 ?_
  refine gw_scld C hX hbl hbA (by omega) (by omega) dL_law_97 ?_
  rw [ea]
  refine gw_aload_n C 3 dL_law_98 rfl rfl ?_
  refine gw_iload_n C 0 dL_law_99 rfl rfl ?_
  refine gw_iconst C 2 dL_law_100 (by decide) ?_
  refine gw_iadd C dL_law_101 ?_
  refine gw_scld C hX hbl hbA (by omega) (by omega) dL_law_102 ?_
  rw [eb2]
  refine gw_aload_n C 3 dL_law_103 rfl rfl ?_
  refine gw_iload_n C 0 dL_law_104 rfl rfl ?_
  refine gw_iconst C 3 dL_law_105 (by decide) ?_
  refine gw_iadd C dL_law_106 ?_
  refine gw_scld C hX hbl hbA (by omega) (by omega) dL_law_107 ?_
  rw [ec2]
  refine gw_appVI (n := 3) (As := [iN a, iN b2, iN c2]) (rest := []) C (c_Scorner (kl K) (kD K) cI cB cS cJ cF cG tt oa ca (cw 0) sg Ln St cnt th q.1 q.2.1 q.2.2.1 q.2.2.2 a b2 c2 ha hb2 hc3) 0 rfl rfl rfl gL_law_X10_corner rfl (by decide +kernel) dL_law_108 (by rw [hkR]; dsimp only; decide) (by rw [hkR]; dsimp only; omega) rfl (Nat.le_of_ble_eq_true rfl) rfl (fun rv u hv => ?_)
  have hv : rv = nI (if a < 8 ∧ b2 < 8 ∧ c2 < 3 then 1 else 4294967295) := hv
  subst hv
  refine gw_ws (ws2 := (ob_ws cI cG oa (ca 0) (cw 0) (sg) (Ln) (St) (cnt) (th) ++ cq_ws cI tt ca (mt_puC a b2 c2 q)) ++ ((cq_ws cI tt cw (qw) ++ (stA cI cJ cF mt_NX EE (s) 0 ++ (stA cI cJ cF mt_NX EE (s) 1 ++ (stA cI cJ cF mt_NX EE (s) 2 ++ stA cI cJ cF mt_NX EE (s) 3)))) ++ mo_ws o ad cI cB cS (N))) rfl ?_
  refine gw_aload_n C 1 dL_law_111 rfl rfl ?_
  refine gw_aload_n C 3 dL_law_112 rfl rfl ?_
  refine gw_iload_n C 0 dL_law_113 rfl rfl ?_
  refine gw_iconst C 1 dL_law_114 (by decide) ?_
  refine gw_iadd C dL_law_115 ?_
  refine gw_scld C hX hbl hbA (by omega) (by omega) dL_law_116 ?_
  rw [ea]
  refine gw_aload_n C 3 dL_law_117 rfl rfl ?_
  refine gw_iload_n C 0 dL_law_118 rfl rfl ?_
  refine gw_iconst C 2 dL_law_119 (by decide) ?_
  refine gw_iadd C dL_law_120 ?_
  refine gw_scld C hX hbl hbA (by omega) (by omega) dL_law_121 ?_
  rw [eb2]
  refine gw_aload_n C 3 dL_law_122 rfl rfl ?_
  refine gw_iload_n C 0 dL_law_123 rfl rfl ?_
  refine gw_iconst C 3 dL_law_124 (by decide) ?_
  refine gw_iadd C dL_law_125 ?_
  refine gw_scld C hX hbl hbA (by omega) (by omega) dL_law_126 ?_
  rw [ec2]
  refine gw_permL (ws2 := mo_ws o ad cI cB cS (N) ++ ((ob_ws cI cG oa (ca 0) (cw 0) (sg) (Ln) (St) (cnt) (th) ++ cq_ws cI tt ca (mt_puC a b2 c2 q)) ++ (cq_ws cI tt cw (qw) ++ (stA cI cJ cF mt_NX EE (s) 0 ++ (stA cI cJ cF mt_NX EE (s) 1 ++ (stA cI cJ cF mt_NX EE (s) 2 ++ stA cI cJ cF mt_NX EE (s) 3)))))) (l := []) (apm (fun _ _ x => by simp only [List.count_append] <;> omega)) ?_
  refine gw_appVI (n := 3) (As := [iN a, iN b2, iN c2]) (rest := [.int (nI (if a < 8 ∧ b2 < 8 ∧ c2 < 3 then 1 else 4294967295))]) C (c_corner (kl K) (kD K) cI cB cS cJ cF cG (zs tt) (zs_ok tt) o ad N a b2 c2 ha hb2 hc3) 0 rfl rfl rfl gL_law_X11_corner rfl (by decide +kernel) dL_law_127 (by rw [hkR]; dsimp only; decide) (by rw [hkR]; dsimp only; omega) rfl (Nat.le_of_ble_eq_true rfl) rfl (fun rv2 M hv2 => ?_)
  obtain ⟨rfl, hM⟩ := hv2
  have hM : M = _ := hM
  rw [hM]
  refine gw_permL (ws2 := lwW cI cB cS cJ cF cG tt oa ca cw o ad EE (mt_puC a b2 c2 q) qw s sg Ln St cnt th (mo_put 0 1 8 3 a b2 c2 N)) (l := []) (apm (fun _ _ x => by simp only [lwW, List.count_append] <;> omega)) ?_
  refine gw_icmp_eq_r C 345 dL_law_130 (by decide) (fun _ => ?_) (fun w => absurd (rfl) w)
  exact kk _ _ _ qw s sg _ _ _ _ _ (JW_corner hJ a b2 c2) hg hs (by omega) (by omega)
set_option maxHeartbeats 4000000 in
set_option maxRecDepth 100000 in
theorem law_edge {K : gw_K} {cI cB cS cJ cF cG : ClassId} {tt oa ca cw : Nat → Nat} {o : Nat} {ad EE : Nat → Nat} {b L i : Nat} {xs : Nat → Int32} (X : lwX K cI cB cS cJ cF cG tt b L xs) (hi : i + 4 ≤ L) (kk : lwI K cI cB cS cJ cF cG tt oa ca cw o ad EE b 345 i) : lwI K cI cB cS cJ cF cG tt oa ca cw o ad EE b 135 i := by
  obtain ⟨C, hkR, hX, hbl, hbA, hL⟩ := X
  intro cells slots q qw s sg Ln St cnt th N hJ hg hs hc1 hc2
  have hqb := hJ.2.1
  obtain ⟨a, ha, ea⟩ := nI_ex (xs (i + 1))
  obtain ⟨b2, hb2, eb2⟩ := nI_ex (xs (i + 2))
  obtain ⟨c2, hc3, ec2⟩ := nI_ex (xs (i + 3))
  refine gw_ws (ws2 := (ob_ws cI cG oa (ca 0) (cw 0) (sg) (Ln) (St) (cnt) (th) ++ cq_ws cI tt ca (q)) ++ ((cq_ws cI tt cw (qw) ++ (stA cI cJ cF mt_NX EE (s) 0 ++ (stA cI cJ cF mt_NX EE (s) 1 ++ (stA cI cJ cF mt_NX EE (s) 2 ++ stA cI cJ cF mt_NX EE (s) 3)))) ++ mo_ws o ad cI cB cS (N))) rfl ?_
  refine gw_aload_n C 2 dL_law_135 rfl rfl ?_
  refine gw_aload_n C 3 dL_law_136 rfl rfl ?_
  refine gw_iload_n C 0 dL_law_137 rfl rfl ?_
  refine gw_iconst C 1 dL_law_138 (by decide) ?_
  refine gw_iadd C dL_law_139 ?_
  refine gw_scld C hX hbl hbA (by omega) (by omega) dL_law_140 ?_
  rw [ea]
  refine gw_aload_n C 3 dL_law_141 rfl rfl ?_
  refine gw_iload_n C 0 dL_law_142 rfl rfl ?_
  refine gw_iconst C 2 dL_law_143 (by decide) ?_
  refine gw_iadd C dL_law_144 ?_
  refine gw_scld C hX hbl hbA (by omega) (by omega) dL_law_145 ?_
  rw [eb2]
  refine gw_aload_n C 3 dL_law_146 rfl rfl ?_
  refine gw_iload_n C 0 dL_law_147 rfl rfl ?_
  refine gw_iconst C 3 dL_law_148 (by decide) ?_
  refine gw_iadd C dL_law_149 ?_
  refine gw_scld C hX hbl hbA (by omega) (by omega) dL_law_150 ?_
  rw [ec2]
  refine gw_appVI (n := 3) (As := [iN a, iN b2, iN c2]) (rest := []) C (c_Sedge (kl K) (kD K) cI cB cS cJ cF cG tt oa ca (cw 0) sg Ln St cnt th q.1 q.2.1 q.2.2.1 q.2.2.2 a b2 c2 ha hb2 hc3) 0 rfl rfl rfl gL_law_X10_edge rfl (by decide +kernel) dL_law_151 (by rw [hkR]; dsimp only; decide) (by rw [hkR]; dsimp only; omega) rfl (Nat.le_of_ble_eq_true rfl) rfl (fun rv u hv => ?_)
  have hv : rv = nI (if a < 12 ∧ b2 < 12 ∧ c2 < 2 then 1 else 4294967295) := hv
  subst hv
  refine gw_ws (ws2 := (ob_ws cI cG oa (ca 0) (cw 0) (sg) (Ln) (St) (cnt) (th) ++ cq_ws cI tt ca (mt_puE a b2 c2 q)) ++ ((cq_ws cI tt cw (qw) ++ (stA cI cJ cF mt_NX EE (s) 0 ++ (stA cI cJ cF mt_NX EE (s) 1 ++ (stA cI cJ cF mt_NX EE (s) 2 ++ stA cI cJ cF mt_NX EE (s) 3)))) ++ mo_ws o ad cI cB cS (N))) rfl ?_
  refine gw_aload_n C 1 dL_law_154 rfl rfl ?_
  refine gw_aload_n C 3 dL_law_155 rfl rfl ?_
  refine gw_iload_n C 0 dL_law_156 rfl rfl ?_
  refine gw_iconst C 1 dL_law_157 (by decide) ?_
  refine gw_iadd C dL_law_158 ?_
  refine gw_scld C hX hbl hbA (by omega) (by omega) dL_law_159 ?_
  rw [ea]
  refine gw_aload_n C 3 dL_law_160 rfl rfl ?_
  refine gw_iload_n C 0 dL_law_161 rfl rfl ?_
  refine gw_iconst C 2 dL_law_162 (by decide) ?_
  refine gw_iadd C dL_law_163 ?_
  refine gw_scld C hX hbl hbA (by omega) (by omega) dL_law_164 ?_
  rw [eb2]
  refine gw_aload_n C 3 dL_law_165 rfl rfl ?_
  refine gw_iload_n C 0 dL_law_166 rfl rfl ?_
  refine gw_iconst C 3 dL_law_167 (by decide) ?_
  refine gw_iadd C dL_law_168 ?_
  refine gw_scld C hX hbl hbA (by omega) (by omega) dL_law_169 ?_
  rw [ec2]
  refine gw_permL (ws2 := mo_ws o ad cI cB cS (N) ++ ((ob_ws cI cG oa (ca 0) (cw 0) (sg) (Ln) (St) (cnt) (th) ++ cq_ws cI tt ca (mt_puE a b2 c2 q)) ++ (cq_ws cI tt cw (qw) ++ (stA cI cJ cF mt_NX EE (s) 0 ++ (stA cI cJ cF mt_NX EE (s) 1 ++ (stA cI cJ cF mt_NX EE (s) 2 ++ stA cI cJ cF mt_NX EE (s) 3)))))) (l := []) (apm (fun _ _ x => by simp only [List.count_append] <;> omega)) ?_
  refine gw_appVI (n := 3) (As := [iN a, iN b2, iN c2]) (rest := [.int (nI (if a < 12 ∧ b2 < 12 ∧ c2 < 2 then 1 else 4294967295))]) C (c_edge (kl K) (kD K) cI cB cS cJ cF cG (zs tt) (zs_ok tt) o ad N a b2 c2 ha hb2 hc3) 0 rfl rfl rfl gL_law_X11_edge rfl (by decide +kernel) dL_law_170 (by rw [hkR]; dsimp only; decide) (by rw [hkR]; dsimp only; omega) rfl (Nat.le_of_ble_eq_true rfl) rfl (fun rv2 M hv2 => ?_)
  obtain ⟨rfl, hM⟩ := hv2
  have hM : M = _ := hM
  rw [hM]
  refine gw_permL (ws2 := lwW cI cB cS cJ cF cG tt oa ca cw o ad EE (mt_puE a b2 c2 q) qw s sg Ln St cnt th (mo_put 2 3 12 2 a b2 c2 N)) (l := []) (apm (fun _ _ x => by simp only [lwW, List.count_append] <;> omega)) ?_
  refine gw_icmp_eq_r C 345 dL_law_173 (by decide) (fun _ => ?_) (fun w => absurd (rfl) w)
  exact kk _ _ _ qw s sg _ _ _ _ _ (JW_edge hJ a b2 c2) hg hs (by omega) (by omega)
set_option maxHeartbeats 4000000 in
set_option maxRecDepth 100000 in
theorem law_at {K : gw_K} {cI cB cS cJ cF cG : ClassId} {tt oa ca cw : Nat → Nat} {o : Nat} {ad EE : Nat → Nat} {b L i : Nat} {xs : Nat → Int32} (X : lwX K cI cB cS cJ cF cG tt b L xs) (hi : i + 4 ≤ L) (kk : lwI K cI cB cS cJ cF cG tt oa ca cw o ad EE b 345 i) : lwI K cI cB cS cJ cF cG tt oa ca cw o ad EE b 178 i := by
  obtain ⟨C, hkR, hX, hbl, hbA, hL⟩ := X
  intro cells slots q qw s sg Ln St cnt th N hJ hg hs hc1 hc2
  have hqb := hJ.2.1
  obtain ⟨a, ha, ea⟩ := nI_ex (xs (i + 1))
  obtain ⟨b2, hb2, eb2⟩ := nI_ex (xs (i + 2))
  refine gw_ws (ws2 := (ob_ws cI cG oa (ca 0) (cw 0) (sg) (Ln) (St) (cnt) (th) ++ cq_ws cI tt ca (q)) ++ ((cq_ws cI tt cw (qw) ++ (stA cI cJ cF mt_NX EE (s) 0 ++ (stA cI cJ cF mt_NX EE (s) 1 ++ (stA cI cJ cF mt_NX EE (s) 2 ++ stA cI cJ cF mt_NX EE (s) 3)))) ++ mo_ws o ad cI cB cS (N))) rfl ?_
  refine gw_aload_n C 2 dL_law_178 rfl rfl ?_
  refine gw_aload_n C 3 dL_law_179 rfl rfl ?_
  refine gw_iload_n C 0 dL_law_180 rfl rfl ?_
  refine gw_iconst C 1 dL_law_181 (by decide) ?_
  refine gw_iadd C dL_law_182 ?_
  refine gw_scld C hX hbl hbA (by omega) (by omega) dL_law_183 ?_
  rw [ea]
  refine gw_aload_n C 3 dL_law_184 rfl rfl ?_
  refine gw_iload_n C 0 dL_law_185 rfl rfl ?_
  refine gw_iconst C 2 dL_law_186 (by decide) ?_
  refine gw_iadd C dL_law_187 ?_
  refine gw_scld C hX hbl hbA (by omega) (by omega) dL_law_188 ?_
  rw [eb2]
  refine gw_appVI (n := 2) (As := [iN a, iN b2]) (rest := []) C (c_Sat (kl K) (kD K) cI cB cS cJ cF cG tt oa ca (cw 0) sg Ln St cnt th q.1 q.2.1 q.2.2.1 q.2.2.2 a b2 ha hb2) 0 rfl rfl rfl gL_law_X10_at rfl (by decide +kernel) dL_law_189 (by rw [hkR]; dsimp only; decide) (by rw [hkR]; dsimp only; omega) rfl (Nat.le_of_ble_eq_true rfl) rfl (fun rv u hv => ?_)
  have hv : rv = nI (Sat_ q.1 q.2.1 q.2.2.1 q.2.2.2 a b2) := hv
  subst hv
  refine gw_ws (ws2 := (ob_ws cI cG oa (ca 0) (cw 0) (sg) (Ln) (St) (cnt) (th) ++ cq_ws cI tt ca (q)) ++ ((cq_ws cI tt cw (qw) ++ (stA cI cJ cF mt_NX EE (s) 0 ++ (stA cI cJ cF mt_NX EE (s) 1 ++ (stA cI cJ cF mt_NX EE (s) 2 ++ stA cI cJ cF mt_NX EE (s) 3)))) ++ mo_ws o ad cI cB cS (N))) rfl ?_
  refine gw_aload_n C 1 dL_law_192 rfl rfl ?_
  refine gw_aload_n C 3 dL_law_193 rfl rfl ?_
  refine gw_iload_n C 0 dL_law_194 rfl rfl ?_
  refine gw_iconst C 1 dL_law_195 (by decide) ?_
  refine gw_iadd C dL_law_196 ?_
  refine gw_scld C hX hbl hbA (by omega) (by omega) dL_law_197 ?_
  rw [ea]
  refine gw_aload_n C 3 dL_law_198 rfl rfl ?_
  refine gw_iload_n C 0 dL_law_199 rfl rfl ?_
  refine gw_iconst C 2 dL_law_200 (by decide) ?_
  refine gw_iadd C dL_law_201 ?_
  refine gw_scld C hX hbl hbA (by omega) (by omega) dL_law_202 ?_
  rw [eb2]
  refine gw_permL (ws2 := mo_ws o ad cI cB cS (N) ++ ((ob_ws cI cG oa (ca 0) (cw 0) (sg) (Ln) (St) (cnt) (th) ++ cq_ws cI tt ca (q)) ++ (cq_ws cI tt cw (qw) ++ (stA cI cJ cF mt_NX EE (s) 0 ++ (stA cI cJ cF mt_NX EE (s) 1 ++ (stA cI cJ cF mt_NX EE (s) 2 ++ stA cI cJ cF mt_NX EE (s) 3)))))) (l := []) (apm (fun _ _ x => by simp only [List.count_append] <;> omega)) ?_
  refine gw_appVI (n := 2) (As := [iN a, iN b2]) (rest := [.int (nI (Sat_ q.1 q.2.1 q.2.2.1 q.2.2.2 a b2))]) C (c_at (kl K) (kD K) cI cB cS cJ cF cG (zs tt) (zs_ok tt) o ad N a b2 ha hb2) 0 rfl rfl rfl gL_law_X11_at rfl (by decide +kernel) dL_law_203 (by rw [hkR]; dsimp only; decide) (by rw [hkR]; dsimp only; omega) rfl (Nat.le_of_ble_eq_true rfl) rfl (fun rv2 M hv2 => ?_)
  obtain ⟨rfl, hM⟩ := hv2
  have hM : M = _ := hM
  rw [hM]
  refine gw_permL (ws2 := lwW cI cB cS cJ cF cG tt oa ca cw o ad EE (q) qw s sg Ln St cnt th (N)) (l := []) (apm (fun _ _ x => by simp only [lwW, List.count_append] <;> omega)) ?_
  refine gw_icmp_eq_r C 345 dL_law_206 (by decide) (fun _ => ?_) (fun w => absurd (congrArg nI (at_eq hJ.2.2.1 a b2).symm) w)
  exact kk _ _ _ qw s sg _ _ _ _ _ (hJ) hg hs (by omega) (by omega)
set_option maxHeartbeats 4000000 in
set_option maxRecDepth 100000 in
theorem law_lawful {K : gw_K} {cI cB cS cJ cF cG : ClassId} {tt oa ca cw : Nat → Nat} {o : Nat} {ad EE : Nat → Nat} {b L i : Nat} {xs : Nat → Int32} (X : lwX K cI cB cS cJ cF cG tt b L xs) (hi : i + 4 ≤ L) (kk : lwI K cI cB cS cJ cF cG tt oa ca cw o ad EE b 345 i) : lwI K cI cB cS cJ cF cG tt oa ca cw o ad EE b 211 i := by
  obtain ⟨C, hkR, hX, hbl, hbA, hL⟩ := X
  intro cells slots q qw s sg Ln St cnt th N hJ hg hs hc1 hc2
  have hqb := hJ.2.1
  have hqm := JW_QM hJ
  refine gw_ws (ws2 := (ob_ws cI cG oa (ca 0) (cw 0) (sg) (Ln) (St) (cnt) (th) ++ cq_ws cI tt ca (q)) ++ ((cq_ws cI tt cw (qw) ++ (stA cI cJ cF mt_NX EE (s) 0 ++ (stA cI cJ cF mt_NX EE (s) 1 ++ (stA cI cJ cF mt_NX EE (s) 2 ++ stA cI cJ cF mt_NX EE (s) 3)))) ++ mo_ws o ad cI cB cS (N))) rfl ?_
  refine gw_aload_n C 2 dL_law_211 rfl rfl ?_
  refine gw_appVI (n := 0) (As := []) (rest := []) C (c_Slawful (kl K) (kD K) cI cB cS cJ cF cG tt oa ca (cw 0) sg Ln St cnt th q.1 q.2.1 q.2.2.1 q.2.2.2 hqb.1 hqb.2.1 hqb.2.2.1 hqb.2.2.2) 0 rfl rfl rfl gL_law_X10_lawful rfl (by decide +kernel) dL_law_212 (by rw [hkR]; dsimp only; decide) (by rw [hkR]; dsimp only; omega) rfl (Nat.le_of_ble_eq_true rfl) rfl (fun rv u hv => ?_)
  have hv : rv = nI (Slw_ q.1 q.2.1 q.2.2.1 q.2.2.2) := hv
  subst hv
  refine gw_ws (ws2 := (ob_ws cI cG oa (ca 0) (cw 0) (sg) (Ln) (St) (cnt) (th) ++ cq_ws cI tt ca (q)) ++ ((cq_ws cI tt cw (qw) ++ (stA cI cJ cF mt_NX EE (s) 0 ++ (stA cI cJ cF mt_NX EE (s) 1 ++ (stA cI cJ cF mt_NX EE (s) 2 ++ stA cI cJ cF mt_NX EE (s) 3)))) ++ mo_ws o ad cI cB cS (N))) rfl ?_
  refine gw_aload_n C 1 dL_law_215 rfl rfl ?_
  refine gw_permL (ws2 := mo_ws o ad cI cB cS (N) ++ ((ob_ws cI cG oa (ca 0) (cw 0) (sg) (Ln) (St) (cnt) (th) ++ cq_ws cI tt ca (q)) ++ (cq_ws cI tt cw (qw) ++ (stA cI cJ cF mt_NX EE (s) 0 ++ (stA cI cJ cF mt_NX EE (s) 1 ++ (stA cI cJ cF mt_NX EE (s) 2 ++ stA cI cJ cF mt_NX EE (s) 3)))))) (l := []) (apm (fun _ _ x => by simp only [List.count_append] <;> omega)) ?_
  refine gw_appVI (n := 0) (As := []) (rest := [.int (nI (Slw_ q.1 q.2.1 q.2.2.1 q.2.2.2))]) C (c_lawful (kl K) (kD K) cI cB cS cJ cF cG (zs tt) (zs_ok tt) o ad N hqm.1 hqm.2.1 hqm.2.2.1 hqm.2.2.2) 0 rfl rfl rfl gL_law_X11_lawful rfl (by decide +kernel) dL_law_216 (by rw [hkR]; dsimp only; decide) (by rw [hkR]; dsimp only; omega) rfl (Nat.le_of_ble_eq_true rfl) rfl (fun rv2 M hv2 => ?_)
  obtain ⟨rfl, hM⟩ := hv2
  have hM : M = _ := hM
  rw [hM]
  refine gw_permL (ws2 := lwW cI cB cS cJ cF cG tt oa ca cw o ad EE (q) qw s sg Ln St cnt th (N)) (l := []) (apm (fun _ _ x => by simp only [lwW, List.count_append] <;> omega)) ?_
  refine gw_icmp_eq_r C 345 dL_law_219 (by decide) (fun _ => ?_) (fun w => absurd (congrArg nI (JW_law hJ).symm) w)
  exact kk _ _ _ qw s sg _ _ _ _ _ (hJ) hg hs (by omega) (by omega)
set_option maxHeartbeats 4000000 in
set_option maxRecDepth 100000 in
theorem law_turn {K : gw_K} {cI cB cS cJ cF cG : ClassId} {tt oa ca cw : Nat → Nat} {o : Nat} {ad EE : Nat → Nat} {b L i : Nat} {xs : Nat → Int32} (X : lwX K cI cB cS cJ cF cG tt b L xs) (hi : i + 4 ≤ L) (kk : lwI K cI cB cS cJ cF cG tt oa ca cw o ad EE b 345 i) : lwI K cI cB cS cJ cF cG tt oa ca cw o ad EE b 224 i := by
  obtain ⟨C, hkR, hX, hbl, hbA, hL⟩ := X
  intro cells slots q qw s sg Ln St cnt th N hJ hg hs hc1 hc2
  have hqb := hJ.2.1
  obtain ⟨a, ha, ea⟩ := nI_ex (xs (i + 1))
  have hqm := JW_QM hJ
  have hmt := MT_s (TsN_MT hJ.1)
  by_cases h18 : a < 18
  · refine gw_ws (ws2 := (ob_ws cI cG oa (ca 0) (cw 0) (sg) (Ln) (St) (cnt) (th) ++ cq_ws cI tt ca (q)) ++ ((cq_ws cI tt cw (qw) ++ (stA cI cJ cF mt_NX EE (s) 0 ++ (stA cI cJ cF mt_NX EE (s) 1 ++ (stA cI cJ cF mt_NX EE (s) 2 ++ stA cI cJ cF mt_NX EE (s) 3)))) ++ mo_ws o ad cI cB cS (N))) rfl ?_
    refine gw_aload_n C 2 dL_law_224 rfl rfl ?_
    refine gw_aload_n C 3 dL_law_225 rfl rfl ?_
    refine gw_iload_n C 0 dL_law_226 rfl rfl ?_
    refine gw_iconst C 1 dL_law_227 (by decide) ?_
    refine gw_iadd C dL_law_228 ?_
    refine gw_scld C hX hbl hbA (by omega) (by omega) dL_law_229 ?_
    rw [ea]
    refine gw_appVI (n := 1) (As := [iN a]) (rest := []) C (c_Sturn (kl K) (kD K) cI cB cS cJ cF cG tt oa ca (cw 0) sg Ln St cnt th q.1 q.2.1 q.2.2.1 q.2.2.2 a h18 hqb.2.1 hqb.2.2.2) 0 rfl rfl rfl gL_law_X10_turn rfl (by decide +kernel) dL_law_230 (by rw [hkR]; dsimp only; decide) (by rw [hkR]; dsimp only; omega) rfl (Nat.le_of_ble_eq_true rfl) rfl (fun rv u hv => ?_)
    have hv : rv = nI 1 := hv
    subst hv
    refine gw_ws (ws2 := (ob_ws cI cG oa (ca 0) (cw 0) (sg) (Ln) (St) (cnt) (th + 1) ++ cq_ws cI tt ca (mkQ a q)) ++ ((cq_ws cI tt cw (qw) ++ (stA cI cJ cF mt_NX EE (s) 0 ++ (stA cI cJ cF mt_NX EE (s) 1 ++ (stA cI cJ cF mt_NX EE (s) 2 ++ stA cI cJ cF mt_NX EE (s) 3)))) ++ mo_ws o ad cI cB cS (N))) rfl ?_
    refine gw_aload_n C 1 dL_law_233 rfl rfl ?_
    refine gw_aload_n C 3 dL_law_234 rfl rfl ?_
    refine gw_iload_n C 0 dL_law_235 rfl rfl ?_
    refine gw_iconst C 1 dL_law_236 (by decide) ?_
    refine gw_iadd C dL_law_237 ?_
    refine gw_scld C hX hbl hbA (by omega) (by omega) dL_law_238 ?_
    rw [ea]
    refine gw_permL (ws2 := mo_ws o ad cI cB cS (N) ++ ((ob_ws cI cG oa (ca 0) (cw 0) (sg) (Ln) (St) (cnt) (th + 1) ++ cq_ws cI tt ca (mkQ a q)) ++ (cq_ws cI tt cw (qw) ++ (stA cI cJ cF mt_NX EE (s) 0 ++ (stA cI cJ cF mt_NX EE (s) 1 ++ (stA cI cJ cF mt_NX EE (s) 2 ++ stA cI cJ cF mt_NX EE (s) 3)))))) (l := []) (apm (fun _ _ x => by simp only [List.count_append] <;> omega)) ?_
    refine gw_appVI (n := 1) (As := [iN a]) (rest := [.int (nI 1)]) C (c_turn (kl K) (kD K) cI cB cS cJ cF cG (zs tt) (zs_ok tt) o ad N a ha hqm.2.1 hmt.1 hmt.2.1 hmt.2.2.1) 0 rfl rfl rfl gL_law_X11_turn rfl (by decide +kernel) dL_law_239 (by rw [hkR]; dsimp only; decide) (by rw [hkR]; dsimp only; omega) rfl (Nat.le_of_ble_eq_true rfl) rfl (fun rv2 M hv2 => ?_)
    obtain ⟨rfl, hM⟩ := hv2
    have hM : M = _ := hM
    rw [hM]
    refine gw_permL (ws2 := lwW cI cB cS cJ cF cG tt oa ca cw o ad EE (mkQ a q) qw s sg Ln St cnt (th + 1) (mo_turnN a N)) (l := []) (apm (fun _ _ x => by simp only [lwW, List.count_append] <;> omega)) ?_
    refine gw_icmp_eq_r C 345 dL_law_242 (by decide) (fun _ => ?_) (fun w => absurd (congrArg nI (if_pos h18).symm) w)
    exact kk _ _ _ qw s sg _ _ _ _ _ (JW_turn hJ h18) hg hs (by omega) (by omega)
  · refine gw_ws (ws2 := (ob_ws cI cG oa (ca 0) (cw 0) (sg) (Ln) (St) (cnt) (th) ++ cq_ws cI tt ca (q)) ++ ((cq_ws cI tt cw (qw) ++ (stA cI cJ cF mt_NX EE (s) 0 ++ (stA cI cJ cF mt_NX EE (s) 1 ++ (stA cI cJ cF mt_NX EE (s) 2 ++ stA cI cJ cF mt_NX EE (s) 3)))) ++ mo_ws o ad cI cB cS (N))) rfl ?_
    refine gw_aload_n C 2 dL_law_224 rfl rfl ?_
    refine gw_aload_n C 3 dL_law_225 rfl rfl ?_
    refine gw_iload_n C 0 dL_law_226 rfl rfl ?_
    refine gw_iconst C 1 dL_law_227 (by decide) ?_
    refine gw_iadd C dL_law_228 ?_
    refine gw_scld C hX hbl hbA (by omega) (by omega) dL_law_229 ?_
    rw [ea]
    refine gw_appVI (n := 1) (As := [iN a]) (rest := []) C (c_SturnB (kl K) (kD K) cI cB cS cJ cF cG tt oa ca (cw 0) sg Ln St cnt th q.1 q.2.1 q.2.2.1 q.2.2.2 a ha h18) 0 rfl rfl rfl gL_law_X10_turn rfl (by decide +kernel) dL_law_230 (by rw [hkR]; dsimp only; decide) (by rw [hkR]; dsimp only; omega) rfl (Nat.le_of_ble_eq_true rfl) rfl (fun rv u hv => ?_)
    have hv : rv = nI 4294967295 := hv
    subst hv
    refine gw_ws (ws2 := (ob_ws cI cG oa (ca 0) (cw 0) (sg) (Ln) (St) (cnt) (th) ++ cq_ws cI tt ca (q)) ++ ((cq_ws cI tt cw (qw) ++ (stA cI cJ cF mt_NX EE (s) 0 ++ (stA cI cJ cF mt_NX EE (s) 1 ++ (stA cI cJ cF mt_NX EE (s) 2 ++ stA cI cJ cF mt_NX EE (s) 3)))) ++ mo_ws o ad cI cB cS (N))) rfl ?_
    refine gw_aload_n C 1 dL_law_233 rfl rfl ?_
    refine gw_aload_n C 3 dL_law_234 rfl rfl ?_
    refine gw_iload_n C 0 dL_law_235 rfl rfl ?_
    refine gw_iconst C 1 dL_law_236 (by decide) ?_
    refine gw_iadd C dL_law_237 ?_
    refine gw_scld C hX hbl hbA (by omega) (by omega) dL_law_238 ?_
    rw [ea]
    refine gw_permL (ws2 := mo_ws o ad cI cB cS (N) ++ ((ob_ws cI cG oa (ca 0) (cw 0) (sg) (Ln) (St) (cnt) (th) ++ cq_ws cI tt ca (q)) ++ (cq_ws cI tt cw (qw) ++ (stA cI cJ cF mt_NX EE (s) 0 ++ (stA cI cJ cF mt_NX EE (s) 1 ++ (stA cI cJ cF mt_NX EE (s) 2 ++ stA cI cJ cF mt_NX EE (s) 3)))))) (l := []) (apm (fun _ _ x => by simp only [List.count_append] <;> omega)) ?_
    refine gw_appVI (n := 1) (As := [iN a]) (rest := [.int (nI 4294967295)]) C (c_turn (kl K) (kD K) cI cB cS cJ cF cG (zs tt) (zs_ok tt) o ad N a ha hqm.2.1 hmt.1 hmt.2.1 hmt.2.2.1) 0 rfl rfl rfl gL_law_X11_turn rfl (by decide +kernel) dL_law_239 (by rw [hkR]; dsimp only; decide) (by rw [hkR]; dsimp only; omega) rfl (Nat.le_of_ble_eq_true rfl) rfl (fun rv2 M hv2 => ?_)
    obtain ⟨rfl, hM⟩ := hv2
    have hM : M = _ := hM
    rw [hM]
    rw [show mo_turnN a N = N by rw [mo_turnN, if_neg h18]]
    refine gw_permL (ws2 := lwW cI cB cS cJ cF cG tt oa ca cw o ad EE (q) qw s sg Ln St cnt th (N)) (l := []) (apm (fun _ _ x => by simp only [lwW, List.count_append] <;> omega)) ?_
    refine gw_icmp_eq_r C 345 dL_law_242 (by decide) (fun _ => ?_) (fun w => absurd (congrArg nI (if_neg h18).symm) w)
    exact kk _ _ _ qw s sg _ _ _ _ _ (hJ) hg hs (by omega) (by omega)
set_option maxHeartbeats 4000000 in
set_option maxRecDepth 100000 in
theorem law_home {K : gw_K} {cI cB cS cJ cF cG : ClassId} {tt oa ca cw : Nat → Nat} {o : Nat} {ad EE : Nat → Nat} {b L i : Nat} {xs : Nat → Int32} (X : lwX K cI cB cS cJ cF cG tt b L xs) (hi : i + 4 ≤ L) (kk : lwI K cI cB cS cJ cF cG tt oa ca cw o ad EE b 345 i) : lwI K cI cB cS cJ cF cG tt oa ca cw o ad EE b 247 i := by
  obtain ⟨C, hkR, hX, hbl, hbA, hL⟩ := X
  intro cells slots q qw s sg Ln St cnt th N hJ hg hs hc1 hc2
  have hqb := hJ.2.1
  refine gw_ws (ws2 := (ob_ws cI cG oa (ca 0) (cw 0) (sg) (Ln) (St) (cnt) (th) ++ cq_ws cI tt ca (q)) ++ ((cq_ws cI tt cw (qw) ++ (stA cI cJ cF mt_NX EE (s) 0 ++ (stA cI cJ cF mt_NX EE (s) 1 ++ (stA cI cJ cF mt_NX EE (s) 2 ++ stA cI cJ cF mt_NX EE (s) 3)))) ++ mo_ws o ad cI cB cS (N))) rfl ?_
  refine gw_aload_n C 2 dL_law_247 rfl rfl ?_
  refine gw_appVI (n := 0) (As := []) (rest := []) C (c_Shome (kl K) (kD K) cI cB cS cJ cF cG tt oa ca (cw 0) sg Ln St cnt th q.1 q.2.1 q.2.2.1 q.2.2.2) 0 rfl rfl rfl gL_law_X10_home rfl (by decide +kernel) dL_law_248 (by rw [hkR]; dsimp only; decide) (by rw [hkR]; dsimp only; omega) rfl (Nat.le_of_ble_eq_true rfl) rfl (fun rv u hv => ?_)
  have hv : rv = nI th := hv
  subst hv
  refine gw_ws (ws2 := (ob_ws cI cG oa (ca 0) (cw 0) (sg) (Ln) (St) (cnt) (0) ++ cq_ws cI tt ca (mt_rsQ q)) ++ ((cq_ws cI tt cw (qw) ++ (stA cI cJ cF mt_NX EE (s) 0 ++ (stA cI cJ cF mt_NX EE (s) 1 ++ (stA cI cJ cF mt_NX EE (s) 2 ++ stA cI cJ cF mt_NX EE (s) 3)))) ++ mo_ws o ad cI cB cS (N))) rfl ?_
  refine gw_aload_n C 1 dL_law_251 rfl rfl ?_
  refine gw_permL (ws2 := mo_ws o ad cI cB cS (N) ++ ((ob_ws cI cG oa (ca 0) (cw 0) (sg) (Ln) (St) (cnt) (0) ++ cq_ws cI tt ca (mt_rsQ q)) ++ (cq_ws cI tt cw (qw) ++ (stA cI cJ cF mt_NX EE (s) 0 ++ (stA cI cJ cF mt_NX EE (s) 1 ++ (stA cI cJ cF mt_NX EE (s) 2 ++ stA cI cJ cF mt_NX EE (s) 3)))))) (l := []) (apm (fun _ _ x => by simp only [List.count_append] <;> omega)) ?_
  refine gw_appVI (n := 0) (As := []) (rest := [.int (nI th)]) C (c_home (kl K) (kD K) cI cB cS cJ cF cG (zs tt) (zs_ok tt) o ad N) 0 rfl rfl rfl gL_law_X11_home rfl (by decide +kernel) dL_law_252 (by rw [hkR]; dsimp only; decide) (by rw [hkR]; dsimp only; omega) rfl (Nat.le_of_ble_eq_true rfl) rfl (fun rv2 M hv2 => ?_)
  obtain ⟨rfl, hM⟩ := hv2
  have hM : M = _ := hM
  rw [hM]
  refine gw_permL (ws2 := lwW cI cB cS cJ cF cG tt oa ca cw o ad EE (mt_rsQ q) qw s sg Ln St cnt 0 (mo_bh 12 (mo_up N 14 0 0))) (l := []) (apm (fun _ _ x => by simp only [lwW, List.count_append] <;> omega)) ?_
  refine gw_icmp_eq_r C 345 dL_law_255 (by decide) (fun _ => ?_) (fun w => absurd (congrArg nI hJ.2.2.2.1.symm) w)
  exact kk _ _ _ qw s sg _ _ _ _ _ (JW_home hJ) hg hs (by omega) (by omega)
set_option maxHeartbeats 4000000 in
set_option maxRecDepth 100000 in
theorem law_isHome {K : gw_K} {cI cB cS cJ cF cG : ClassId} {tt oa ca cw : Nat → Nat} {o : Nat} {ad EE : Nat → Nat} {b L i : Nat} {xs : Nat → Int32} (X : lwX K cI cB cS cJ cF cG tt b L xs) (hi : i + 4 ≤ L) (kk : lwI K cI cB cS cJ cF cG tt oa ca cw o ad EE b 345 i) : lwI K cI cB cS cJ cF cG tt oa ca cw o ad EE b 260 i := by
  obtain ⟨C, hkR, hX, hbl, hbA, hL⟩ := X
  intro cells slots q qw s sg Ln St cnt th N hJ hg hs hc1 hc2
  have hqb := hJ.2.1
  have hqm := JW_QM hJ
  refine gw_ws (ws2 := (ob_ws cI cG oa (ca 0) (cw 0) (sg) (Ln) (St) (cnt) (th) ++ cq_ws cI tt ca (q)) ++ ((cq_ws cI tt cw (qw) ++ (stA cI cJ cF mt_NX EE (s) 0 ++ (stA cI cJ cF mt_NX EE (s) 1 ++ (stA cI cJ cF mt_NX EE (s) 2 ++ stA cI cJ cF mt_NX EE (s) 3)))) ++ mo_ws o ad cI cB cS (N))) rfl ?_
  refine gw_aload_n C 2 dL_law_260 rfl rfl ?_
  refine gw_appVI (n := 0) (As := []) (rest := []) C (c_SisHome (kl K) (kD K) cI cB cS cJ cF cG tt oa ca (cw 0) sg Ln St cnt th q.1 q.2.1 q.2.2.1 q.2.2.2 hqb.1 hqb.2.1 hqb.2.2.1 hqb.2.2.2) 0 rfl rfl rfl gL_law_X10_isHome rfl (by decide +kernel) dL_law_261 (by rw [hkR]; dsimp only; decide) (by rw [hkR]; dsimp only; omega) rfl (Nat.le_of_ble_eq_true rfl) rfl (fun rv u hv => ?_)
  have hv : rv = nI (if ah_ q.1 q.2.1 8 = 0 then 0 else if ah_ q.2.2.1 q.2.2.2 12 = 0 then 0 else 1) := hv
  subst hv
  refine gw_ws (ws2 := (ob_ws cI cG oa (ca 0) (cw 0) (sg) (Ln) (St) (cnt) (th) ++ cq_ws cI tt ca (q)) ++ ((cq_ws cI tt cw (qw) ++ (stA cI cJ cF mt_NX EE (s) 0 ++ (stA cI cJ cF mt_NX EE (s) 1 ++ (stA cI cJ cF mt_NX EE (s) 2 ++ stA cI cJ cF mt_NX EE (s) 3)))) ++ mo_ws o ad cI cB cS (N))) rfl ?_
  refine gw_aload_n C 1 dL_law_264 rfl rfl ?_
  refine gw_permL (ws2 := mo_ws o ad cI cB cS (N) ++ ((ob_ws cI cG oa (ca 0) (cw 0) (sg) (Ln) (St) (cnt) (th) ++ cq_ws cI tt ca (q)) ++ (cq_ws cI tt cw (qw) ++ (stA cI cJ cF mt_NX EE (s) 0 ++ (stA cI cJ cF mt_NX EE (s) 1 ++ (stA cI cJ cF mt_NX EE (s) 2 ++ stA cI cJ cF mt_NX EE (s) 3)))))) (l := []) (apm (fun _ _ x => by simp only [List.count_append] <;> omega)) ?_
  refine gw_appVI (n := 0) (As := []) (rest := [.int (nI (if ah_ q.1 q.2.1 8 = 0 then 0 else if ah_ q.2.2.1 q.2.2.2 12 = 0 then 0 else 1))]) C (c_isHome (kl K) (kD K) cI cB cS cJ cF cG (zs tt) (zs_ok tt) o ad N hqm.1 hqm.2.1 hqm.2.2.1 hqm.2.2.2) 0 rfl rfl rfl gL_law_X11_isHome rfl (by decide +kernel) dL_law_265 (by rw [hkR]; dsimp only; decide) (by rw [hkR]; dsimp only; omega) rfl (Nat.le_of_ble_eq_true rfl) rfl (fun rv2 M hv2 => ?_)
  obtain ⟨rfl, hM⟩ := hv2
  have hM : M = _ := hM
  rw [hM]
  refine gw_permL (ws2 := lwW cI cB cS cJ cF cG tt oa ca cw o ad EE (q) qw s sg Ln St cnt th (N)) (l := []) (apm (fun _ _ x => by simp only [lwW, List.count_append] <;> omega)) ?_
  refine gw_icmp_eq_r C 345 dL_law_268 (by decide) (fun _ => ?_) (fun w => absurd (congrArg nI (isHome_eq hJ.2.2.1).symm) w)
  exact kk _ _ _ qw s sg _ _ _ _ _ (hJ) hg hs (by omega) (by omega)
set_option maxHeartbeats 4000000 in
set_option maxRecDepth 100000 in
theorem law_stage {K : gw_K} {cI cB cS cJ cF cG : ClassId} {tt oa ca cw : Nat → Nat} {o : Nat} {ad EE : Nat → Nat} {b L i : Nat} {xs : Nat → Int32} (X : lwX K cI cB cS cJ cF cG tt b L xs) (hi : i + 4 ≤ L) (kk : lwI K cI cB cS cJ cF cG tt oa ca cw o ad EE b 345 i) : lwI K cI cB cS cJ cF cG tt oa ca cw o ad EE b 286 i := by
  obtain ⟨C, hkR, hX, hbl, hbA, hL⟩ := X
  intro cells slots q qw s sg Ln St cnt th N hJ hg hs hc1 hc2
  have hqb := hJ.2.1
  have hw := hJ.2.2.2.2.1
  obtain ⟨a, ha, ea⟩ := nI_ex (xs (i + 1))
  refine gw_aload_n C 2 dL_law_286 rfl rfl ?_
  refine gw_aload_n C 3 dL_law_287 rfl rfl ?_
  refine gw_iload_n C 0 dL_law_288 rfl rfl ?_
  refine gw_iconst C 1 dL_law_289 (by decide) ?_
  refine gw_iadd C dL_law_290 ?_
  refine gw_scld C hX hbl hbA (by omega) (by omega) dL_law_291 ?_
  rw [ea]
  refine gw_ws (ws2 := ob_ws cI cG oa (ca 0) (cw 0) (sg) (Ln) (St) (cnt) (th) ++ (cq_ws cI tt ca (q) ++ ((cq_ws cI tt cw (qw) ++ (stA cI cJ cF mt_NX EE (s) 0 ++ (stA cI cJ cF mt_NX EE (s) 1 ++ (stA cI cJ cF mt_NX EE (s) 2 ++ stA cI cJ cF mt_NX EE (s) 3)))) ++ mo_ws o ad cI cB cS (N)))) (by rw [lwW, List.append_assoc]) ?_
  refine gw_appVI (n := 1) (As := [iN a]) (rest := []) C (c_Sstage (kl K) (kD K) cI cB cS cJ cF cG tt oa ca (cw 0) sg Ln St cnt th a ha) 0 rfl rfl rfl gL_law_X10_stage rfl (by decide +kernel) dL_law_292 (by rw [hkR]; dsimp only; decide) (by rw [hkR]; dsimp only; omega) rfl (Nat.le_of_ble_eq_true rfl) rfl (fun rv u hv => ?_)
  have hv : rv = nI (if 1 ≤ a ∧ a ≤ 4 then Ln (a - 1) else 4294967295) := hv
  subst hv
  refine gw_ws (ws2 := ob_ws cI cG oa (ca 0) (cw 0) (sg) (Ln) (St) (cnt) (th) ++ (cq_ws cI tt ca (q) ++ ((cq_ws cI tt cw (qw) ++ (stA cI cJ cF mt_NX EE (s) 0 ++ (stA cI cJ cF mt_NX EE (s) 1 ++ (stA cI cJ cF mt_NX EE (s) 2 ++ stA cI cJ cF mt_NX EE (s) 3)))) ++ mo_ws o ad cI cB cS (N)))) rfl ?_
  refine gw_aload_n C 1 dL_law_295 rfl rfl ?_
  refine gw_aload_n C 3 dL_law_296 rfl rfl ?_
  refine gw_iload_n C 0 dL_law_297 rfl rfl ?_
  refine gw_iconst C 1 dL_law_298 (by decide) ?_
  refine gw_iadd C dL_law_299 ?_
  refine gw_scld C hX hbl hbA (by omega) (by omega) dL_law_300 ?_
  rw [ea]
  refine gw_permL (ws2 := mo_ws o ad cI cB cS (N) ++ (ob_ws cI cG oa (ca 0) (cw 0) (sg) (Ln) (St) (cnt) (th) ++ (cq_ws cI tt ca (q) ++ (cq_ws cI tt cw (qw) ++ (stA cI cJ cF mt_NX EE (s) 0 ++ (stA cI cJ cF mt_NX EE (s) 1 ++ (stA cI cJ cF mt_NX EE (s) 2 ++ stA cI cJ cF mt_NX EE (s) 3))))))) (l := []) (apm (fun _ _ x => by simp only [List.count_append] <;> omega)) ?_
  refine gw_appVI (n := 1) (As := [iN a]) (rest := [.int (nI (if 1 ≤ a ∧ a ≤ 4 then Ln (a - 1) else 4294967295))]) C (c_stage (kl K) (kD K) cI cB cS cJ cF cG (zs tt) (zs_ok tt) o ad N a ha hw) 0 rfl rfl rfl gL_law_X11_stage rfl (by decide +kernel) dL_law_301 (by rw [hkR]; dsimp only; decide) (by rw [hkR]; dsimp only; omega) rfl (Nat.le_of_ble_eq_true rfl) rfl (fun rv2 M hv2 => ?_)
  obtain ⟨rfl, hM⟩ := hv2
  have hM : M = _ := hM
  rw [hM]
  refine gw_permL (ws2 := lwW cI cB cS cJ cF cG tt oa ca cw o ad EE q qw s sg Ln St cnt th N) (l := []) (apm (fun _ _ x => by simp only [lwW, List.count_append] <;> omega)) ?_
  refine gw_icmp_eq_r C 345 dL_law_304 (by decide) (fun _ => ?_) (fun w => absurd (congrArg nI (JW_stage hJ a).symm) w)
  exact kk _ _ _ qw s sg _ _ _ _ _ hJ hg hs (by omega) (by omega)
set_option maxHeartbeats 4000000 in
set_option maxRecDepth 100000 in
theorem law_step {K : gw_K} {cI cB cS cJ cF cG : ClassId} {tt oa ca cw : Nat → Nat} {o : Nat} {ad EE : Nat → Nat} {b L i : Nat} {xs : Nat → Int32} (X : lwX K cI cB cS cJ cF cG tt b L xs) (hi : i + 4 ≤ L) (kk : lwI K cI cB cS cJ cF cG tt oa ca cw o ad EE b 345 i) : lwI K cI cB cS cJ cF cG tt oa ca cw o ad EE b 309 i := by
  obtain ⟨C, hkR, hX, hbl, hbA, hL⟩ := X
  intro cells slots q qw s sg Ln St cnt th N hJ hg hs hc1 hc2
  have hqb := hJ.2.1
  have hw := hJ.2.2.2.2.1
  have hsn : N 16 0 ≤ 100 := by have := hJ.2.2.2.2.2.1; have := hJ.2.2.2.2.2.2.1; omega
  obtain ⟨a, ha, ea⟩ := nI_ex (xs (i + 1))
  refine gw_aload_n C 2 dL_law_309 rfl rfl ?_
  refine gw_aload_n C 3 dL_law_310 rfl rfl ?_
  refine gw_iload_n C 0 dL_law_311 rfl rfl ?_
  refine gw_iconst C 1 dL_law_312 (by decide) ?_
  refine gw_iadd C dL_law_313 ?_
  refine gw_scld C hX hbl hbA (by omega) (by omega) dL_law_314 ?_
  rw [ea]
  refine gw_ws (ws2 := ob_ws cI cG oa (ca 0) (cw 0) (sg) (Ln) (St) (cnt) (th) ++ (cq_ws cI tt ca (q) ++ ((cq_ws cI tt cw (qw) ++ (stA cI cJ cF mt_NX EE (s) 0 ++ (stA cI cJ cF mt_NX EE (s) 1 ++ (stA cI cJ cF mt_NX EE (s) 2 ++ stA cI cJ cF mt_NX EE (s) 3)))) ++ mo_ws o ad cI cB cS (N)))) (by rw [lwW, List.append_assoc]) ?_
  refine gw_appVI (n := 1) (As := [iN a]) (rest := []) C (c_Sstep (kl K) (kD K) cI cB cS cJ cF cG tt oa ca (cw 0) sg Ln St cnt th a ha hJ.2.2.2.2.2.2.1) 0 rfl rfl rfl gL_law_X10_step rfl (by decide +kernel) dL_law_315 (by rw [hkR]; dsimp only; decide) (by rw [hkR]; dsimp only; omega) rfl (Nat.le_of_ble_eq_true rfl) rfl (fun rv u hv => ?_)
  have hv : rv = nI (if a < cnt then St a else 4294967295) := hv
  subst hv
  refine gw_ws (ws2 := ob_ws cI cG oa (ca 0) (cw 0) (sg) (Ln) (St) (cnt) (th) ++ (cq_ws cI tt ca (q) ++ ((cq_ws cI tt cw (qw) ++ (stA cI cJ cF mt_NX EE (s) 0 ++ (stA cI cJ cF mt_NX EE (s) 1 ++ (stA cI cJ cF mt_NX EE (s) 2 ++ stA cI cJ cF mt_NX EE (s) 3)))) ++ mo_ws o ad cI cB cS (N)))) rfl ?_
  refine gw_aload_n C 1 dL_law_318 rfl rfl ?_
  refine gw_aload_n C 3 dL_law_319 rfl rfl ?_
  refine gw_iload_n C 0 dL_law_320 rfl rfl ?_
  refine gw_iconst C 1 dL_law_321 (by decide) ?_
  refine gw_iadd C dL_law_322 ?_
  refine gw_scld C hX hbl hbA (by omega) (by omega) dL_law_323 ?_
  rw [ea]
  refine gw_permL (ws2 := mo_ws o ad cI cB cS (N) ++ (ob_ws cI cG oa (ca 0) (cw 0) (sg) (Ln) (St) (cnt) (th) ++ (cq_ws cI tt ca (q) ++ (cq_ws cI tt cw (qw) ++ (stA cI cJ cF mt_NX EE (s) 0 ++ (stA cI cJ cF mt_NX EE (s) 1 ++ (stA cI cJ cF mt_NX EE (s) 2 ++ stA cI cJ cF mt_NX EE (s) 3))))))) (l := []) (apm (fun _ _ x => by simp only [List.count_append] <;> omega)) ?_
  refine gw_appVI (n := 1) (As := [iN a]) (rest := [.int (nI (if a < cnt then St a else 4294967295))]) C (c_step (kl K) (kD K) cI cB cS cJ cF cG (zs tt) (zs_ok tt) o ad N a ha hw hsn) 0 rfl rfl rfl gL_law_X11_step rfl (by decide +kernel) dL_law_324 (by rw [hkR]; dsimp only; decide) (by rw [hkR]; dsimp only; omega) rfl (Nat.le_of_ble_eq_true rfl) rfl (fun rv2 M hv2 => ?_)
  obtain ⟨rfl, hM⟩ := hv2
  have hM : M = _ := hM
  rw [hM]
  refine gw_permL (ws2 := lwW cI cB cS cJ cF cG tt oa ca cw o ad EE q qw s sg Ln St cnt th N) (l := []) (apm (fun _ _ x => by simp only [lwW, List.count_append] <;> omega)) ?_
  refine gw_icmp_eq_r C 345 dL_law_327 (by decide) (fun _ => ?_) (fun w => absurd (congrArg nI (JW_step hJ a).symm) w)
  exact kk _ _ _ qw s sg _ _ _ _ _ hJ hg hs (by omega) (by omega)
set_option maxHeartbeats 4000000 in
set_option maxRecDepth 100000 in
theorem law_flips {K : gw_K} {cI cB cS cJ cF cG : ClassId} {tt oa ca cw : Nat → Nat} {o : Nat} {ad EE : Nat → Nat} {b L i : Nat} {xs : Nat → Int32} (X : lwX K cI cB cS cJ cF cG tt b L xs) (hi : i + 4 ≤ L) (hmt : mtA mt_NX EE) (H0 : ∀ q, mt_Lw q → mt_Fnd mt_Lw mt_G0 6 q (fd0q (mt_NX 0) (EE 0) q)) (H1 : ∀ q, mt_C1 q → mt_Fnd mt_C1 mt_G1 4 q (fd1q (mt_NX 1) (EE 1) q)) (H2 : ∀ q, mt_C2 q → mt_Fnd mt_C2 mt_G2 2 q (fd2q (mt_NX 2) (EE 2) q)) (H3 : ∀ q, mt_C3 q → mt_Fnd mt_C3 mt_G3 0 q (fd3q (mt_NX 3) (EE 3) q)) (kk : lwI K cI cB cS cJ cF cG tt oa ca cw o ad EE b 345 i) : lwI K cI cB cS cJ cF cG tt oa ca cw o ad EE b 332 i := by
  obtain ⟨C, hkR, hX, hbl, hbA, hL⟩ := X
  intro cells slots q qw s sg Ln St cnt th N hJ hg hs hc1 hc2
  have hqb := hJ.2.1
  have hqm := JW_QM hJ
  by_cases hl : SlwQ q = 1
  · obtain ⟨_, _, _, _, hok⟩ := solves H0 H1 H2 H3 (Lw_of hqb hl)
    obtain ⟨N2, r1, r2⟩ := JW_flips H0 hJ hl
    have e0 := fun u => po_step (s 0) (sv0q q) u 5 6
    have f0 := fun u => po_step (s 0) (sv0q q) u 42 14494
    have pc0 : poC s = po1 (s 0) 5 6 + po1 (s 1) 6 10 + po1 (s 2) 9 10 + po1 (s 3) 12 18 := rfl
    have ps0 : poS s = po1 (s 0) 42 14494 + po1 (s 1) 64 85853 + po1 (s 2) 87 8926 + po1 (s 3) 125 94304 := rfl
    have room1 : cells + (knc (s 0) 5 + fdc (knb (s 0)) (sv0q q) 6) ≤ 182462 := by have := e0 ((fun _ => 0), (fun _ _ => 0), (fun _ => 0), (fun _ => 0)); omega
    have room2 : slots + (knc (s 0) 42 + fdc (knb (s 0)) (sv0q q) 14494) ≤ 8554864 := by have := f0 ((fun _ => 0), (fun _ _ => 0), (fun _ => 0), (fun _ => 0)); omega
    refine gw_aload_n C 2 dL_law_332 rfl rfl ?_
    refine gw_permL (ws2 := (ob_ws cI cG oa (ca 0) (cw 0) (sg) (Ln) (St) (cnt) (th) ++ (cq_ws cI tt ca (q) ++ stA cI cJ cF mt_NX EE s 0)) ++ (cq_ws cI tt cw qw ++ ((stA cI cJ cF mt_NX EE (s) 1 ++ (stA cI cJ cF mt_NX EE (s) 2 ++ stA cI cJ cF mt_NX EE (s) 3)) ++ mo_ws o ad cI cB cS (N)))) (l := []) (apm (fun _ _ x => by simp only [lwW, List.count_append] <;> omega)) ?_
    refine gw_appVI (n := 0) (As := []) (rest := []) C (c_Sflips (kl K) (kD K) cI cB cS cJ cF cG tt oa ca (cw 0) sg Ln St cnt th q mt_NX EE (s 0) hl hok.1 hmt.1 (hg 0 (by decide)) (hs 0 (by decide))) 0 rfl rfl rfl gL_law_X10_flips rfl (by decide +kernel) dL_law_333 (by rw [hkR]; dsimp only; decide) (by rw [hkR]; exact ⟨room1, room2⟩) rfl (Nat.le_of_ble_eq_true rfl) rfl (fun rv u hv => ?_)
    obtain ⟨rfl, k0⟩ := hv
    refine gw_ws (ws2 := (ob_ws cI cG oa (ca 0) (cw 0) (va_up sg 0 (some (u.1 0))) (Ln) (St) (cnt) (th) ++ (cq_ws cI tt ca (q) ++ stA cI cJ cF mt_NX EE (fun k => if k = 0 then some (fdb (knb (s 0)) (sv0q q), u) else s k) 0)) ++ (cq_ws cI tt cw qw ++ ((stA cI cJ cF mt_NX EE (fun k => if k = 0 then some (fdb (knb (s 0)) (sv0q q), u) else s k) 1 ++ (stA cI cJ cF mt_NX EE (fun k => if k = 0 then some (fdb (knb (s 0)) (sv0q q), u) else s k) 2 ++ stA cI cJ cF mt_NX EE (fun k => if k = 0 then some (fdb (knb (s 0)) (sv0q q), u) else s k) 3)) ++ mo_ws o ad cI cB cS (N)))) rfl ?_
    refine gw_aload_n C 1 dL_law_336 rfl rfl ?_
    refine gw_permL (ws2 := mo_ws o ad cI cB cS (N) ++ ((ob_ws cI cG oa (ca 0) (cw 0) (va_up sg 0 (some (u.1 0))) (Ln) (St) (cnt) (th) ++ (cq_ws cI tt ca (q) ++ stA cI cJ cF mt_NX EE (fun k => if k = 0 then some (fdb (knb (s 0)) (sv0q q), u) else s k) 0)) ++ (cq_ws cI tt cw qw ++ (stA cI cJ cF mt_NX EE (fun k => if k = 0 then some (fdb (knb (s 0)) (sv0q q), u) else s k) 1 ++ (stA cI cJ cF mt_NX EE (fun k => if k = 0 then some (fdb (knb (s 0)) (sv0q q), u) else s k) 2 ++ stA cI cJ cF mt_NX EE (fun k => if k = 0 then some (fdb (knb (s 0)) (sv0q q), u) else s k) 3))))) (l := []) (apm (fun _ _ x => by simp only [List.count_append] <;> omega)) ?_
    refine gw_appVI (n := 0) (As := []) (rest := [.int (nI (fd0q (mt_NX 0) (EE 0) q).1)]) C (r1 (kl K) (kD K) cI cB cS cJ cF cG (zs tt) (zs_ok tt) o ad) 0 rfl rfl rfl gL_law_X11_flips rfl (by decide +kernel) dL_law_337 (by rw [hkR]; dsimp only; decide) (by rw [hkR]; exact ⟨room1, room2⟩) rfl (Nat.le_of_ble_eq_true rfl) rfl (fun rv2 M hv2 => ?_)
    obtain ⟨rfl, hM⟩ := hv2
    have hM : M = N2 := hM
    rw [hM]
    refine gw_permL (ws2 := lwW cI cB cS cJ cF cG tt oa ca cw o ad EE q qw (fun k => if k = 0 then some (fdb (knb (s 0)) (sv0q q), u) else s k) (va_up sg 0 (some (u.1 0))) Ln St cnt th N2) (l := []) (apm (fun _ _ x => by simp only [lwW, List.count_append] <;> omega)) ?_
    refine gw_icmp_eq_r C 345 dL_law_340 (by decide) (fun _ => ?_) (fun w => absurd rfl w)
    have pc1 : poC (fun k => if k = 0 then some (fdb (knb (s 0)) (sv0q q), u) else s k) = po1 (some (fdb (knb (s 0)) (sv0q q), u)) 5 6 + po1 (s 1) 6 10 + po1 (s 2) 9 10 + po1 (s 3) 12 18 := rfl
    have ps1 : poS (fun k => if k = 0 then some (fdb (knb (s 0)) (sv0q q), u) else s k) = po1 (some (fdb (knb (s 0)) (sv0q q), u)) 42 14494 + po1 (s 1) 64 85853 + po1 (s 2) 87 8926 + po1 (s 3) 125 94304 := rfl
    exact kk _ _ _ _ _ _ _ _ _ _ _ r2 (fun k hk => by
      show (if k = 0 then _ else _) = _
      by_cases z : k = 0
      · rw [if_pos z]; subst z; rfl
      · rw [if_neg z, hg k hk]; show _ = Option.map _ (if k = 0 then _ else _); rw [if_neg z]) (fun k hk x hx => by
      by_cases z : k = 0
      · subst z
        have hx2 : some (fdb (knb (s 0)) (sv0q q), u) = some x := hx
        cases hx2
        exact k0
      · have hx2 : (if k = 0 then some (fdb (knb (s 0)) (sv0q q), u) else s k) = some x := hx
        rw [if_neg z] at hx2
        exact hs k hk x hx2) (by have := e0 u; omega) (by have := f0 u; omega)
  · refine gw_ws (ws2 := (ob_ws cI cG oa (ca 0) (cw 0) (sg) (Ln) (St) (cnt) (th) ++ cq_ws cI tt ca (q)) ++ ((cq_ws cI tt cw (qw) ++ (stA cI cJ cF mt_NX EE (s) 0 ++ (stA cI cJ cF mt_NX EE (s) 1 ++ (stA cI cJ cF mt_NX EE (s) 2 ++ stA cI cJ cF mt_NX EE (s) 3)))) ++ mo_ws o ad cI cB cS (N))) rfl ?_
    refine gw_aload_n C 2 dL_law_332 rfl rfl ?_
    refine gw_appVI (n := 0) (As := []) (rest := []) C (c_SflipsN (kl K) (kD K) cI cB cS cJ cF cG tt oa ca (cw 0) sg Ln St cnt th q hqb hl) 0 rfl rfl rfl gL_law_X10_flips rfl (by decide +kernel) dL_law_333 (by rw [hkR]; dsimp only; decide) (by rw [hkR]; dsimp only; omega) rfl (Nat.le_of_ble_eq_true rfl) rfl (fun rv u hv => ?_)
    have hv : rv = nI (SlwQ q) := hv
    subst hv
    refine gw_ws (ws2 := (ob_ws cI cG oa (ca 0) (cw 0) (sg) (Ln) (St) (cnt) (th) ++ cq_ws cI tt ca (q)) ++ ((cq_ws cI tt cw (qw) ++ (stA cI cJ cF mt_NX EE (s) 0 ++ (stA cI cJ cF mt_NX EE (s) 1 ++ (stA cI cJ cF mt_NX EE (s) 2 ++ stA cI cJ cF mt_NX EE (s) 3)))) ++ mo_ws o ad cI cB cS (N))) rfl ?_
    refine gw_aload_n C 1 dL_law_336 rfl rfl ?_
    refine gw_permL (ws2 := mo_ws o ad cI cB cS (N) ++ ((ob_ws cI cG oa (ca 0) (cw 0) (sg) (Ln) (St) (cnt) (th) ++ cq_ws cI tt ca (q)) ++ (cq_ws cI tt cw (qw) ++ (stA cI cJ cF mt_NX EE (s) 0 ++ (stA cI cJ cF mt_NX EE (s) 1 ++ (stA cI cJ cF mt_NX EE (s) 2 ++ stA cI cJ cF mt_NX EE (s) 3)))))) (l := []) (apm (fun _ _ x => by simp only [List.count_append] <;> omega)) ?_
    refine gw_appVI (n := 0) (As := []) (rest := [.int (nI (SlwQ q))]) C (c_flips_no (kl K) (kD K) cI cB cS cJ cF cG (zs tt) (zs_ok tt) o ad N hqm.1 hqm.2.1 hqm.2.2.1 hqm.2.2.2 (by rw [JW_law hJ]; exact hl)) 0 rfl rfl rfl gL_law_X11_flips rfl (by decide +kernel) dL_law_337 (by rw [hkR]; dsimp only; decide) (by rw [hkR]; dsimp only; omega) rfl (Nat.le_of_ble_eq_true rfl) rfl (fun rv2 M hv2 => ?_)
    obtain ⟨rfl, hM⟩ := hv2
    have hM : M = _ := hM
    rw [hM]
    refine gw_permL (ws2 := lwW cI cB cS cJ cF cG tt oa ca cw o ad EE (q) qw s sg Ln St cnt th (N)) (l := []) (apm (fun _ _ x => by simp only [lwW, List.count_append] <;> omega)) ?_
    refine gw_icmp_eq_r C 345 dL_law_340 (by decide) (fun _ => ?_) (fun w => absurd (congrArg nI (JW_law hJ).symm) w)
    exact kk _ _ _ qw s sg _ _ _ _ _ (hJ) hg hs (by omega) (by omega)
