set_option maxRecDepth 100000 in
theorem zf_0 : ∀ j, j < 24 → Cond.eq (.elem (.static "StageCube$Pieces" "CORNER_ROUND" "[I") (.int (Int32.ofNat j))) (.int (nI (cu_cr j))) ∈ flatC (Jvm.Cond.and given_1 narrow_1) := by decide +kernel
theorem zl_0 : Cond.eq (.length (.static "StageCube$Pieces" "CORNER_ROUND" "[I")) (.int (Int32.ofNat 24)) ∈ flatC (Jvm.Cond.and given_1 narrow_1) := by decide +kernel
theorem za_0 : Cond.arrayOf (.static "StageCube$Pieces" "CORNER_ROUND" "[I") .int ∈ flatC (Jvm.Cond.and given_1 narrow_1) := by decide +kernel
set_option maxRecDepth 100000 in
theorem zf_1 : ∀ j, j < 24 → Cond.eq (.elem (.static "StageCube$Pieces" "EDGE_ROUND" "[I") (.int (Int32.ofNat j))) (.int (nI (cu_er j))) ∈ flatC (Jvm.Cond.and given_1 narrow_1) := by decide +kernel
theorem zl_1 : Cond.eq (.length (.static "StageCube$Pieces" "EDGE_ROUND" "[I")) (.int (Int32.ofNat 24)) ∈ flatC (Jvm.Cond.and given_1 narrow_1) := by decide +kernel
theorem za_1 : Cond.arrayOf (.static "StageCube$Pieces" "EDGE_ROUND" "[I") .int ∈ flatC (Jvm.Cond.and given_1 narrow_1) := by decide +kernel
set_option maxRecDepth 100000 in
theorem zf_2 : ∀ j, j < 24 → Cond.eq (.elem (.static "StageCube$Pieces" "TWIST_GAIN" "[I") (.int (Int32.ofNat j))) (.int (nI (cu_tg j))) ∈ flatC (Jvm.Cond.and given_1 narrow_1) := by decide +kernel
theorem zl_2 : Cond.eq (.length (.static "StageCube$Pieces" "TWIST_GAIN" "[I")) (.int (Int32.ofNat 24)) ∈ flatC (Jvm.Cond.and given_1 narrow_1) := by decide +kernel
theorem za_2 : Cond.arrayOf (.static "StageCube$Pieces" "TWIST_GAIN" "[I") .int ∈ flatC (Jvm.Cond.and given_1 narrow_1) := by decide +kernel
set_option maxRecDepth 100000 in
theorem zf_3 : ∀ j, j < 24 → Cond.eq (.elem (.static "StageCube$Pieces" "FLIP_GAIN" "[I") (.int (Int32.ofNat j))) (.int (nI (cu_fg j))) ∈ flatC (Jvm.Cond.and given_1 narrow_1) := by decide +kernel
theorem zl_3 : Cond.eq (.length (.static "StageCube$Pieces" "FLIP_GAIN" "[I")) (.int (Int32.ofNat 24)) ∈ flatC (Jvm.Cond.and given_1 narrow_1) := by decide +kernel
theorem za_3 : Cond.arrayOf (.static "StageCube$Pieces" "FLIP_GAIN" "[I") .int ∈ flatC (Jvm.Cond.and given_1 narrow_1) := by decide +kernel
set_option maxRecDepth 100000 in
theorem zf_4 : ∀ j, j < 60 → Cond.eq (.elem (.static "StageCube$Numbering" "CHOOSE" "[I") (.int (Int32.ofNat j))) (.int (nI (cu_ch j))) ∈ flatC (Jvm.Cond.and given_1 narrow_1) := by decide +kernel
theorem zl_4 : Cond.eq (.length (.static "StageCube$Numbering" "CHOOSE" "[I")) (.int (Int32.ofNat 60)) ∈ flatC (Jvm.Cond.and given_1 narrow_1) := by decide +kernel
theorem za_4 : Cond.arrayOf (.static "StageCube$Numbering" "CHOOSE" "[I") .int ∈ flatC (Jvm.Cond.and given_1 narrow_1) := by decide +kernel
set_option maxRecDepth 100000 in
theorem zf_5 : ∀ j, j < 4 → Cond.eq (.elem (.static "StageCube$Pairings" "EVEN" "[I") (.int (Int32.ofNat j))) (.int (nI (cu_ev j))) ∈ flatC (Jvm.Cond.and given_1 narrow_1) := by decide +kernel
theorem zl_5 : Cond.eq (.length (.static "StageCube$Pairings" "EVEN" "[I")) (.int (Int32.ofNat 4)) ∈ flatC (Jvm.Cond.and given_1 narrow_1) := by decide +kernel
theorem za_5 : Cond.arrayOf (.static "StageCube$Pairings" "EVEN" "[I") .int ∈ flatC (Jvm.Cond.and given_1 narrow_1) := by decide +kernel
set_option maxRecDepth 100000 in
theorem zf_6 : ∀ j, j < 8 → Cond.eq (.elem (.static "StageCube$Pairings" "POSITIONS" "[I") (.int (Int32.ofNat j))) (.int (nI (cu_ps j))) ∈ flatC (Jvm.Cond.and given_1 narrow_1) := by decide +kernel
theorem zl_6 : Cond.eq (.length (.static "StageCube$Pairings" "POSITIONS" "[I")) (.int (Int32.ofNat 8)) ∈ flatC (Jvm.Cond.and given_1 narrow_1) := by decide +kernel
theorem za_6 : Cond.arrayOf (.static "StageCube$Pairings" "POSITIONS" "[I") .int ∈ flatC (Jvm.Cond.and given_1 narrow_1) := by decide +kernel
theorem zs_ex {s : State} {b : Nat} (hts : ∀ w ∈ lw_tbl, w.before #[Value.ref b] s = true) (hgv : (Jvm.Cond.and given_1 narrow_1).before #[Value.ref b] s = true) : ∃ tt : Nat → Nat, zs tt (fun q : Nat => s.heap.size ≤ q) s s.heap := by
  have hs := flat_of_before _ hgv
  have hA : ∀ a : Nat, a < s.heap.size → ¬ (fun q : Nat => s.heap.size ≤ q) a := fun a h w => absurd (show s.heap.size ≤ a from w) (Nat.not_le.mpr h)
  obtain ⟨t0, e0, T0⟩ := va_Tof (tm := (.static "StageCube$Pieces" "CORNER_ROUND" "[I")) (ty := .int) (N := 24) (f := fun j => iN (cu_cr j)) (A := (fun q : Nat => s.heap.size ≤ q)) (by decide) (hs _ za_0) (va_eqt (hs _ zl_0)) (fun j hj => va_eqt (hs _ (zf_0 j hj))) hA
  have Z0 := va_Zof (hts (.laysStatic "StageCube$Pieces" "CORNER_ROUND" "[I") (lwt_1 (List.mem_of_getElem? (i := 36) rfl))) (hts (.initialized "StageCube$Pieces") (lwt_1 (List.mem_of_getElem? (i := 3) rfl))) e0 hA
  obtain ⟨t1, e1, T1⟩ := va_Tof (tm := (.static "StageCube$Pieces" "EDGE_ROUND" "[I")) (ty := .int) (N := 24) (f := fun j => iN (cu_er j)) (A := (fun q : Nat => s.heap.size ≤ q)) (by decide) (hs _ za_1) (va_eqt (hs _ zl_1)) (fun j hj => va_eqt (hs _ (zf_1 j hj))) hA
  have Z1 := va_Zof (hts (.laysStatic "StageCube$Pieces" "EDGE_ROUND" "[I") (lwt_1 (List.mem_of_getElem? (i := 38) rfl))) (hts (.initialized "StageCube$Pieces") (lwt_1 (List.mem_of_getElem? (i := 3) rfl))) e1 hA
  obtain ⟨t2, e2, T2⟩ := va_Tof (tm := (.static "StageCube$Pieces" "TWIST_GAIN" "[I")) (ty := .int) (N := 24) (f := fun j => iN (cu_tg j)) (A := (fun q : Nat => s.heap.size ≤ q)) (by decide) (hs _ za_2) (va_eqt (hs _ zl_2)) (fun j hj => va_eqt (hs _ (zf_2 j hj))) hA
  have Z2 := va_Zof (hts (.laysStatic "StageCube$Pieces" "TWIST_GAIN" "[I") (lwt_1 (List.mem_of_getElem? (i := 40) rfl))) (hts (.initialized "StageCube$Pieces") (lwt_1 (List.mem_of_getElem? (i := 3) rfl))) e2 hA
  obtain ⟨t3, e3, T3⟩ := va_Tof (tm := (.static "StageCube$Pieces" "FLIP_GAIN" "[I")) (ty := .int) (N := 24) (f := fun j => iN (cu_fg j)) (A := (fun q : Nat => s.heap.size ≤ q)) (by decide) (hs _ za_3) (va_eqt (hs _ zl_3)) (fun j hj => va_eqt (hs _ (zf_3 j hj))) hA
  have Z3 := va_Zof (hts (.laysStatic "StageCube$Pieces" "FLIP_GAIN" "[I") (lwt_1 (List.mem_of_getElem? (i := 42) rfl))) (hts (.initialized "StageCube$Pieces") (lwt_1 (List.mem_of_getElem? (i := 3) rfl))) e3 hA
  obtain ⟨t4, e4, T4⟩ := va_Tof (tm := (.static "StageCube$Numbering" "CHOOSE" "[I")) (ty := .int) (N := 60) (f := fun j => iN (cu_ch j)) (A := (fun q : Nat => s.heap.size ≤ q)) (by decide) (hs _ za_4) (va_eqt (hs _ zl_4)) (fun j hj => va_eqt (hs _ (zf_4 j hj))) hA
  have Z4 := va_Zof (hts (.laysStatic "StageCube$Numbering" "CHOOSE" "[I") (lwt_2 (List.mem_of_getElem? (i := 133) rfl))) (hts (.initialized "StageCube$Numbering") (lwt_1 (List.mem_of_getElem? (i := 12) rfl))) e4 hA
  obtain ⟨t5, e5, T5⟩ := va_Tof (tm := (.static "StageCube$Pairings" "EVEN" "[I")) (ty := .int) (N := 4) (f := fun j => iN (cu_ev j)) (A := (fun q : Nat => s.heap.size ≤ q)) (by decide) (hs _ za_5) (va_eqt (hs _ zl_5)) (fun j hj => va_eqt (hs _ (zf_5 j hj))) hA
  have Z5 := va_Zof (hts (.laysStatic "StageCube$Pairings" "EVEN" "[I") (lwt_2 (List.mem_of_getElem? (i := 171) rfl))) (hts (.initialized "StageCube$Pairings") (lwt_1 (List.mem_of_getElem? (i := 9) rfl))) e5 hA
  obtain ⟨t6, e6, T6⟩ := va_Tof (tm := (.static "StageCube$Pairings" "POSITIONS" "[I")) (ty := .int) (N := 8) (f := fun j => iN (cu_ps j)) (A := (fun q : Nat => s.heap.size ≤ q)) (by decide) (hs _ za_6) (va_eqt (hs _ zl_6)) (fun j hj => va_eqt (hs _ (zf_6 j hj))) hA
  have Z6 := va_Zof (hts (.laysStatic "StageCube$Pairings" "POSITIONS" "[I") (lwt_2 (List.mem_of_getElem? (i := 117) rfl))) (hts (.initialized "StageCube$Pairings") (lwt_1 (List.mem_of_getElem? (i := 9) rfl))) e6 hA
  refine ⟨fun k => match k with | 0 => t0 | 1 => t1 | 2 => t2 | 3 => t3 | 4 => t4 | 5 => t5 | _ => t6, ⟨Z0, T0⟩, ⟨Z1, T1⟩, ⟨Z2, T2⟩, ⟨Z3, T3⟩, ⟨Z4, T4⟩, ⟨Z5, T5⟩, ⟨Z6, T6⟩, va_any rfl (hts (.declares zs_read) (lwt_2 (List.mem_of_getElem? (i := 98) rfl))), va_any rfl (hts (.declares zs_show) (lwt_2 (List.mem_of_getElem? (i := 162) rfl))), va_AO.of (hts (.arrayOver (.object "StageCube$Feature")) (lwt_1 (List.mem_of_getElem? (i := 207) rfl))), va_AO.of (hts (.arrayOver (.object "StageCube$Stage")) (lwt_1 (List.mem_of_getElem? (i := 86) rfl))), fun C hC => ?_⟩
  have key : ∀ C ∈ ["StageCube$CornerOrders", "StageCube$Marks", "StageCube$Orders", "StageCube$Pairings", "StageCube$Places"], Cond.castable C "StageCube$Feature" ∈ lw_tbl := by
    exact List.forall_mem_cons.mpr ⟨(lwt_4 (List.mem_of_getElem? (i := 36) rfl)), List.forall_mem_cons.mpr ⟨(lwt_4 (List.mem_of_getElem? (i := 37) rfl)), List.forall_mem_cons.mpr ⟨(lwt_4 (List.mem_of_getElem? (i := 38) rfl)), List.forall_mem_cons.mpr ⟨(lwt_4 (List.mem_of_getElem? (i := 39) rfl)), List.forall_mem_cons.mpr ⟨(lwt_4 (List.mem_of_getElem? (i := 40) rfl)), fun _ h => absurd h List.not_mem_nil⟩⟩⟩⟩⟩
  exact va_any rfl (hts _ (key C hC))
theorem arr_ex {s : State} {args : Array Value} {ty : FieldType} (h : (Cond.arrayClass ty).before args s = true) : ∃ cA, ArrOfT s cA ty ∧ s.vm.findClass ("[" ++ ty.toString) = some cA := by
  obtain ⟨c, k, comp, h1, h2, h3⟩ := Cond.arrayClass_spec h
  exact ⟨c, fun n z => ⟨(fun k h => by cases h), k, h2, comp, h3⟩, h1⟩
theorem arr_ov {s : State} {args : Array Value} {C : String} (h : (Cond.arrayOver (.object C)).before args s = true) : ∃ cA, ArrOfT s cA (.object C) ∧ va_RA s cA (.object C) := by
  obtain ⟨comp, cA, kA, o1, _, o3, o4, o5⟩ := Cond.arrayOver_spec h
  exact ⟨cA, fun n z => ⟨(fun k h => by cases h), kA, o3, comp, o4⟩, kA, comp, o3, o4, o1, o5⟩
theorem va_K_ex {s : State} {b : Nat} (hts : ∀ w ∈ wsL_law, w.before #[Value.ref b] s = true) : ∃ (D : va_G), ∀ (c : Nat) (q : vw_C), vwCl[c]? = some q → u_Kn s q.1 q.2.1 q.2.2 (D.1 c) (D.2 c) := by
  obtain ⟨c0, i0, h0⟩ := u_known (C := RX0) (T := TX0) (N := 4) (n := 4) hts inlX0 (hts (.instantiable RX0 4) (lw_law_r11 (List.mem_of_getElem? (i := 15) rfl)))
  obtain ⟨c1, i1, h1⟩ := u_known (C := RX1) (T := TX1) (N := 2) (n := 2) hts inlX1 (hts (.instantiable RX1 2) (lw_law_r1 (List.mem_of_getElem? (i := 13) rfl)))
  obtain ⟨c2, i2, h2⟩ := u_known (C := RX3) (T := TX3) (N := 3) (n := 3) hts inlX3 (hts (.instantiable RX3 3) (lw_law_r11 (List.mem_of_getElem? (i := 6) rfl)))
  obtain ⟨c3, i3, h3⟩ := u_known (C := RX5) (T := TX5) (N := 5) (n := 5) hts inlX5 (hts (.instantiable RX5 5) (lw_law_r11 (List.mem_of_getElem? (i := 18) rfl)))
  obtain ⟨c4, i4, h4⟩ := u_known (C := RX6) (T := TX6) (N := 6) (n := 6) hts inlX6 (hts (.instantiable RX6 6) (lw_law_r11 (List.mem_of_getElem? (i := 12) rfl)))
  obtain ⟨c5, i5, h5⟩ := u_known (C := RX7) (T := TX7) (N := 6) (n := 6) hts inlX7 (hts (.instantiable RX7 6) (lw_law_r2 (List.mem_of_getElem? (i := 5) rfl)))
  obtain ⟨c6, i6, h6⟩ := u_known (C := RX8) (T := TX8) (N := 5) (n := 5) hts inlX8 (hts (.instantiable RX8 5) (lw_law_r11 (List.mem_of_getElem? (i := 9) rfl)))
  obtain ⟨c7, i7, h7⟩ := u_known (C := RX9) (T := TX9) (N := 7) (n := 7) hts inlX9 (hts (.instantiable RX9 7) (lw_law_r11 (List.mem_of_getElem? (i := 2) rfl)))
  obtain ⟨c8, i8, h8⟩ := u_known (C := RX10) (T := TX10) (N := 7) (n := 7) hts inlX10 (hts (.instantiable RX10 7) (lw_law_r1 (List.mem_of_getElem? (i := 1) rfl)))
  obtain ⟨c9, i9, h9⟩ := u_known (C := RX11) (T := TX11) (N := 38) (n := 38) hts inlX11 (hts (.instantiable RX11 38) (lw_law_r1 (List.mem_of_getElem? (i := 4) rfl)))
  refine ⟨(fun k => match k with | 0 => c0 | 1 => c1 | 2 => c2 | 3 => c3 | 4 => c4 | 5 => c5 | 6 => c6 | 7 => c7 | 8 => c8 | _ => c9, fun k => match k with | 0 => i0 | 1 => i1 | 2 => i2 | 3 => i3 | 4 => i4 | 5 => i5 | 6 => i6 | 7 => i7 | 8 => i8 | _ => i9), ?_⟩
  intro k q hq
  match k, hq with
  | 0, hq => cases hq; exact h0
  | 1, hq => cases hq; exact h1
  | 2, hq => cases hq; exact h2
  | 3, hq => cases hq; exact h3
  | 4, hq => cases hq; exact h4
  | 5, hq => cases hq; exact h5
  | 6, hq => cases hq; exact h6
  | 7, hq => cases hq; exact h7
  | 8, hq => cases hq; exact h8
  | 9, hq => cases hq; exact h9
  | k + 10, hq => simp [vwCl] at hq
def R_law : String := "StageCubeLaw"
def lw_P (b : Addr) (xs : List Int32) (args : Array Value) (s : State) : Prop := args = #[.ref b] ∧ s.IntsAt b xs ∧ xs.length ≤ 2048 ∧ (Jvm.Cond.and given_1 narrow_1).before args s = true
def lw_Q (_ : Array Value) (s : State) (o : Outcome) (t : State) : Prop := o = .returned (some (.int 1)) ∧ Framed s o t [] 182462 8554864
def lw_Z (below : List Frame) (a : Array Value) (s : State) : State → Prop := fun t => ∃ o, t.status = .running ∧ Ended t below o ∧ lw_Q a s o t
theorem lw_ret {p : Program} {l : Launch} {e : Env} {s : State} {m : MethodId} {below : List Frame} {meth : Method} {c : Code} {b : Nat} (hx : p.tables.exec = Jvm.exec) (hb : c.code = code) (hr : meth.sig.returnType = ret) (hlocks : meth.locks = false) {pc : Nat} {H : Heap} {ls : Array Slot} (hdg : decode code pc = .ok (.ireturn, 1)) : W p l e room_1 s m #[Value.ref b] below meth c H [] 182462 8554864 (lw_Z below #[Value.ref b] s) (F0 m pc ls [.int 1]) := by
  intro T hT X
  obtain ⟨fs, hret, hrun, hended, hW, hframe⟩ := X.leave (v := some (.int 1)) (hlocks := hlocks) (fun h => by rw [hr] at h; cases h)
  have hmeth' : T.vm.method? m = some meth := X.method'
  refine ⟨T.setFrames fs, ?_, .returned (some (.int 1)), hrun, hended, rfl, ⟨_, rfl⟩, hW, hframe⟩
  jvm_step X.here [X.here.top, hx, hb, hdg, hmeth', hr, ret, narrow_b1]
  (try refine ⟨rfl, ?_⟩); (try refine ⟨rfl, ?_⟩)
  first | (intro acts; rw [hret _ acts rfl rfl rfl]) | rw [hret _ _ rfl rfl rfl]
  exact Steps.refl _
def lw_At (p : Program) (s : State) (m : MethodId) (meth : Method) (c : Code) (b L : Nat) (xs : Nat → Int32) : Prop :=
  p.tables.exec = Jvm.exec ∧ c.code = code ∧ meth.sig.returnType = ret ∧ c.maxLocals = 4 ∧ s.vm.findClass R_law = some m.cls ∧ (∀ w ∈ lw_tbl, w.before #[Value.ref b] s = true) ∧ va_X b L xs s s.heap ∧ b < s.heap.size ∧ meth.locks = false ∧ (Jvm.Cond.and given_1 narrow_1).before #[Value.ref b] s = true
set_option maxHeartbeats 4000000 in
set_option maxRecDepth 100000 in
theorem whole_start {p : Program} {e : Env} {s : State} {m : MethodId} {below : List Frame} {meth : Method} {c : Code} (l : Launch) {b L : Nat} {xs : Nat → Int32} (hL : L ≤ 2048) (C0 : lw_At p s m meth c b L xs) : W p l e room_1 s m #[Value.ref b] below meth c s.heap [] 0 0 (lw_Z below #[Value.ref b] s) (entryFrame m ([Value.ref b] : List Value).toArray 4) := by
  obtain ⟨hx, hb, hr, hml, hown, hts, hX, hbl, hlocks, hgv⟩ := C0
  have hts2 : ∀ w ∈ wsL_law, w.before #[Value.ref b] s = true := fun w h => hts w (wsL_law_in w h)
  obtain ⟨tt, hzz⟩ := zs_ex hts hgv
  obtain ⟨D, hD⟩ := va_K_ex hts2
  obtain ⟨cI, cI1, cI2⟩ := arr_ex (hts (Cond.arrayClass .int) (lwt_1 (List.mem_of_getElem? (i := 73) rfl)))
  obtain ⟨cB, cB1, cB2⟩ := arr_ex (hts (Cond.arrayClass .byte) (lwt_3 (List.mem_of_getElem? (i := 151) rfl)))
  obtain ⟨cS, cS1, cS2⟩ := arr_ex (hts (Cond.arrayClass .short) (lwt_3 (List.mem_of_getElem? (i := 152) rfl)))
  obtain ⟨cJ, cJ1, cJ2⟩ := arr_ex (hts (Cond.arrayClass .long) (lwt_3 (List.mem_of_getElem? (i := 2) rfl)))
  obtain ⟨cF, cF1, cF2⟩ := arr_ov (hts (Cond.arrayOver (.object "StageCube$Feature")) (lwt_1 (List.mem_of_getElem? (i := 207) rfl)))
  obtain ⟨cG, cG1, cG2⟩ := arr_ov (hts (Cond.arrayOver (.object "StageCube$Stage")) (lwt_1 (List.mem_of_getElem? (i := 86) rfl)))
  have hK : va_K D vwCl (mo_ty cI cB cS cJ cF cG) s := by
    refine ⟨hD, fun k q hq => ?_⟩
    match k, hq with
    | 0, hq => cases hq; exact ⟨cI1, cI2⟩
    | 1, hq => cases hq; exact ⟨cB1, cB2⟩
    | 2, hq => cases hq; exact ⟨cS1, cS2⟩
    | 3, hq => cases hq; exact ⟨cJ1, cJ2⟩
    | 4, hq => cases hq; exact ⟨cF1, cF2⟩
    | 5, hq => cases hq; exact ⟨cG1, cG2⟩
    | k + 6, hq => simp [mo_ty] at hq
  have hl := lv_entry ([.ref b]) (n := 4) (Nat.le_of_ble_eq_true rfl)
  rw [lg_entry_eq]
  have X : lwX (p, l, e, room_1, s, m, #[Value.ref b], below, meth, c, lw_Z below #[Value.ref b] s, 4, D, fun q => s.heap.size ≤ q) cI cB cS cJ cF cG tt b L xs := ⟨⟨⟨hx, hb, hml, hown, hts2⟩, hK, fun q h => h, hzz, zs_ok tt⟩, rfl, hX, hbl, Nat.not_le.mpr hbl, hL⟩
  exact law_start X rfl (fun ws cells slots lv h1 h2 H locs ls hl hP hD hS => va_forget (fun q hq => hS.2.2 q hq) (W.widen h1 h2 (lw_ret hx hb hr hlocks dL_law_352))) s.heap [] _ hl (fun k q h => by simp at h) ⟨fun i j p q h => by simp at h, fun k q h => by simp at h⟩ va_S.rf
