def gw_BR2 {S : Type} (D : va_G) (tys : List (ClassId × FieldType)) (A : Nat → Prop) (post : S → Nat → Prop) (B : S → Nat → va_W) (u : S) (a : Nat) (t : State) : Prop := post u a ∧ va_P D vwCl (B u a) t.heap ∧ va_K D vwCl tys t ∧ va_D A (B u a)
def gw_CR2 {S : Type} (l : Launch) (y : MethodName) (wy : List Cond) (fr lc mc ms : Nat) (D : va_G) (tys : List (ClassId × FieldType)) (zz : (Nat → Prop) → State → Heap → Prop) (w0 : va_W) (av : List Value) (post : S → Nat → Prop) (B : S → Nat → va_W) : Prop :=
  ∀ sz : Nat, Met l y wy { frames := fr, cells := mc, slots := ms, locals := lc } (va_Pc av (gw_P D tys zz w0 sz)) (va_Qr (fun _ => True) (gw_BR2 D tys (va_A w0 sz) post B) (va_A w0 sz)) mc ms (va_A w0 sz)
theorem gw_CR2.of {S : Type} {l : Launch} {y : MethodName} {wy wy' : List Cond} {fr lc mc ms : Nat} {D : va_G} {tys : List (ClassId × FieldType)} {zz : (Nat → Prop) → State → Heap → Prop} {w0 : va_W} {av : List Value} {post : S → Nat → Prop} {B : S → Nat → va_W} {cc : ByteArray} {maxL : Nat} {rt : String} (hz : gw_zT zz) (hy : plainName y.cls = true) (hw : wy = Cond.code y cc maxL (some (.object rt)) :: wy') (hlen : (lg_sl av).length ≤ maxL)
    (body : ∀ (K : gw_K), gw_x K cc y.cls wy tys zz → kl K = l → kn K = maxL → kR K = { frames := fr, cells := mc, slots := ms, locals := lc } → kD K = D → (kM K).name = y.name → (∀ {ws : va_W} {cells slots pc : Nat} {lv : List (Nat × Value)} (u : S) (a : Nat), decode cc pc = .ok (.areturn, 1) → post u a → ws = B u a → cells ≤ mc → slots ≤ ms → gw_G K ws cells slots pc lv [.ref a]) →
      gw_G K w0 0 0 0 (lv_args 0 av) []) : gw_CR2 l y wy fr lc mc ms D tys zz w0 av post B := by
  intro sz
  refine Met.ofW (cc := cc) (maxL := maxL) (ret := some (.object rt)) hy hw ?_
  intro p e s m args below meth c s₁ BB hml hv
  obtain ⟨rfl, hsz, hP, hK, hD0, hzz⟩ := hv
  have hts := atoms_spec (ws := wy) BB.pre
  have hown : s.vm.findClass y.cls = some m.cls := findClass_of_methodNamed BB.named
  have hin := (name_of_methodNamed BB.named BB.method).1
  subst hsz
  have hD := hD0.self (sz := s.heap.size)
  have hl := lv_entry av (n := maxL) hlen
  rw [lg_entry_eq]
  exact body (p, l, e, { frames := fr, cells := mc, slots := ms, locals := lc }, s, m, av.toArray, below, meth, c, MQ below (va_Qr (fun _ => True) (gw_BR2 D tys (va_A w0 s.heap.size) post B) (va_A w0 s.heap.size)) av.toArray s mc ms (va_A w0 s.heap.size), maxL, D, va_A w0 s.heap.size) ⟨⟨BB.exec, BB.bytes, hml, hown, hts⟩, hK, fun q h => Or.inr h, hzz, hz⟩ rfl rfl rfl rfl hin (fun u a hd hp hB hc hs H locs ls hl hP hD hS => W.widen hc hs (W.aret BB.exec BB.bytes BB.returns (Or.inl ⟨_, rfl⟩) (Or.inr ⟨a, rfl⟩) (fun t ht hW => ⟨⟨u, a, rfl, trivial, hp, by rw [ht, ← hB]; exact hP, va_K.moved hW.alike hK, hB ▸ hD⟩, hS.F ht⟩) hS.2.2 hd BB.notSynchronized)) s.heap [] _ hl hP hD va_S.rf

section GWC2
variable {K : gw_K} {cc : ByteArray} {own : String} {Ts : List Cond} {tys : List (ClassId × FieldType)} {zz : (Nat → Prop) → State → Heap → Prop} {ws : va_W} {cells slots pc : Nat} {lv lv' : List (Nat × Value)} {st : List Value}
theorem gw_callVR2 (C : gw_x K cc own Ts tys zz) {S : Type} {y : MethodName} {wy wy' : List Cond} {bytes : ByteArray} {maxL fr lc mc ms n index b : Nat} {w0 wr : va_W} {As rest : List Value} {post : S → Nat → Prop} {B : S → Nat → va_W} {rt : FieldType} (h : gw_CR2 (kl K) y wy fr lc mc ms (kD K) tys zz w0 (.ref b :: As) post B) {Cn : String} {ci : Nat} {fs : List Value} {r0 : vw_C} (q0 : Nat) (he : w0[q0]? = some (b, .inr (ci, fs))) (hc : vwCl[ci]? = some r0) (hrn : r0.1 = Cn) (hG : GoodIn Ts (wsV own index Cn y wy)) (hw : wy = Cond.code y bytes maxL (some rt) :: wy') (hd4 : y.cls = Cn ∧ y.cls ≠ "java/lang/invoke/MethodHandle" ∧ y.cls ≠ "java/lang/invoke/VarHandle" ∧ (parseMethodDescriptor y.desc).map (fun d => d.parameters.length) = some n) (hd : decode cc pc = .ok (.invokevirtual index, 3)) (hR : fr + 1 ≤ (kR K).frames ∧ 8 + (maxL + 11) + lc ≤ (kR K).locals) (hcs : cells + mc ≤ (kR K).cells ∧ slots + ms ≤ (kR K).slots) (isC isR : List Nat) (hC : isC.map (fun i => ws[i]?) = w0.map some) (hRr : isR.map (fun i => ws[i]?) = wr.map some) (hnC : va_nd isC = true) (hnR : va_nd isR = true) (hdis : ∀ i ∈ isR, i ∉ isC) (hn : As.length = n) (hroom : (rest.map fun v => v.category).sum ≤ 8) (hst : st = As.reverse ++ .ref b :: rest) (k : ∀ (u : S) (r : Nat), post u r → gw_G K (wr ++ B u r) (cells + mc) (slots + ms) (pc + 3) lv (.ref r :: rest)) : gw_G K ws cells slots pc lv st := fun H locs ls hl hP hD hS => by
  subst hst
  have hPc := hP.sub isC (gw_fm hC)
  have hDc := hD.sub isC hnC hC
  have hFc := va_free (wc := w0) hD hS C.2.2.1 isC hC
  refine va_callr (va_runV (As := As) (rest := rest) C.1 (h H.size) (cwV n C.1.2.2.2.2 hG hw rfl rfl hd4 hR) ⟨gw_blind C.2.2.2.2, by obtain ⟨cell, g1, g2, g3⟩ := va_recv C.2.1 hPc hc he; exact ⟨cell, g1, g2, by rw [← hrn]; exact g3⟩, gw_pre C hPc hDc hS hFc _⟩ rfl hn hl.1 rfl (lv_room hroom) hd hcs) hS (fun q _ h => hFc q h) hFc (fun u r t H1 locs1 ht hvm hp hB hz1 hk1 hS1 => ?_)
  obtain ⟨hp2, hP1, hK1, hD1⟩ := hB
  rw [ht] at hP1
  obtain ⟨hP2, hD2⟩ := va_join hP hD isC isR hC hRr hnR hdis hk1 hFc hP1 hD1
  exact k u r hp2 H1 locs1 ls hl hP2 hD2 hS1
theorem gw_callSR2 (C : gw_x K cc own Ts tys zz) {S : Type} {y : MethodName} {wy wy' : List Cond} {bytes : ByteArray} {maxL fr lc mc ms n index b : Nat} {w0 wr : va_W} {As rest : List Value} {post : S → Nat → Prop} {B : S → Nat → va_W} {rt : FieldType} (h : gw_CR2 (kl K) y wy fr lc mc ms (kD K) tys zz w0 As post B) (hG : GoodIn Ts (va_wsS own index y wy)) (hw : wy = Cond.code y bytes maxL (some rt) :: wy') (hd4 : y.cls ≠ "java/lang/invoke/MethodHandle" ∧ y.cls ≠ "java/lang/invoke/VarHandle" ∧ (parseMethodDescriptor y.desc).map (fun d => d.parameters.length) = some n) (hd : decode cc pc = .ok (.invokestatic index, 3)) (hR : fr + 1 ≤ (kR K).frames ∧ 8 + (maxL + 11) + lc ≤ (kR K).locals) (hcs : cells + mc ≤ (kR K).cells ∧ slots + ms ≤ (kR K).slots) (isC isR : List Nat) (hC : isC.map (fun i => ws[i]?) = w0.map some) (hRr : isR.map (fun i => ws[i]?) = wr.map some) (hnC : va_nd isC = true) (hnR : va_nd isR = true) (hdis : ∀ i ∈ isR, i ∉ isC) (hn : As.length = n) (hroom : (rest.map fun v => v.category).sum ≤ 8) (hst : st = As.reverse ++ rest) (k : ∀ (u : S) (r : Nat), post u r → gw_G K (wr ++ B u r) (cells + mc) (slots + ms) (pc + 3) lv (.ref r :: rest)) : gw_G K ws cells slots pc lv st := fun H locs ls hl hP hD hS => by
  subst hst
  have hPc := hP.sub isC (gw_fm hC)
  have hDc := hD.sub isC hnC hC
  have hFc := va_free (wc := w0) hD hS C.2.2.1 isC hC
  refine va_callr (va_runS (As := As) (rest := rest) C.1 (h H.size) (va_cwS n C.1.2.2.2.2 hG hw rfl rfl hd4 hR) ⟨gw_blind C.2.2.2.2, gw_pre C hPc hDc hS hFc _⟩ rfl hn hl.1 rfl (lv_room hroom) hd hcs) hS (fun q _ h => hFc q h) hFc (fun u r t H1 locs1 ht hvm hp hB hz1 hk1 hS1 => ?_)
  obtain ⟨hp2, hP1, hK1, hD1⟩ := hB
  rw [ht] at hP1
  obtain ⟨hP2, hD2⟩ := va_join hP hD isC isR hC hRr hnR hdis hk1 hFc hP1 hD1
  exact k u r hp2 H1 locs1 ls hl hP2 hD2 hS1
end GWC2
section GWI16
variable {p : Program} {l : Launch} {e : Env} {R : Room} {s : State} {m : MethodId} {args : Array Value} {below : List Frame} {meth : Method} {c : Code} {H : Heap} {locs : List Loc} {cells slots : Nat} {Q : State → Prop}
variable {y : MethodName} {bytes cc : ByteArray} {maxL nL mc ms n index : Nat} {ret : Option FieldType} {ws : List Cond} {rm : Room} {Pc : Array Value → State → Prop} {Qc : Array Value → State → Outcome → State → Prop} {free : Addr → Prop} {Ts : List Cond} {own C : String} {b : Addr} {As rest : List Value} {g : JFrame}
theorem gw_runI16 (S : CallFix p m c cc nL s args Ts own) (hM : Met l y ws rm Pc Qc mc ms free) (cw : CallB R s args own index y bytes maxL none ws rm mc ms n ∧ y.name = "<init>" ∧ (Cond.instanceMethod y).before args s = true) (hp : PreS s H Pc (.ref b :: As))
    (hg : g.method = m) (hn : As.length = n) (hsize : g.locals.size = nL) (hstack : g.stack = As.reverse ++ .ref b :: rest) (hW : 2 * g.monitorRoom + (rest.map fun v => v.category).sum ≤ 16) (hlo16 : 16 + (maxL + 11) + rm.locals ≤ R.locals) (hdg : decode cc g.pc = .ok (.invokespecial index, 3)) (hf : cells + mc ≤ R.cells ∧ slots + ms ≤ R.slots) :
    va_Run p l e R s m args below meth c H locs cells slots mc ms g rest (Qc (Value.ref b :: As).toArray) (free) := by
  have hK : Back l R p e below s args y 3 16 (PreOf R mc ms Pc) (PostOf Qc mc ms free) := by
    obtain ⟨hrc, hrs, hfr, -, hws, hcw, -, hini, -⟩ := cw.1
    exact back_of (bytes := bytes) (maxL := maxL) (ret := none) hM hp.1 hrc hrs hfr hlo16 hws hcw (fun a' U hW => word_at hW (Or.inl (by first | rfl | simp [Cond.onTables, Cond.keeps, Cond.steady])) hini)
  obtain ⟨⟨-, -, -, -, -, -, hcode, -, hy, hlen, hl⟩, hy1, hin⟩ := cw
  obtain ⟨hx, hb, hml, ho, -⟩ := S
  intro T hT X
  obtain ⟨v, vm₁, ⟨U', l2, c2, s2⟩, hW₁, X', ⟨g', mk, t, L, e1, e2, hq, h1, hL, h2, h3⟩, st⟩ := callI X hx (bytes := bytes) (maxL := maxL) ho hy1 hl hin hcode hy hK hg (hsize.trans hml.symm) (a := b) (argsL := As) (rest := rest) (fun sig h => hn.trans (hlen sig h)) hstack hW (by rw [hb]; exact hdg)
    (fun vm₁ hW₁ => ⟨hf.1, hf.2, hp.2 (T.setVm vm₁) hT hW₁⟩)
  dsimp only [Pt.U, Pt.locs, Pt.cells, Pt.slots] at X' e1 e2 h1 h2 h3 st
  subst h1; subst h2; subst h3
  exact ⟨v, (T.setVm vm₁).calling g' mk (Value.ref b :: As).toArray, t, U', L, hT, X', hL, e1, e2, hq, st⟩
end GWI16
section GWI17
variable {K : gw_K} {cc : ByteArray} {own : String} {Ts : List Cond} {tys : List (ClassId × FieldType)} {zz : (Nat → Prop) → State → Heap → Prop} {ws : va_W} {cells slots pc : Nat} {lv lv' : List (Nat × Value)} {st : List Value}
theorem gw_callIV16 (C : gw_x K cc own Ts tys zz) {S : Type} {y : MethodName} {wy wy' : List Cond} {bytes : ByteArray} {maxL fr lc mc ms n index b : Nat} {w0 wr : va_W} {As rest : List Value} {post : S → Prop} {B : S → va_W} (h : gw_CV (kl K) y wy fr lc mc ms (kD K) tys zz w0 (.ref b :: As) post B) (hG : GoodIn Ts wy) (hw : wy = Cond.code y bytes maxL (none) :: wy') (hini : Cond.initialized y.cls ∈ Ts) (hlk : Cond.methodLink own index y ∈ Ts) (him : Cond.instanceMethod y ∈ Ts) (hyn : y.name = "<init>") (hd4 : y.cls ≠ "java/lang/invoke/MethodHandle" ∧ y.cls ≠ "java/lang/invoke/VarHandle" ∧ (parseMethodDescriptor y.desc).map (fun d => d.parameters.length) = some n) (hd : decode cc pc = .ok (.invokespecial index, 3)) (hR : fr + 1 ≤ (kR K).frames ∧ 8 + (maxL + 11) + lc ≤ (kR K).locals) (hcs : cells + mc ≤ (kR K).cells ∧ slots + ms ≤ (kR K).slots) (isC isR : List Nat) (hC : isC.map (fun i => ws[i]?) = w0.map some) (hRr : isR.map (fun i => ws[i]?) = wr.map some) (hnC : va_nd isC = true) (hnR : va_nd isR = true) (hdis : ∀ i ∈ isR, i ∉ isC) (hn : As.length = n) (hroom : (rest.map fun v => v.category).sum ≤ 16) (hlo16 : 16 + (maxL + 11) + lc ≤ (kR K).locals) (hst : st = As.reverse ++ .ref b :: rest) (k : ∀ (u : S), post u → gw_G K (wr ++ B u) (cells + mc) (slots + ms) (pc + 3) lv rest) : gw_G K ws cells slots pc lv st := fun H locs ls hl hP hD hS => by
  subst hst
  have hPc := hP.sub isC (gw_fm hC)
  have hDc := hD.sub isC hnC hC
  have hFc := va_free (wc := w0) hD hS C.2.2.1 isC hC
  refine va_callv (gw_runI16 (As := As) (rest := rest) C.1 (h H.size) (cwI n C.1.2.2.2.2 hG hw rfl rfl (C.1.2.2.2.2 _ hini) (C.1.2.2.2.2 _ hlk) (C.1.2.2.2.2 _ him) hyn hd4 hR) ⟨gw_blind C.2.2.2.2, gw_pre C hPc hDc hS hFc _⟩ rfl hn hl.1 rfl (by show 2 * 0 + _ ≤ 16; omega) hlo16 hd hcs) hS (fun q _ h => hFc q h) hFc (fun u t H1 locs1 ht hvm hp hB hz1 hk1 hS1 => ?_)
  obtain ⟨hP1, hK1, hD1⟩ := hB
  rw [ht] at hP1
  obtain ⟨hP2, hD2⟩ := va_join hP hD isC isR hC hRr hnR hdis hk1 hFc hP1 hD1
  exact k u hp H1 locs1 ls hl hP2 hD2 hS1
end GWI17
theorem in_X10_newStage_X0 : ∀ w ∈ wsX00, w ∈ wsX10_newStage := fun _ h => List.mem_cons_of_mem _ (List.mem_append_left _ (List.mem_append_right _ (h)))
theorem in_X10_newStage_X3 : ∀ w ∈ wsX30, w ∈ wsX10_newStage := fun _ h => List.mem_cons_of_mem _ (List.mem_append_left _ (List.mem_append_left _ (List.mem_append_left _ (List.mem_append_left _ (List.mem_append_right _ (h))))))
theorem in_X10_newStage_X5 : ∀ w ∈ wsX50, w ∈ wsX10_newStage := fun _ h => List.mem_cons_of_mem _ (List.mem_append_right _ (h))
theorem in_X10_newStage_X6 : ∀ w ∈ wsX60, w ∈ wsX10_newStage := fun _ h => List.mem_cons_of_mem _ (List.mem_append_left _ (List.mem_append_left _ (List.mem_append_right _ (h))))
theorem in_X10_newStage_X8 : ∀ w ∈ wsX80, w ∈ wsX10_newStage := fun _ h => List.mem_cons_of_mem _ (List.mem_append_left _ (List.mem_append_left _ (List.mem_append_left _ (List.mem_append_right _ (h)))))
theorem in_X10_newStage_X9 : ∀ w ∈ wsX90, w ∈ wsX10_newStage := fun _ h => List.mem_cons_of_mem _ (List.mem_append_left _ (List.mem_append_left _ (List.mem_append_left _ (List.mem_append_left _ (List.mem_append_left _ (List.mem_append_right _ (h)))))))
/-- the features' array: feature i at sa (10 (i + 1)) -/
def fq_ (sa : Nat → Nat) : Nat → Nat → Option Nat
  | 0 => fun _ => none
  | i + 1 => va_up (fq_ sa i) i (some (sa (10 * (i + 1))))
/-- a stage's own cells, before more: the object, way, features, numbers -/
def sg_ws (cI cF : ClassId) (sa : Nat → Nat) (nf fwq rch ql : Nat) (nv : Value) (Wy Nm : Nat → Nat) (fw : va_W) : va_W := [(sa 0, .inr (7, [.ref (sa 1), iN fwq, iN rch, iN ql, .ref (sa 2), .ref (sa 3), nv])), (sa 1, .inl (cI, 15, .inl (fun j => nI (Wy j)))), (sa 2, .inl (cF, nf, .inr (.inr (.inr (.inr (fq_ sa nf)))))), (sa 3, .inl (cI, 16 * nf, .inl (fun j => nI (Nm j))))] ++ fw
def fu0_ws (cI : ClassId) (sa : Nat → Nat) (sc : Nat → Nat → Nat) : va_W := [(sa 10, .inr (2, [iN (0), iN (2048), .null]))]
def fl0_ws (cI : ClassId) (sa : Nat → Nat) (sc nx : Nat → Nat → Nat) : va_W := [(sa 10, .inr (2, [iN (0), iN (2048), .ref (sa 11)])), (sa 11, .inl (cI, 12288, .inl (fun j => nI ((nx 0) j))))]
def fu1_ws (cI : ClassId) (sa : Nat → Nat) (sc : Nat → Nat → Nat) : va_W := [(sa 10, .inr (2, [iN (1), iN (2187), .null])), (sa 20, .inr (6, [iN (0), iN (495), .null, iN (2), iN (12)]))]
def fl1_ws (cI : ClassId) (sa : Nat → Nat) (sc nx : Nat → Nat → Nat) : va_W := [(sa 10, .inr (2, [iN (1), iN (2187), .ref (sa 11)])), (sa 11, .inl (cI, 13122, .inl (fun j => nI ((nx 0) j)))), (sa 20, .inr (6, [iN (0), iN (495), .ref (sa 21), iN (2), iN (12)])), (sa 21, .inl (cI, 2970, .inl (fun j => nI ((nx 1) j))))]
def fu2_ws (cI : ClassId) (sa : Nat → Nat) (sc : Nat → Nat → Nat) : va_W := [(sa 10, .inr (4, [iN (1), iN (420), .null, .ref (sa 12), .ref (sa 13), .ref (sa 14)])), (sa 12, .inl (cI, 8, .inl (fun j => nI ((sc 0) j)))), (sa 13, .inl (cI, 8, .inl (fun j => nI ((sc 1) j)))), (sa 14, .inl (cI, 4, .inl (fun j => nI ((sc 2) j)))), (sa 20, .inr (6, [iN (0), iN (70), .null, iN (0), iN (8)]))]
def fl2_ws (cI : ClassId) (sa : Nat → Nat) (sc nx : Nat → Nat → Nat) : va_W := [(sa 10, .inr (4, [iN (1), iN (420), .ref (sa 11), .ref (sa 12), .ref (sa 13), .ref (sa 14)])), (sa 12, .inl (cI, 8, .inl (fun j => nI ((sc 0) j)))), (sa 13, .inl (cI, 8, .inl (fun j => nI ((sc 1) j)))), (sa 14, .inl (cI, 4, .inl (fun j => nI ((sc 2) j)))), (sa 11, .inl (cI, 2520, .inl (fun j => nI ((nx 0) j)))), (sa 20, .inr (6, [iN (0), iN (70), .ref (sa 21), iN (0), iN (8)])), (sa 21, .inl (cI, 420, .inl (fun j => nI ((nx 1) j))))]
def fu3_ws (cI : ClassId) (sa : Nat → Nat) (sc : Nat → Nat → Nat) : va_W := [(sa 10, .inr (0, [iN (1), iN (96), .null, .ref (sa 12)])), (sa 12, .inl (cI, 4, .inl (fun j => nI ((sc 0) j)))), (sa 20, .inr (3, [iN (0), iN (24), .null, iN (0), .ref (sa 22)])), (sa 22, .inl (cI, 4, .inl (fun j => nI ((sc 1) j)))), (sa 30, .inr (3, [iN (0), iN (24), .null, iN (4), .ref (sa 32)])), (sa 32, .inl (cI, 4, .inl (fun j => nI ((sc 2) j)))), (sa 40, .inr (3, [iN (0), iN (24), .null, iN (8), .ref (sa 42)])), (sa 42, .inl (cI, 4, .inl (fun j => nI ((sc 3) j))))]
def fl3_ws (cI : ClassId) (sa : Nat → Nat) (sc nx : Nat → Nat → Nat) : va_W := [(sa 10, .inr (0, [iN (1), iN (96), .ref (sa 11), .ref (sa 12)])), (sa 12, .inl (cI, 4, .inl (fun j => nI ((sc 0) j)))), (sa 11, .inl (cI, 576, .inl (fun j => nI ((nx 0) j)))), (sa 20, .inr (3, [iN (0), iN (24), .ref (sa 21), iN (0), .ref (sa 22)])), (sa 22, .inl (cI, 4, .inl (fun j => nI ((sc 1) j)))), (sa 21, .inl (cI, 144, .inl (fun j => nI ((nx 1) j)))), (sa 30, .inr (3, [iN (0), iN (24), .ref (sa 31), iN (4), .ref (sa 32)])), (sa 32, .inl (cI, 4, .inl (fun j => nI ((sc 2) j)))), (sa 31, .inl (cI, 144, .inl (fun j => nI ((nx 2) j)))), (sa 40, .inr (3, [iN (0), iN (24), .ref (sa 41), iN (8), .ref (sa 42)])), (sa 42, .inl (cI, 4, .inl (fun j => nI ((sc 3) j)))), (sa 41, .inl (cI, 144, .inl (fun j => nI ((nx 3) j))))]
set_option maxHeartbeats 4000000 in
set_option maxRecDepth 100000 in
theorem c_newS0 (l : Launch) (D : va_G) (cI cB cS cJ cF cG : ClassId) (tt : Nat → Nat) : gw_CR2 (S := Nat → Nat) l yX10_newStage wsX10_newStage 3 73 5 42 D (mo_ty cI cB cS cJ cF cG) (zs tt) (([] : va_W)) [iN 0] (fun _ _ => True) (fun u r => sg_ws cI cF (fun j => if j = 0 then r else u j) 1 6 7 2048 .null (fun _ => 0) (fun _ => 0) (fu0_ws cI (fun j => if j = 0 then r else u j) (fun _ _ => 0))) := by
  refine gw_CR2.of (rt := RX9) (cc := cX10_newStage) (maxL := 1) (zs_ok tt) (by decide) rfl (Nat.le_of_ble_eq_true rfl) ?_
  intro K C hkl hkn hkR hkD hmn ret
  have C : gw_x K cX10_newStage RX10 wsX10_newStage (mo_ty cI cB cS cJ cF cG) (zs tt) := C
  subst hkl hkD
  have hrc : (kR K).cells = 5 := by rw [hkR]
  have hrs : (kR K).slots = 42 := by rw [hkR]
  have zq := C.2.2.2.1.2.2.2.2.2.2.2.2.2
  refine gw_iload_n C 0 dX10_newStage_0 rfl rfl ?_
  refine gw_tabIn C 28 dX10_newStage_1 (by decide) (by decide) (off := 27) (by decide) (by decide) ?_
  refine gw_new C (ci := 7) (fs := [.null, .int (0), .int (0), .int (0), .null, .null, .null]) tyX9 tyX9_ok in_X10_newStage_X9 dX10_newStage_28 (by decide +kernel) (by decide +kernel) (by decide +kernel) rfl (fun j hj => by rcases (show j = 0 ∨ j = 1 ∨ j = 2 ∨ j = 3 ∨ j = 4 ∨ j = 5 ∨ j = 6 by omega) with h | h | h | h | h | h | h <;> subst h <;> rfl) (by omega) (by omega) (fun st => ?_)
  refine gw_ws (ws2 := [(st, .inr (7, [.null, .int (0), .int (0), .int (0), .null, .null, .null]))]) rfl ?_
  refine gw_dup C dX10_newStage_31 rfl ?_
  refine gw_bipush C 6 dX10_newStage_32 (by decide) ?_
  refine gw_bipush C 7 dX10_newStage_34 (by decide) ?_
  refine gw_sipush C 2048 dX10_newStage_36 (by decide) ?_
  refine gw_iconst C 1 dX10_newStage_39 (by decide) ?_
  refine gw_newq C 4 1 zq.1 rfl dX10_newStage_40 (by decide +kernel) (by decide) (by omega) (by omega) (fun fa => ?_)
  refine gw_ws (ws2 := [(st, .inr (7, [.null, .int (0), .int (0), .int (0), .null, .null, .null])), (fa, .inl (cF, 1, .inr (.inr (.inr (.inr (fun _ => none))))))]) rfl ?_
  refine gw_dup C dX10_newStage_43 rfl ?_
  refine gw_iconst C 0 dX10_newStage_44 (by decide) ?_
  refine gw_new C (ci := 2) (fs := [.int (0), .int (0), .null]) tyX3 tyX3_ok in_X10_newStage_X3 dX10_newStage_45 (by decide +kernel) (by decide +kernel) (by decide +kernel) rfl (fun j hj => by rcases (show j = 0 ∨ j = 1 ∨ j = 2 by omega) with h | h | h <;> subst h <;> rfl) (by omega) (by omega) (fun f0 => ?_)
  refine gw_ws (ws2 := [(st, .inr (7, [.null, .int (0), .int (0), .int (0), .null, .null, .null])), (fa, .inl (cF, 1, .inr (.inr (.inr (.inr (fun _ => none)))))), (f0, .inr (2, [.int (0), .int (0), .null]))]) rfl ?_
  refine gw_dup C dX10_newStage_48 rfl ?_
  refine gw_iconst C 0 dX10_newStage_49 (by decide) ?_
  refine gw_callIV16 (n := 1) (wr := [(st, .inr (7, [.null, .int (0), .int (0), .int (0), .null, .null, .null])), (fa, .inl (cF, 1, .inr (.inr (.inr (.inr (fun _ => none))))))]) C (c_i_me (kl K) (kD K) cI cB cS cJ cF cG tt f0) gX10_newStage_X3_init rfl (by decide +kernel) (by decide +kernel) (by decide +kernel) rfl (by decide +kernel) dX10_newStage_50 (by rw [hkR]; decide) (by rw [hrc, hrs]; decide) [2] [0, 1] rfl rfl rfl rfl (by decide) rfl (Nat.le_of_ble_eq_true rfl) (by rw [hkR]; decide) rfl (fun u0 hu0 => ?_)
  refine gw_ws (ws2 := [(st, .inr (7, [.null, .int (0), .int (0), .int (0), .null, .null, .null])), (fa, .inl (cF, 1, .inr (.inr (.inr (.inr (fun _ => none)))))), (f0, .inr (2, [iN (0), iN (2048), .null]))]) rfl ?_
  refine gw_astO C (ws2 := [(st, .inr (7, [.null, .int (0), .int (0), .int (0), .null, .null, .null])), (fa, .inl (cF, 1, .inr (.inr (.inr (.inr (va_up (fun _ => none) 0 (some f0))))))), (f0, .inr (2, [iN (0), iN (2048), .null]))]) 1 4 2 (zq.2.2 _ (by decide)) dX10_newStage_53 rfl rfl rfl rfl (by decide) (by decide) rfl ?_
  refine gw_callIV (n := 4) (wr := [(f0, .inr (2, [iN (0), iN (2048), .null]))]) C (c_sinit1 (kl K) (kD K) cI cB cS cJ cF cG tt st fa 6 7 2048 _) gX10_newStage_X9_init rfl (by decide +kernel) (by decide +kernel) (by decide +kernel) rfl (by decide +kernel) dX10_newStage_54 (by rw [hkR]; decide) (by rw [hrc, hrs]; decide) [0, 1] [2] rfl rfl rfl rfl (by decide) rfl (Nat.le_of_ble_eq_true rfl) rfl (fun z hz => ?_)
  refine gw_ws (ws2 := [(f0, .inr (2, [iN (0), iN (2048), .null])), (st, .inr (7, [.ref (z.1), iN (6), iN (7), iN (2048), .ref (fa), .ref (z.2), .null])), (z.1, .inl (cI, 15, .inl (fun j => nI ((fun _ => 0) j)))), (fa, .inl (cF, 1, .inr (.inr (.inr (.inr (va_up (fun _ => none) 0 (some f0))))))), (z.2, .inl (cI, 16, .inl (fun j => nI ((fun _ => 0) j))))]) rfl ?_
  exact gw_perm [1, 2, 3, 4, 0] rfl (by decide) trivial (ret (fun j => if j = 0 then st else if j = 1 then z.1 else if j = 2 then fa else if j = 3 then z.2 else if j = 10 then f0 else 0) st dX10_newStage_57 trivial rfl (by decide) (by decide))
set_option maxHeartbeats 4000000 in
set_option maxRecDepth 100000 in
theorem c_newS1 (l : Launch) (D : va_G) (cI cB cS cJ cF cG : ClassId) (tt : Nat → Nat) : gw_CR2 (S := Nat → Nat) l yX10_newStage wsX10_newStage 3 73 6 64 D (mo_ty cI cB cS cJ cF cG) (zs tt) (([] : va_W)) [iN 1] (fun _ _ => True) (fun u r => sg_ws cI cF (fun j => if j = 0 then r else u j) 2 4 5 2048 .null (fun _ => 0) (fun _ => 0) (fu1_ws cI (fun j => if j = 0 then r else u j) (fun _ _ => 0))) := by
  refine gw_CR2.of (rt := RX9) (cc := cX10_newStage) (maxL := 1) (zs_ok tt) (by decide) rfl (Nat.le_of_ble_eq_true rfl) ?_
  intro K C hkl hkn hkR hkD hmn ret
  have C : gw_x K cX10_newStage RX10 wsX10_newStage (mo_ty cI cB cS cJ cF cG) (zs tt) := C
  subst hkl hkD
  have hrc : (kR K).cells = 6 := by rw [hkR]
  have hrs : (kR K).slots = 64 := by rw [hkR]
  have zq := C.2.2.2.1.2.2.2.2.2.2.2.2.2
  refine gw_iload_n C 0 dX10_newStage_0 rfl rfl ?_
  refine gw_tabIn C 58 dX10_newStage_1 (by decide) (by decide) (off := 57) (by decide) (by decide) ?_
  refine gw_new C (ci := 7) (fs := [.null, .int (0), .int (0), .int (0), .null, .null, .null]) tyX9 tyX9_ok in_X10_newStage_X9 dX10_newStage_58 (by decide +kernel) (by decide +kernel) (by decide +kernel) rfl (fun j hj => by rcases (show j = 0 ∨ j = 1 ∨ j = 2 ∨ j = 3 ∨ j = 4 ∨ j = 5 ∨ j = 6 by omega) with h | h | h | h | h | h | h <;> subst h <;> rfl) (by omega) (by omega) (fun st => ?_)
  refine gw_ws (ws2 := [(st, .inr (7, [.null, .int (0), .int (0), .int (0), .null, .null, .null]))]) rfl ?_
  refine gw_dup C dX10_newStage_61 rfl ?_
  refine gw_iconst C 4 dX10_newStage_62 (by decide) ?_
  refine gw_iconst C 5 dX10_newStage_63 (by decide) ?_
  refine gw_sipush C 2048 dX10_newStage_64 (by decide) ?_
  refine gw_iconst C 2 dX10_newStage_67 (by decide) ?_
  refine gw_newq C 4 2 zq.1 rfl dX10_newStage_68 (by decide +kernel) (by decide) (by omega) (by omega) (fun fa => ?_)
  refine gw_ws (ws2 := [(st, .inr (7, [.null, .int (0), .int (0), .int (0), .null, .null, .null])), (fa, .inl (cF, 2, .inr (.inr (.inr (.inr (fun _ => none))))))]) rfl ?_
  refine gw_dup C dX10_newStage_71 rfl ?_
  refine gw_iconst C 0 dX10_newStage_72 (by decide) ?_
  refine gw_new C (ci := 2) (fs := [.int (0), .int (0), .null]) tyX3 tyX3_ok in_X10_newStage_X3 dX10_newStage_73 (by decide +kernel) (by decide +kernel) (by decide +kernel) rfl (fun j hj => by rcases (show j = 0 ∨ j = 1 ∨ j = 2 by omega) with h | h | h <;> subst h <;> rfl) (by omega) (by omega) (fun f0 => ?_)
  refine gw_ws (ws2 := [(st, .inr (7, [.null, .int (0), .int (0), .int (0), .null, .null, .null])), (fa, .inl (cF, 2, .inr (.inr (.inr (.inr (fun _ => none)))))), (f0, .inr (2, [.int (0), .int (0), .null]))]) rfl ?_
  refine gw_dup C dX10_newStage_76 rfl ?_
  refine gw_iconst C 1 dX10_newStage_77 (by decide) ?_
  refine gw_callIV16 (n := 1) (wr := [(st, .inr (7, [.null, .int (0), .int (0), .int (0), .null, .null, .null])), (fa, .inl (cF, 2, .inr (.inr (.inr (.inr (fun _ => none))))))]) C (c_i_mc (kl K) (kD K) cI cB cS cJ cF cG tt f0) gX10_newStage_X3_init rfl (by decide +kernel) (by decide +kernel) (by decide +kernel) rfl (by decide +kernel) dX10_newStage_78 (by rw [hkR]; decide) (by rw [hrc, hrs]; decide) [2] [0, 1] rfl rfl rfl rfl (by decide) rfl (Nat.le_of_ble_eq_true rfl) (by rw [hkR]; decide) rfl (fun u0 hu0 => ?_)
  refine gw_ws (ws2 := [(st, .inr (7, [.null, .int (0), .int (0), .int (0), .null, .null, .null])), (fa, .inl (cF, 2, .inr (.inr (.inr (.inr (fun _ => none)))))), (f0, .inr (2, [iN (1), iN (2187), .null]))]) rfl ?_
  refine gw_astO C (ws2 := [(st, .inr (7, [.null, .int (0), .int (0), .int (0), .null, .null, .null])), (fa, .inl (cF, 2, .inr (.inr (.inr (.inr (va_up (fun _ => none) 0 (some f0))))))), (f0, .inr (2, [iN (1), iN (2187), .null]))]) 1 4 2 (zq.2.2 _ (by decide)) dX10_newStage_81 rfl rfl rfl rfl (by decide) (by decide) rfl ?_
  refine gw_dup C dX10_newStage_82 rfl ?_
  refine gw_iconst C 1 dX10_newStage_83 (by decide) ?_
  refine gw_new C (ci := 6) (fs := [.int (0), .int (0), .null, .int (0), .int (0)]) tyX8 tyX8_ok in_X10_newStage_X8 dX10_newStage_84 (by decide +kernel) (by decide +kernel) (by decide +kernel) rfl (fun j hj => by rcases (show j = 0 ∨ j = 1 ∨ j = 2 ∨ j = 3 ∨ j = 4 by omega) with h | h | h | h | h <;> subst h <;> rfl) (by omega) (by omega) (fun f1 => ?_)
  refine gw_ws (ws2 := [(st, .inr (7, [.null, .int (0), .int (0), .int (0), .null, .null, .null])), (fa, .inl (cF, 2, .inr (.inr (.inr (.inr (va_up (fun _ => none) 0 (some f0))))))), (f0, .inr (2, [iN (1), iN (2187), .null])), (f1, .inr (6, [.int (0), .int (0), .null, .int (0), .int (0)]))]) rfl ?_
  refine gw_dup C dX10_newStage_87 rfl ?_
  refine gw_iconst C 2 dX10_newStage_88 (by decide) ?_
  refine gw_bipush C 12 dX10_newStage_89 (by decide) ?_
  refine gw_callIV16 (n := 2) (wr := [(st, .inr (7, [.null, .int (0), .int (0), .int (0), .null, .null, .null])), (fa, .inl (cF, 2, .inr (.inr (.inr (.inr (va_up (fun _ => none) 0 (some f0))))))), (f0, .inr (2, [iN (1), iN (2187), .null]))]) C (c_i_pl12 (kl K) (kD K) cI cB cS cJ cF cG tt f1) gX10_newStage_X8_init rfl (by decide +kernel) (by decide +kernel) (by decide +kernel) rfl (by decide +kernel) dX10_newStage_91 (by rw [hkR]; decide) (by rw [hrc, hrs]; decide) [3] [0, 1, 2] rfl rfl rfl rfl (by decide) rfl (Nat.le_of_ble_eq_true rfl) (by rw [hkR]; decide) rfl (fun u1 hu1 => ?_)
  refine gw_ws (ws2 := [(st, .inr (7, [.null, .int (0), .int (0), .int (0), .null, .null, .null])), (fa, .inl (cF, 2, .inr (.inr (.inr (.inr (va_up (fun _ => none) 0 (some f0))))))), (f0, .inr (2, [iN (1), iN (2187), .null])), (f1, .inr (6, [iN (0), iN (495), .null, iN (2), iN (12)]))]) rfl ?_
  refine gw_astO C (ws2 := [(st, .inr (7, [.null, .int (0), .int (0), .int (0), .null, .null, .null])), (fa, .inl (cF, 2, .inr (.inr (.inr (.inr (va_up (va_up (fun _ => none) 0 (some f0)) 1 (some f1))))))), (f0, .inr (2, [iN (1), iN (2187), .null])), (f1, .inr (6, [iN (0), iN (495), .null, iN (2), iN (12)]))]) 1 4 3 (zq.2.2 _ (by decide)) dX10_newStage_94 rfl rfl rfl rfl (by decide) (by decide) rfl ?_
  refine gw_callIV (n := 4) (wr := [(f0, .inr (2, [iN (1), iN (2187), .null])), (f1, .inr (6, [iN (0), iN (495), .null, iN (2), iN (12)]))]) C (c_sinit2 (kl K) (kD K) cI cB cS cJ cF cG tt st fa 4 5 2048 _) gX10_newStage_X9_init rfl (by decide +kernel) (by decide +kernel) (by decide +kernel) rfl (by decide +kernel) dX10_newStage_95 (by rw [hkR]; decide) (by rw [hrc, hrs]; decide) [0, 1] [2, 3] rfl rfl rfl rfl (by decide) rfl (Nat.le_of_ble_eq_true rfl) rfl (fun z hz => ?_)
  refine gw_ws (ws2 := [(f0, .inr (2, [iN (1), iN (2187), .null])), (f1, .inr (6, [iN (0), iN (495), .null, iN (2), iN (12)])), (st, .inr (7, [.ref (z.1), iN (4), iN (5), iN (2048), .ref (fa), .ref (z.2), .null])), (z.1, .inl (cI, 15, .inl (fun j => nI ((fun _ => 0) j)))), (fa, .inl (cF, 2, .inr (.inr (.inr (.inr (va_up (va_up (fun _ => none) 0 (some f0)) 1 (some f1))))))), (z.2, .inl (cI, 32, .inl (fun j => nI ((fun _ => 0) j))))]) rfl ?_
  exact gw_perm [2, 3, 4, 5, 0, 1] rfl (by decide) trivial (ret (fun j => if j = 0 then st else if j = 1 then z.1 else if j = 2 then fa else if j = 3 then z.2 else if j = 10 then f0 else if j = 20 then f1 else 0) st dX10_newStage_98 trivial rfl (by decide) (by decide))
set_option maxHeartbeats 4000000 in
set_option maxRecDepth 100000 in
theorem c_newS2 (l : Launch) (D : va_G) (cI cB cS cJ cF cG : ClassId) (tt : Nat → Nat) : gw_CR2 (S := Nat → Nat) l yX10_newStage wsX10_newStage 3 73 9 87 D (mo_ty cI cB cS cJ cF cG) (zs tt) (([] : va_W)) [iN 2] (fun _ _ => True) (fun u r => sg_ws cI cF (fun j => if j = 0 then r else u j) 2 2 7 4096 .null (fun _ => 0) (fun _ => 0) (fu2_ws cI (fun j => if j = 0 then r else u j) (fun _ _ => 0))) := by
  refine gw_CR2.of (rt := RX9) (cc := cX10_newStage) (maxL := 1) (zs_ok tt) (by decide) rfl (Nat.le_of_ble_eq_true rfl) ?_
  intro K C hkl hkn hkR hkD hmn ret
  have C : gw_x K cX10_newStage RX10 wsX10_newStage (mo_ty cI cB cS cJ cF cG) (zs tt) := C
  subst hkl hkD
  have hrc : (kR K).cells = 9 := by rw [hkR]
  have hrs : (kR K).slots = 87 := by rw [hkR]
  have zq := C.2.2.2.1.2.2.2.2.2.2.2.2.2
  refine gw_iload_n C 0 dX10_newStage_0 rfl rfl ?_
  refine gw_tabIn C 99 dX10_newStage_1 (by decide) (by decide) (off := 98) (by decide) (by decide) ?_
  refine gw_new C (ci := 7) (fs := [.null, .int (0), .int (0), .int (0), .null, .null, .null]) tyX9 tyX9_ok in_X10_newStage_X9 dX10_newStage_99 (by decide +kernel) (by decide +kernel) (by decide +kernel) rfl (fun j hj => by rcases (show j = 0 ∨ j = 1 ∨ j = 2 ∨ j = 3 ∨ j = 4 ∨ j = 5 ∨ j = 6 by omega) with h | h | h | h | h | h | h <;> subst h <;> rfl) (by omega) (by omega) (fun st => ?_)
  refine gw_ws (ws2 := [(st, .inr (7, [.null, .int (0), .int (0), .int (0), .null, .null, .null]))]) rfl ?_
  refine gw_dup C dX10_newStage_102 rfl ?_
  refine gw_iconst C 2 dX10_newStage_103 (by decide) ?_
  refine gw_bipush C 7 dX10_newStage_104 (by decide) ?_
  refine gw_sipush C 4096 dX10_newStage_106 (by decide) ?_
  refine gw_iconst C 2 dX10_newStage_109 (by decide) ?_
  refine gw_newq C 4 2 zq.1 rfl dX10_newStage_110 (by decide +kernel) (by decide) (by omega) (by omega) (fun fa => ?_)
  refine gw_ws (ws2 := [(st, .inr (7, [.null, .int (0), .int (0), .int (0), .null, .null, .null])), (fa, .inl (cF, 2, .inr (.inr (.inr (.inr (fun _ => none))))))]) rfl ?_
  refine gw_dup C dX10_newStage_113 rfl ?_
  refine gw_iconst C 0 dX10_newStage_114 (by decide) ?_
  refine gw_new C (ci := 4) (fs := [.int (0), .int (0), .null, .null, .null, .null]) tyX6 tyX6_ok in_X10_newStage_X6 dX10_newStage_115 (by decide +kernel) (by decide +kernel) (by decide +kernel) rfl (fun j hj => by rcases (show j = 0 ∨ j = 1 ∨ j = 2 ∨ j = 3 ∨ j = 4 ∨ j = 5 by omega) with h | h | h | h | h | h <;> subst h <;> rfl) (by omega) (by omega) (fun f0 => ?_)
  refine gw_ws (ws2 := [(st, .inr (7, [.null, .int (0), .int (0), .int (0), .null, .null, .null])), (fa, .inl (cF, 2, .inr (.inr (.inr (.inr (fun _ => none)))))), (f0, .inr (4, [.int (0), .int (0), .null, .null, .null, .null]))]) rfl ?_
  refine gw_dup C dX10_newStage_118 rfl ?_
  refine gw_callIV16 (n := 0) (wr := [(st, .inr (7, [.null, .int (0), .int (0), .int (0), .null, .null, .null])), (fa, .inl (cF, 2, .inr (.inr (.inr (.inr (fun _ => none))))))]) C (c_i_pa (kl K) (kD K) cI cB cS cJ cF cG tt f0) gX10_newStage_X6_init rfl (by decide +kernel) (by decide +kernel) (by decide +kernel) rfl (by decide +kernel) dX10_newStage_119 (by rw [hkR]; decide) (by rw [hrc, hrs]; decide) [2] [0, 1] rfl rfl rfl rfl (by decide) rfl (Nat.le_of_ble_eq_true rfl) (by rw [hkR]; decide) rfl (fun u0 hu0 => ?_)
  refine gw_ws (ws2 := [(st, .inr (7, [.null, .int (0), .int (0), .int (0), .null, .null, .null])), (fa, .inl (cF, 2, .inr (.inr (.inr (.inr (fun _ => none)))))), (f0, .inr (4, [iN (1), iN (420), .null, .ref (u0.1), .ref (u0.2.1), .ref (u0.2.2)])), (u0.1, .inl (cI, 8, .inl (fun j => nI ((fun _ => 0) j)))), (u0.2.1, .inl (cI, 8, .inl (fun j => nI ((fun _ => 0) j)))), (u0.2.2, .inl (cI, 4, .inl (fun j => nI ((fun _ => 0) j))))]) rfl ?_
  refine gw_astO C (ws2 := [(st, .inr (7, [.null, .int (0), .int (0), .int (0), .null, .null, .null])), (fa, .inl (cF, 2, .inr (.inr (.inr (.inr (va_up (fun _ => none) 0 (some f0))))))), (f0, .inr (4, [iN (1), iN (420), .null, .ref (u0.1), .ref (u0.2.1), .ref (u0.2.2)])), (u0.1, .inl (cI, 8, .inl (fun j => nI ((fun _ => 0) j)))), (u0.2.1, .inl (cI, 8, .inl (fun j => nI ((fun _ => 0) j)))), (u0.2.2, .inl (cI, 4, .inl (fun j => nI ((fun _ => 0) j))))]) 1 4 2 (zq.2.2 _ (by decide)) dX10_newStage_122 rfl rfl rfl rfl (by decide) (by decide) rfl ?_
  refine gw_dup C dX10_newStage_123 rfl ?_
  refine gw_iconst C 1 dX10_newStage_124 (by decide) ?_
  refine gw_new C (ci := 6) (fs := [.int (0), .int (0), .null, .int (0), .int (0)]) tyX8 tyX8_ok in_X10_newStage_X8 dX10_newStage_125 (by decide +kernel) (by decide +kernel) (by decide +kernel) rfl (fun j hj => by rcases (show j = 0 ∨ j = 1 ∨ j = 2 ∨ j = 3 ∨ j = 4 by omega) with h | h | h | h | h <;> subst h <;> rfl) (by omega) (by omega) (fun f1 => ?_)
  refine gw_ws (ws2 := [(st, .inr (7, [.null, .int (0), .int (0), .int (0), .null, .null, .null])), (fa, .inl (cF, 2, .inr (.inr (.inr (.inr (va_up (fun _ => none) 0 (some f0))))))), (f0, .inr (4, [iN (1), iN (420), .null, .ref (u0.1), .ref (u0.2.1), .ref (u0.2.2)])), (u0.1, .inl (cI, 8, .inl (fun j => nI ((fun _ => 0) j)))), (u0.2.1, .inl (cI, 8, .inl (fun j => nI ((fun _ => 0) j)))), (u0.2.2, .inl (cI, 4, .inl (fun j => nI ((fun _ => 0) j)))), (f1, .inr (6, [.int (0), .int (0), .null, .int (0), .int (0)]))]) rfl ?_
  refine gw_dup C dX10_newStage_128 rfl ?_
  refine gw_iconst C 0 dX10_newStage_129 (by decide) ?_
  refine gw_bipush C 8 dX10_newStage_130 (by decide) ?_
  refine gw_callIV16 (n := 2) (wr := [(st, .inr (7, [.null, .int (0), .int (0), .int (0), .null, .null, .null])), (fa, .inl (cF, 2, .inr (.inr (.inr (.inr (va_up (fun _ => none) 0 (some f0))))))), (f0, .inr (4, [iN (1), iN (420), .null, .ref (u0.1), .ref (u0.2.1), .ref (u0.2.2)])), (u0.1, .inl (cI, 8, .inl (fun j => nI ((fun _ => 0) j)))), (u0.2.1, .inl (cI, 8, .inl (fun j => nI ((fun _ => 0) j)))), (u0.2.2, .inl (cI, 4, .inl (fun j => nI ((fun _ => 0) j))))]) C (c_i_pl8 (kl K) (kD K) cI cB cS cJ cF cG tt f1) gX10_newStage_X8_init rfl (by decide +kernel) (by decide +kernel) (by decide +kernel) rfl (by decide +kernel) dX10_newStage_132 (by rw [hkR]; decide) (by rw [hrc, hrs]; decide) [6] [0, 1, 2, 3, 4, 5] rfl rfl rfl rfl (by decide) rfl (Nat.le_of_ble_eq_true rfl) (by rw [hkR]; decide) rfl (fun u1 hu1 => ?_)
  refine gw_ws (ws2 := [(st, .inr (7, [.null, .int (0), .int (0), .int (0), .null, .null, .null])), (fa, .inl (cF, 2, .inr (.inr (.inr (.inr (va_up (fun _ => none) 0 (some f0))))))), (f0, .inr (4, [iN (1), iN (420), .null, .ref (u0.1), .ref (u0.2.1), .ref (u0.2.2)])), (u0.1, .inl (cI, 8, .inl (fun j => nI ((fun _ => 0) j)))), (u0.2.1, .inl (cI, 8, .inl (fun j => nI ((fun _ => 0) j)))), (u0.2.2, .inl (cI, 4, .inl (fun j => nI ((fun _ => 0) j)))), (f1, .inr (6, [iN (0), iN (70), .null, iN (0), iN (8)]))]) rfl ?_
  refine gw_astO C (ws2 := [(st, .inr (7, [.null, .int (0), .int (0), .int (0), .null, .null, .null])), (fa, .inl (cF, 2, .inr (.inr (.inr (.inr (va_up (va_up (fun _ => none) 0 (some f0)) 1 (some f1))))))), (f0, .inr (4, [iN (1), iN (420), .null, .ref (u0.1), .ref (u0.2.1), .ref (u0.2.2)])), (u0.1, .inl (cI, 8, .inl (fun j => nI ((fun _ => 0) j)))), (u0.2.1, .inl (cI, 8, .inl (fun j => nI ((fun _ => 0) j)))), (u0.2.2, .inl (cI, 4, .inl (fun j => nI ((fun _ => 0) j)))), (f1, .inr (6, [iN (0), iN (70), .null, iN (0), iN (8)]))]) 1 4 6 (zq.2.2 _ (by decide)) dX10_newStage_135 rfl rfl rfl rfl (by decide) (by decide) rfl ?_
  refine gw_callIV (n := 4) (wr := [(f0, .inr (4, [iN (1), iN (420), .null, .ref (u0.1), .ref (u0.2.1), .ref (u0.2.2)])), (u0.1, .inl (cI, 8, .inl (fun j => nI ((fun _ => 0) j)))), (u0.2.1, .inl (cI, 8, .inl (fun j => nI ((fun _ => 0) j)))), (u0.2.2, .inl (cI, 4, .inl (fun j => nI ((fun _ => 0) j)))), (f1, .inr (6, [iN (0), iN (70), .null, iN (0), iN (8)]))]) C (c_sinit2 (kl K) (kD K) cI cB cS cJ cF cG tt st fa 2 7 4096 _) gX10_newStage_X9_init rfl (by decide +kernel) (by decide +kernel) (by decide +kernel) rfl (by decide +kernel) dX10_newStage_136 (by rw [hkR]; decide) (by rw [hrc, hrs]; decide) [0, 1] [2, 3, 4, 5, 6] rfl rfl rfl rfl (by decide) rfl (Nat.le_of_ble_eq_true rfl) rfl (fun z hz => ?_)
  refine gw_ws (ws2 := [(f0, .inr (4, [iN (1), iN (420), .null, .ref (u0.1), .ref (u0.2.1), .ref (u0.2.2)])), (u0.1, .inl (cI, 8, .inl (fun j => nI ((fun _ => 0) j)))), (u0.2.1, .inl (cI, 8, .inl (fun j => nI ((fun _ => 0) j)))), (u0.2.2, .inl (cI, 4, .inl (fun j => nI ((fun _ => 0) j)))), (f1, .inr (6, [iN (0), iN (70), .null, iN (0), iN (8)])), (st, .inr (7, [.ref (z.1), iN (2), iN (7), iN (4096), .ref (fa), .ref (z.2), .null])), (z.1, .inl (cI, 15, .inl (fun j => nI ((fun _ => 0) j)))), (fa, .inl (cF, 2, .inr (.inr (.inr (.inr (va_up (va_up (fun _ => none) 0 (some f0)) 1 (some f1))))))), (z.2, .inl (cI, 32, .inl (fun j => nI ((fun _ => 0) j))))]) rfl ?_
  exact gw_perm [5, 6, 7, 8, 0, 1, 2, 3, 4] rfl (by decide) trivial (ret (fun j => if j = 0 then st else if j = 1 then z.1 else if j = 2 then fa else if j = 3 then z.2 else if j = 10 then f0 else if j = 12 then u0.1 else if j = 13 then u0.2.1 else if j = 14 then u0.2.2 else if j = 20 then f1 else 0) st dX10_newStage_139 trivial rfl (by decide) (by decide))
set_option maxHeartbeats 4000000 in
set_option maxRecDepth 100000 in
theorem c_newS3 (l : Launch) (D : va_G) (cI cB cS cJ cF cG : ClassId) (tt : Nat → Nat) : gw_CR2 (S := Nat → Nat) l yX10_newStage wsX10_newStage 3 73 12 125 D (mo_ty cI cB cS cJ cF cG) (zs tt) (([] : va_W)) [iN 3] (fun _ _ => True) (fun u r => sg_ws cI cF (fun j => if j = 0 then r else u j) 4 0 7 10240 .null (fun _ => 0) (fun _ => 0) (fu3_ws cI (fun j => if j = 0 then r else u j) (fun _ _ => 0))) := by
  refine gw_CR2.of (rt := RX9) (cc := cX10_newStage) (maxL := 1) (zs_ok tt) (by decide) rfl (Nat.le_of_ble_eq_true rfl) ?_
  intro K C hkl hkn hkR hkD hmn ret
  have C : gw_x K cX10_newStage RX10 wsX10_newStage (mo_ty cI cB cS cJ cF cG) (zs tt) := C
  subst hkl hkD
  have hrc : (kR K).cells = 12 := by rw [hkR]
  have hrs : (kR K).slots = 125 := by rw [hkR]
  have zq := C.2.2.2.1.2.2.2.2.2.2.2.2.2
  refine gw_iload_n C 0 dX10_newStage_0 rfl rfl ?_
  refine gw_tabOut C 140 dX10_newStage_1 (by decide) (by decide) ?_
  refine gw_new C (ci := 7) (fs := [.null, .int (0), .int (0), .int (0), .null, .null, .null]) tyX9 tyX9_ok in_X10_newStage_X9 dX10_newStage_140 (by decide +kernel) (by decide +kernel) (by decide +kernel) rfl (fun j hj => by rcases (show j = 0 ∨ j = 1 ∨ j = 2 ∨ j = 3 ∨ j = 4 ∨ j = 5 ∨ j = 6 by omega) with h | h | h | h | h | h | h <;> subst h <;> rfl) (by omega) (by omega) (fun st => ?_)
  refine gw_ws (ws2 := [(st, .inr (7, [.null, .int (0), .int (0), .int (0), .null, .null, .null]))]) rfl ?_
  refine gw_dup C dX10_newStage_143 rfl ?_
  refine gw_iconst C 0 dX10_newStage_144 (by decide) ?_
  refine gw_bipush C 7 dX10_newStage_145 (by decide) ?_
  refine gw_sipush C 10240 dX10_newStage_147 (by decide) ?_
  refine gw_iconst C 4 dX10_newStage_150 (by decide) ?_
  refine gw_newq C 4 4 zq.1 rfl dX10_newStage_151 (by decide +kernel) (by decide) (by omega) (by omega) (fun fa => ?_)
  refine gw_ws (ws2 := [(st, .inr (7, [.null, .int (0), .int (0), .int (0), .null, .null, .null])), (fa, .inl (cF, 4, .inr (.inr (.inr (.inr (fun _ => none))))))]) rfl ?_
  refine gw_dup C dX10_newStage_154 rfl ?_
  refine gw_iconst C 0 dX10_newStage_155 (by decide) ?_
  refine gw_new C (ci := 0) (fs := [.int (0), .int (0), .null, .null]) tyX0 tyX0_ok in_X10_newStage_X0 dX10_newStage_156 (by decide +kernel) (by decide +kernel) (by decide +kernel) rfl (fun j hj => by rcases (show j = 0 ∨ j = 1 ∨ j = 2 ∨ j = 3 by omega) with h | h | h | h <;> subst h <;> rfl) (by omega) (by omega) (fun f0 => ?_)
  refine gw_ws (ws2 := [(st, .inr (7, [.null, .int (0), .int (0), .int (0), .null, .null, .null])), (fa, .inl (cF, 4, .inr (.inr (.inr (.inr (fun _ => none)))))), (f0, .inr (0, [.int (0), .int (0), .null, .null]))]) rfl ?_
  refine gw_dup C dX10_newStage_159 rfl ?_
  refine gw_callIV16 (n := 0) (wr := [(st, .inr (7, [.null, .int (0), .int (0), .int (0), .null, .null, .null])), (fa, .inl (cF, 4, .inr (.inr (.inr (.inr (fun _ => none))))))]) C (c_i_co (kl K) (kD K) cI cB cS cJ cF cG tt f0) gX10_newStage_X0_init rfl (by decide +kernel) (by decide +kernel) (by decide +kernel) rfl (by decide +kernel) dX10_newStage_160 (by rw [hkR]; decide) (by rw [hrc, hrs]; decide) [2] [0, 1] rfl rfl rfl rfl (by decide) rfl (Nat.le_of_ble_eq_true rfl) (by rw [hkR]; decide) rfl (fun u0 hu0 => ?_)
  refine gw_ws (ws2 := [(st, .inr (7, [.null, .int (0), .int (0), .int (0), .null, .null, .null])), (fa, .inl (cF, 4, .inr (.inr (.inr (.inr (fun _ => none)))))), (f0, .inr (0, [iN (1), iN (96), .null, .ref (u0)])), (u0, .inl (cI, 4, .inl (fun j => nI ((fun _ => 0) j))))]) rfl ?_
  refine gw_astO C (ws2 := [(st, .inr (7, [.null, .int (0), .int (0), .int (0), .null, .null, .null])), (fa, .inl (cF, 4, .inr (.inr (.inr (.inr (va_up (fun _ => none) 0 (some f0))))))), (f0, .inr (0, [iN (1), iN (96), .null, .ref (u0)])), (u0, .inl (cI, 4, .inl (fun j => nI ((fun _ => 0) j))))]) 1 4 2 (zq.2.2 _ (by decide)) dX10_newStage_163 rfl rfl rfl rfl (by decide) (by decide) rfl ?_
  refine gw_dup C dX10_newStage_164 rfl ?_
  refine gw_iconst C 1 dX10_newStage_165 (by decide) ?_
  refine gw_new C (ci := 3) (fs := [.int (0), .int (0), .null, .int (0), .null]) tyX5 tyX5_ok in_X10_newStage_X5 dX10_newStage_166 (by decide +kernel) (by decide +kernel) (by decide +kernel) rfl (fun j hj => by rcases (show j = 0 ∨ j = 1 ∨ j = 2 ∨ j = 3 ∨ j = 4 by omega) with h | h | h | h | h <;> subst h <;> rfl) (by omega) (by omega) (fun f1 => ?_)
  refine gw_ws (ws2 := [(st, .inr (7, [.null, .int (0), .int (0), .int (0), .null, .null, .null])), (fa, .inl (cF, 4, .inr (.inr (.inr (.inr (va_up (fun _ => none) 0 (some f0))))))), (f0, .inr (0, [iN (1), iN (96), .null, .ref (u0)])), (u0, .inl (cI, 4, .inl (fun j => nI ((fun _ => 0) j)))), (f1, .inr (3, [.int (0), .int (0), .null, .int (0), .null]))]) rfl ?_
  refine gw_dup C dX10_newStage_169 rfl ?_
  refine gw_iconst C 0 dX10_newStage_170 (by decide) ?_
  refine gw_callIV16 (n := 1) (wr := [(st, .inr (7, [.null, .int (0), .int (0), .int (0), .null, .null, .null])), (fa, .inl (cF, 4, .inr (.inr (.inr (.inr (va_up (fun _ => none) 0 (some f0))))))), (f0, .inr (0, [iN (1), iN (96), .null, .ref (u0)])), (u0, .inl (cI, 4, .inl (fun j => nI ((fun _ => 0) j))))]) C (c_i_or0 (kl K) (kD K) cI cB cS cJ cF cG tt f1) gX10_newStage_X5_init rfl (by decide +kernel) (by decide +kernel) (by decide +kernel) rfl (by decide +kernel) dX10_newStage_171 (by rw [hkR]; decide) (by rw [hrc, hrs]; decide) [4] [0, 1, 2, 3] rfl rfl rfl rfl (by decide) rfl (Nat.le_of_ble_eq_true rfl) (by rw [hkR]; decide) rfl (fun u1 hu1 => ?_)
  refine gw_ws (ws2 := [(st, .inr (7, [.null, .int (0), .int (0), .int (0), .null, .null, .null])), (fa, .inl (cF, 4, .inr (.inr (.inr (.inr (va_up (fun _ => none) 0 (some f0))))))), (f0, .inr (0, [iN (1), iN (96), .null, .ref (u0)])), (u0, .inl (cI, 4, .inl (fun j => nI ((fun _ => 0) j)))), (f1, .inr (3, [iN (0), iN (24), .null, iN (0), .ref (u1)])), (u1, .inl (cI, 4, .inl (fun j => nI ((fun _ => 0) j))))]) rfl ?_
  refine gw_astO C (ws2 := [(st, .inr (7, [.null, .int (0), .int (0), .int (0), .null, .null, .null])), (fa, .inl (cF, 4, .inr (.inr (.inr (.inr (va_up (va_up (fun _ => none) 0 (some f0)) 1 (some f1))))))), (f0, .inr (0, [iN (1), iN (96), .null, .ref (u0)])), (u0, .inl (cI, 4, .inl (fun j => nI ((fun _ => 0) j)))), (f1, .inr (3, [iN (0), iN (24), .null, iN (0), .ref (u1)])), (u1, .inl (cI, 4, .inl (fun j => nI ((fun _ => 0) j))))]) 1 4 4 (zq.2.2 _ (by decide)) dX10_newStage_174 rfl rfl rfl rfl (by decide) (by decide) rfl ?_
  refine gw_dup C dX10_newStage_175 rfl ?_
  refine gw_iconst C 2 dX10_newStage_176 (by decide) ?_
  refine gw_new C (ci := 3) (fs := [.int (0), .int (0), .null, .int (0), .null]) tyX5 tyX5_ok in_X10_newStage_X5 dX10_newStage_177 (by decide +kernel) (by decide +kernel) (by decide +kernel) rfl (fun j hj => by rcases (show j = 0 ∨ j = 1 ∨ j = 2 ∨ j = 3 ∨ j = 4 by omega) with h | h | h | h | h <;> subst h <;> rfl) (by omega) (by omega) (fun f2 => ?_)
  refine gw_ws (ws2 := [(st, .inr (7, [.null, .int (0), .int (0), .int (0), .null, .null, .null])), (fa, .inl (cF, 4, .inr (.inr (.inr (.inr (va_up (va_up (fun _ => none) 0 (some f0)) 1 (some f1))))))), (f0, .inr (0, [iN (1), iN (96), .null, .ref (u0)])), (u0, .inl (cI, 4, .inl (fun j => nI ((fun _ => 0) j)))), (f1, .inr (3, [iN (0), iN (24), .null, iN (0), .ref (u1)])), (u1, .inl (cI, 4, .inl (fun j => nI ((fun _ => 0) j)))), (f2, .inr (3, [.int (0), .int (0), .null, .int (0), .null]))]) rfl ?_
  refine gw_dup C dX10_newStage_180 rfl ?_
  refine gw_iconst C 1 dX10_newStage_181 (by decide) ?_
  refine gw_callIV16 (n := 1) (wr := [(st, .inr (7, [.null, .int (0), .int (0), .int (0), .null, .null, .null])), (fa, .inl (cF, 4, .inr (.inr (.inr (.inr (va_up (va_up (fun _ => none) 0 (some f0)) 1 (some f1))))))), (f0, .inr (0, [iN (1), iN (96), .null, .ref (u0)])), (u0, .inl (cI, 4, .inl (fun j => nI ((fun _ => 0) j)))), (f1, .inr (3, [iN (0), iN (24), .null, iN (0), .ref (u1)])), (u1, .inl (cI, 4, .inl (fun j => nI ((fun _ => 0) j))))]) C (c_i_or1 (kl K) (kD K) cI cB cS cJ cF cG tt f2) gX10_newStage_X5_init rfl (by decide +kernel) (by decide +kernel) (by decide +kernel) rfl (by decide +kernel) dX10_newStage_182 (by rw [hkR]; decide) (by rw [hrc, hrs]; decide) [6] [0, 1, 2, 3, 4, 5] rfl rfl rfl rfl (by decide) rfl (Nat.le_of_ble_eq_true rfl) (by rw [hkR]; decide) rfl (fun u2 hu2 => ?_)
  refine gw_ws (ws2 := [(st, .inr (7, [.null, .int (0), .int (0), .int (0), .null, .null, .null])), (fa, .inl (cF, 4, .inr (.inr (.inr (.inr (va_up (va_up (fun _ => none) 0 (some f0)) 1 (some f1))))))), (f0, .inr (0, [iN (1), iN (96), .null, .ref (u0)])), (u0, .inl (cI, 4, .inl (fun j => nI ((fun _ => 0) j)))), (f1, .inr (3, [iN (0), iN (24), .null, iN (0), .ref (u1)])), (u1, .inl (cI, 4, .inl (fun j => nI ((fun _ => 0) j)))), (f2, .inr (3, [iN (0), iN (24), .null, iN (4), .ref (u2)])), (u2, .inl (cI, 4, .inl (fun j => nI ((fun _ => 0) j))))]) rfl ?_
  refine gw_astO C (ws2 := [(st, .inr (7, [.null, .int (0), .int (0), .int (0), .null, .null, .null])), (fa, .inl (cF, 4, .inr (.inr (.inr (.inr (va_up (va_up (va_up (fun _ => none) 0 (some f0)) 1 (some f1)) 2 (some f2))))))), (f0, .inr (0, [iN (1), iN (96), .null, .ref (u0)])), (u0, .inl (cI, 4, .inl (fun j => nI ((fun _ => 0) j)))), (f1, .inr (3, [iN (0), iN (24), .null, iN (0), .ref (u1)])), (u1, .inl (cI, 4, .inl (fun j => nI ((fun _ => 0) j)))), (f2, .inr (3, [iN (0), iN (24), .null, iN (4), .ref (u2)])), (u2, .inl (cI, 4, .inl (fun j => nI ((fun _ => 0) j))))]) 1 4 6 (zq.2.2 _ (by decide)) dX10_newStage_185 rfl rfl rfl rfl (by decide) (by decide) rfl ?_
  refine gw_dup C dX10_newStage_186 rfl ?_
  refine gw_iconst C 3 dX10_newStage_187 (by decide) ?_
  refine gw_new C (ci := 3) (fs := [.int (0), .int (0), .null, .int (0), .null]) tyX5 tyX5_ok in_X10_newStage_X5 dX10_newStage_188 (by decide +kernel) (by decide +kernel) (by decide +kernel) rfl (fun j hj => by rcases (show j = 0 ∨ j = 1 ∨ j = 2 ∨ j = 3 ∨ j = 4 by omega) with h | h | h | h | h <;> subst h <;> rfl) (by omega) (by omega) (fun f3 => ?_)
  refine gw_ws (ws2 := [(st, .inr (7, [.null, .int (0), .int (0), .int (0), .null, .null, .null])), (fa, .inl (cF, 4, .inr (.inr (.inr (.inr (va_up (va_up (va_up (fun _ => none) 0 (some f0)) 1 (some f1)) 2 (some f2))))))), (f0, .inr (0, [iN (1), iN (96), .null, .ref (u0)])), (u0, .inl (cI, 4, .inl (fun j => nI ((fun _ => 0) j)))), (f1, .inr (3, [iN (0), iN (24), .null, iN (0), .ref (u1)])), (u1, .inl (cI, 4, .inl (fun j => nI ((fun _ => 0) j)))), (f2, .inr (3, [iN (0), iN (24), .null, iN (4), .ref (u2)])), (u2, .inl (cI, 4, .inl (fun j => nI ((fun _ => 0) j)))), (f3, .inr (3, [.int (0), .int (0), .null, .int (0), .null]))]) rfl ?_
  refine gw_dup C dX10_newStage_191 rfl ?_
  refine gw_iconst C 2 dX10_newStage_192 (by decide) ?_
  refine gw_callIV16 (n := 1) (wr := [(st, .inr (7, [.null, .int (0), .int (0), .int (0), .null, .null, .null])), (fa, .inl (cF, 4, .inr (.inr (.inr (.inr (va_up (va_up (va_up (fun _ => none) 0 (some f0)) 1 (some f1)) 2 (some f2))))))), (f0, .inr (0, [iN (1), iN (96), .null, .ref (u0)])), (u0, .inl (cI, 4, .inl (fun j => nI ((fun _ => 0) j)))), (f1, .inr (3, [iN (0), iN (24), .null, iN (0), .ref (u1)])), (u1, .inl (cI, 4, .inl (fun j => nI ((fun _ => 0) j)))), (f2, .inr (3, [iN (0), iN (24), .null, iN (4), .ref (u2)])), (u2, .inl (cI, 4, .inl (fun j => nI ((fun _ => 0) j))))]) C (c_i_or2 (kl K) (kD K) cI cB cS cJ cF cG tt f3) gX10_newStage_X5_init rfl (by decide +kernel) (by decide +kernel) (by decide +kernel) rfl (by decide +kernel) dX10_newStage_193 (by rw [hkR]; decide) (by rw [hrc, hrs]; decide) [8] [0, 1, 2, 3, 4, 5, 6, 7] rfl rfl rfl rfl (by decide) rfl (Nat.le_of_ble_eq_true rfl) (by rw [hkR]; decide) rfl (fun u3 hu3 => ?_)
  refine gw_ws (ws2 := [(st, .inr (7, [.null, .int (0), .int (0), .int (0), .null, .null, .null])), (fa, .inl (cF, 4, .inr (.inr (.inr (.inr (va_up (va_up (va_up (fun _ => none) 0 (some f0)) 1 (some f1)) 2 (some f2))))))), (f0, .inr (0, [iN (1), iN (96), .null, .ref (u0)])), (u0, .inl (cI, 4, .inl (fun j => nI ((fun _ => 0) j)))), (f1, .inr (3, [iN (0), iN (24), .null, iN (0), .ref (u1)])), (u1, .inl (cI, 4, .inl (fun j => nI ((fun _ => 0) j)))), (f2, .inr (3, [iN (0), iN (24), .null, iN (4), .ref (u2)])), (u2, .inl (cI, 4, .inl (fun j => nI ((fun _ => 0) j)))), (f3, .inr (3, [iN (0), iN (24), .null, iN (8), .ref (u3)])), (u3, .inl (cI, 4, .inl (fun j => nI ((fun _ => 0) j))))]) rfl ?_
  refine gw_astO C (ws2 := [(st, .inr (7, [.null, .int (0), .int (0), .int (0), .null, .null, .null])), (fa, .inl (cF, 4, .inr (.inr (.inr (.inr (va_up (va_up (va_up (va_up (fun _ => none) 0 (some f0)) 1 (some f1)) 2 (some f2)) 3 (some f3))))))), (f0, .inr (0, [iN (1), iN (96), .null, .ref (u0)])), (u0, .inl (cI, 4, .inl (fun j => nI ((fun _ => 0) j)))), (f1, .inr (3, [iN (0), iN (24), .null, iN (0), .ref (u1)])), (u1, .inl (cI, 4, .inl (fun j => nI ((fun _ => 0) j)))), (f2, .inr (3, [iN (0), iN (24), .null, iN (4), .ref (u2)])), (u2, .inl (cI, 4, .inl (fun j => nI ((fun _ => 0) j)))), (f3, .inr (3, [iN (0), iN (24), .null, iN (8), .ref (u3)])), (u3, .inl (cI, 4, .inl (fun j => nI ((fun _ => 0) j))))]) 1 4 8 (zq.2.2 _ (by decide)) dX10_newStage_196 rfl rfl rfl rfl (by decide) (by decide) rfl ?_
  refine gw_callIV (n := 4) (wr := [(f0, .inr (0, [iN (1), iN (96), .null, .ref (u0)])), (u0, .inl (cI, 4, .inl (fun j => nI ((fun _ => 0) j)))), (f1, .inr (3, [iN (0), iN (24), .null, iN (0), .ref (u1)])), (u1, .inl (cI, 4, .inl (fun j => nI ((fun _ => 0) j)))), (f2, .inr (3, [iN (0), iN (24), .null, iN (4), .ref (u2)])), (u2, .inl (cI, 4, .inl (fun j => nI ((fun _ => 0) j)))), (f3, .inr (3, [iN (0), iN (24), .null, iN (8), .ref (u3)])), (u3, .inl (cI, 4, .inl (fun j => nI ((fun _ => 0) j))))]) C (c_sinit4 (kl K) (kD K) cI cB cS cJ cF cG tt st fa 0 7 10240 _) gX10_newStage_X9_init rfl (by decide +kernel) (by decide +kernel) (by decide +kernel) rfl (by decide +kernel) dX10_newStage_197 (by rw [hkR]; decide) (by rw [hrc, hrs]; decide) [0, 1] [2, 3, 4, 5, 6, 7, 8, 9] rfl rfl rfl rfl (by decide) rfl (Nat.le_of_ble_eq_true rfl) rfl (fun z hz => ?_)
  refine gw_ws (ws2 := [(f0, .inr (0, [iN (1), iN (96), .null, .ref (u0)])), (u0, .inl (cI, 4, .inl (fun j => nI ((fun _ => 0) j)))), (f1, .inr (3, [iN (0), iN (24), .null, iN (0), .ref (u1)])), (u1, .inl (cI, 4, .inl (fun j => nI ((fun _ => 0) j)))), (f2, .inr (3, [iN (0), iN (24), .null, iN (4), .ref (u2)])), (u2, .inl (cI, 4, .inl (fun j => nI ((fun _ => 0) j)))), (f3, .inr (3, [iN (0), iN (24), .null, iN (8), .ref (u3)])), (u3, .inl (cI, 4, .inl (fun j => nI ((fun _ => 0) j)))), (st, .inr (7, [.ref (z.1), iN (0), iN (7), iN (10240), .ref (fa), .ref (z.2), .null])), (z.1, .inl (cI, 15, .inl (fun j => nI ((fun _ => 0) j)))), (fa, .inl (cF, 4, .inr (.inr (.inr (.inr (va_up (va_up (va_up (va_up (fun _ => none) 0 (some f0)) 1 (some f1)) 2 (some f2)) 3 (some f3))))))), (z.2, .inl (cI, 64, .inl (fun j => nI ((fun _ => 0) j))))]) rfl ?_
  exact gw_perm [8, 9, 10, 11, 0, 1, 2, 3, 4, 5, 6, 7] rfl (by decide) trivial (ret (fun j => if j = 0 then st else if j = 1 then z.1 else if j = 2 then fa else if j = 3 then z.2 else if j = 10 then f0 else if j = 12 then u0 else if j = 20 then f1 else if j = 22 then u1 else if j = 30 then f2 else if j = 32 then u2 else if j = 40 then f3 else if j = 42 then u3 else 0) st dX10_newStage_200 trivial rfl (by decide) (by decide))
