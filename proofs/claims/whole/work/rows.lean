section
-- ===== PART A: goes FIRST, ahead of the names: the tables' words, and 'selects' of the private methods out of them =====
/-- a private method of a class that the tables say can be made, by its rows of tables_1 -/
def lw_okq (q : MethodName × Nat) : Prop := (q.1.cls ≠ "java/lang/invoke/MethodHandle" ∧ q.1.cls ≠ "java/lang/invoke/VarHandle") ∧ Cond.instantiable q.1.cls q.2 ∈ tables_1 ∧ Cond.privateMethod q.1 ∈ tables_1 ∧ Cond.instanceMethod q.1 ∈ tables_1
theorem lw_p0 : lw_okq (⟨"StageCube", "forgetWay", "()V"⟩, 7) := ⟨⟨by decide +kernel, by decide +kernel⟩, List.mem_of_getElem? (i := 16) (by decide +kernel), List.mem_of_getElem? (i := 182) (by decide +kernel), List.mem_of_getElem? (i := 183) (by decide +kernel)⟩
theorem lw_p1 : lw_okq (⟨"StageCube", "walkStage", "(I)V"⟩, 7) := ⟨⟨by decide +kernel, by decide +kernel⟩, List.mem_of_getElem? (i := 16) (by decide +kernel), List.mem_of_getElem? (i := 195) (by decide +kernel), List.mem_of_getElem? (i := 196) (by decide +kernel)⟩
theorem lw_p2 : lw_okq (⟨"StageCube", "knownStage", "(I)LStageCube$Stage;"⟩, 7) := ⟨⟨by decide +kernel, by decide +kernel⟩, List.mem_of_getElem? (i := 16) (by decide +kernel), List.mem_of_getElem? (i := 199) (by decide +kernel), List.mem_of_getElem? (i := 200) (by decide +kernel)⟩
theorem lw_p3 : lw_okq (⟨"StageCube$Stage", "readStart", "(LStageCube$Cube;)I"⟩, 7) := ⟨⟨by decide +kernel, by decide +kernel⟩, List.mem_of_getElem? (i := 205) (by decide +kernel), List.mem_of_getElem? (i := 325) (by decide +kernel), List.mem_of_getElem? (i := 326) (by decide +kernel)⟩
theorem lw_p4 : lw_okq (⟨"StageCube$Pairings", "partner", "(I)I"⟩, 6) := ⟨⟨by decide +kernel, by decide +kernel⟩, List.mem_of_getElem? (i := 273) (by decide +kernel), List.mem_of_getElem? (i := 365) (by decide +kernel), List.mem_of_getElem? (i := 366) (by decide +kernel)⟩
theorem lw_p5 : lw_okq (⟨"StageCube$Places", "position", "(I)I"⟩, 5) := ⟨⟨by decide +kernel, by decide +kernel⟩, List.mem_of_getElem? (i := 257) (by decide +kernel), List.mem_of_getElem? (i := 378) (by decide +kernel), List.mem_of_getElem? (i := 379) (by decide +kernel)⟩
theorem lw_p6 : lw_okq (⟨"StageCube$Stage", "stateAt", "(I)I"⟩, 7) := ⟨⟨by decide +kernel, by decide +kernel⟩, List.mem_of_getElem? (i := 205) (by decide +kernel), List.mem_of_getElem? (i := 383) (by decide +kernel), List.mem_of_getElem? (i := 384) (by decide +kernel)⟩
theorem lw_p7 : lw_okq (⟨"StageCube$Stage", "prepare", "()V"⟩, 7) := ⟨⟨by decide +kernel, by decide +kernel⟩, List.mem_of_getElem? (i := 205) (by decide +kernel), List.mem_of_getElem? (i := 387) (by decide +kernel), List.mem_of_getElem? (i := 388) (by decide +kernel)⟩
theorem lw_p8 : lw_okq (⟨"StageCube$Stage", "spreadFromGoal", "()V"⟩, 7) := ⟨⟨by decide +kernel, by decide +kernel⟩, List.mem_of_getElem? (i := 205) (by decide +kernel), List.mem_of_getElem? (i := 433) (by decide +kernel), List.mem_of_getElem? (i := 434) (by decide +kernel)⟩
theorem lw_p9 : lw_okq (⟨"StageCube$Stage", "store", "(II)V"⟩, 7) := ⟨⟨by decide +kernel, by decide +kernel⟩, List.mem_of_getElem? (i := 205) (by decide +kernel), List.mem_of_getElem? (i := 437) (by decide +kernel), List.mem_of_getElem? (i := 438) (by decide +kernel)⟩
theorem lw_p10 : lw_okq (⟨"StageCube$Stage", "spread", "(I[II)I"⟩, 7) := ⟨⟨by decide +kernel, by decide +kernel⟩, List.mem_of_getElem? (i := 205) (by decide +kernel), List.mem_of_getElem? (i := 441) (by decide +kernel), List.mem_of_getElem? (i := 442) (by decide +kernel)⟩
theorem lw_p11 : lw_okq (⟨"StageCube$Stage", "stored", "(I)I"⟩, 7) := ⟨⟨by decide +kernel, by decide +kernel⟩, List.mem_of_getElem? (i := 205) (by decide +kernel), List.mem_of_getElem? (i := 445) (by decide +kernel), List.mem_of_getElem? (i := 446) (by decide +kernel)⟩
theorem lw_p12 : lw_okq (⟨"StageCube$Stage", "showState", "(I)V"⟩, 7) := ⟨⟨by decide +kernel, by decide +kernel⟩, List.mem_of_getElem? (i := 205) (by decide +kernel), List.mem_of_getElem? (i := 449) (by decide +kernel), List.mem_of_getElem? (i := 450) (by decide +kernel)⟩
theorem lw_p13 : lw_okq (⟨"StageCube$Stage", "copyDown", "(I)V"⟩, 7) := ⟨⟨by decide +kernel, by decide +kernel⟩, List.mem_of_getElem? (i := 205) (by decide +kernel), List.mem_of_getElem? (i := 453) (by decide +kernel), List.mem_of_getElem? (i := 454) (by decide +kernel)⟩
theorem lw_p14 : lw_okq (⟨"StageCube$Stage", "turnsOf", "(I)I"⟩, 7) := ⟨⟨by decide +kernel, by decide +kernel⟩, List.mem_of_getElem? (i := 205) (by decide +kernel), List.mem_of_getElem? (i := 460) (by decide +kernel), List.mem_of_getElem? (i := 461) (by decide +kernel)⟩
theorem lw_p15 : lw_okq (⟨"StageCube$Stage", "advance", "(II)V"⟩, 7) := ⟨⟨by decide +kernel, by decide +kernel⟩, List.mem_of_getElem? (i := 205) (by decide +kernel), List.mem_of_getElem? (i := 464) (by decide +kernel), List.mem_of_getElem? (i := 465) (by decide +kernel)⟩
def lw_privs_1 : List (MethodName × Nat) := [(⟨"StageCube", "forgetWay", "()V"⟩, 7), (⟨"StageCube", "walkStage", "(I)V"⟩, 7), (⟨"StageCube", "knownStage", "(I)LStageCube$Stage;"⟩, 7), (⟨"StageCube$Stage", "readStart", "(LStageCube$Cube;)I"⟩, 7), (⟨"StageCube$Pairings", "partner", "(I)I"⟩, 6), (⟨"StageCube$Places", "position", "(I)I"⟩, 5), (⟨"StageCube$Stage", "stateAt", "(I)I"⟩, 7), (⟨"StageCube$Stage", "prepare", "()V"⟩, 7), (⟨"StageCube$Stage", "spreadFromGoal", "()V"⟩, 7), (⟨"StageCube$Stage", "store", "(II)V"⟩, 7), (⟨"StageCube$Stage", "spread", "(I[II)I"⟩, 7), (⟨"StageCube$Stage", "stored", "(I)I"⟩, 7), (⟨"StageCube$Stage", "showState", "(I)V"⟩, 7), (⟨"StageCube$Stage", "copyDown", "(I)V"⟩, 7), (⟨"StageCube$Stage", "turnsOf", "(I)I"⟩, 7), (⟨"StageCube$Stage", "advance", "(II)V"⟩, 7)]
theorem lw_r1 : ∀ q ∈ lw_privs_1, lw_okq q := List.forall_mem_cons.mpr ⟨lw_p0, List.forall_mem_cons.mpr ⟨lw_p1, List.forall_mem_cons.mpr ⟨lw_p2, List.forall_mem_cons.mpr ⟨lw_p3, List.forall_mem_cons.mpr ⟨lw_p4, List.forall_mem_cons.mpr ⟨lw_p5, List.forall_mem_cons.mpr ⟨lw_p6, List.forall_mem_cons.mpr ⟨lw_p7, List.forall_mem_cons.mpr ⟨lw_p8, List.forall_mem_cons.mpr ⟨lw_p9, List.forall_mem_cons.mpr ⟨lw_p10, List.forall_mem_cons.mpr ⟨lw_p11, List.forall_mem_cons.mpr ⟨lw_p12, List.forall_mem_cons.mpr ⟨lw_p13, List.forall_mem_cons.mpr ⟨lw_p14, List.forall_mem_cons.mpr ⟨lw_p15, fun _ h => absurd h List.not_mem_nil⟩⟩⟩⟩⟩⟩⟩⟩⟩⟩⟩⟩⟩⟩⟩⟩
theorem lw_p16 : lw_okq (⟨"StageCube$Stage", "turnsToGoal", "(I)I"⟩, 7) := ⟨⟨by decide +kernel, by decide +kernel⟩, List.mem_of_getElem? (i := 205) (by decide +kernel), List.mem_of_getElem? (i := 468) (by decide +kernel), List.mem_of_getElem? (i := 469) (by decide +kernel)⟩
theorem lw_p17 : lw_okq (⟨"StageCube$Stage", "dive", "(III)Z"⟩, 7) := ⟨⟨by decide +kernel, by decide +kernel⟩, List.mem_of_getElem? (i := 205) (by decide +kernel), List.mem_of_getElem? (i := 472) (by decide +kernel), List.mem_of_getElem? (i := 473) (by decide +kernel)⟩
theorem lw_p18 : lw_okq (⟨"StageCube$Stage", "firstTurnOf", "(I)I"⟩, 7) := ⟨⟨by decide +kernel, by decide +kernel⟩, List.mem_of_getElem? (i := 205) (by decide +kernel), List.mem_of_getElem? (i := 479) (by decide +kernel), List.mem_of_getElem? (i := 480) (by decide +kernel)⟩
theorem lw_p19 : lw_okq (⟨"StageCubeModel", "face", "(IIIII)V"⟩, 38) := ⟨⟨by decide +kernel, by decide +kernel⟩, List.mem_of_getElem? (i := 496) (by decide +kernel), List.mem_of_getElem? (i := 506) (by decide +kernel), List.mem_of_getElem? (i := 507) (by decide +kernel)⟩
theorem lw_p20 : lw_okq (⟨"StageCubeModel", "bringHome", "()V"⟩, 38) := ⟨⟨by decide +kernel, by decide +kernel⟩, List.mem_of_getElem? (i := 496) (by decide +kernel), List.mem_of_getElem? (i := 513) (by decide +kernel), List.mem_of_getElem? (i := 514) (by decide +kernel)⟩
theorem lw_p21 : lw_okq (⟨"StageCubeModel", "look", "()V"⟩, 38) := ⟨⟨by decide +kernel, by decide +kernel⟩, List.mem_of_getElem? (i := 496) (by decide +kernel), List.mem_of_getElem? (i := 654) (by decide +kernel), List.mem_of_getElem? (i := 655) (by decide +kernel)⟩
theorem lw_p22 : lw_okq (⟨"StageCubeModel", "turnIt", "(I)V"⟩, 38) := ⟨⟨by decide +kernel, by decide +kernel⟩, List.mem_of_getElem? (i := 496) (by decide +kernel), List.mem_of_getElem? (i := 658) (by decide +kernel), List.mem_of_getElem? (i := 659) (by decide +kernel)⟩
theorem lw_p23 : lw_okq (⟨"StageCubeModel", "make", "()V"⟩, 38) := ⟨⟨by decide +kernel, by decide +kernel⟩, List.mem_of_getElem? (i := 496) (by decide +kernel), List.mem_of_getElem? (i := 675) (by decide +kernel), List.mem_of_getElem? (i := 676) (by decide +kernel)⟩
theorem lw_p24 : lw_okq (⟨"StageCubeModel", "makeFirst", "()V"⟩, 38) := ⟨⟨by decide +kernel, by decide +kernel⟩, List.mem_of_getElem? (i := 496) (by decide +kernel), List.mem_of_getElem? (i := 679) (by decide +kernel), List.mem_of_getElem? (i := 680) (by decide +kernel)⟩
theorem lw_p25 : lw_okq (⟨"StageCubeModel", "makeNumbers", "()V"⟩, 38) := ⟨⟨by decide +kernel, by decide +kernel⟩, List.mem_of_getElem? (i := 496) (by decide +kernel), List.mem_of_getElem? (i := 683) (by decide +kernel), List.mem_of_getElem? (i := 684) (by decide +kernel)⟩
theorem lw_p26 : lw_okq (⟨"StageCubeModel", "makeSecond", "()V"⟩, 38) := ⟨⟨by decide +kernel, by decide +kernel⟩, List.mem_of_getElem? (i := 496) (by decide +kernel), List.mem_of_getElem? (i := 690) (by decide +kernel), List.mem_of_getElem? (i := 691) (by decide +kernel)⟩
theorem lw_p27 : lw_okq (⟨"StageCubeModel", "maskBy", "(III)I"⟩, 38) := ⟨⟨by decide +kernel, by decide +kernel⟩, List.mem_of_getElem? (i := 496) (by decide +kernel), List.mem_of_getElem? (i := 694) (by decide +kernel), List.mem_of_getElem? (i := 695) (by decide +kernel)⟩
theorem lw_p28 : lw_okq (⟨"StageCubeModel", "spread2", "(II)Z"⟩, 38) := ⟨⟨by decide +kernel, by decide +kernel⟩, List.mem_of_getElem? (i := 496) (by decide +kernel), List.mem_of_getElem? (i := 698) (by decide +kernel), List.mem_of_getElem? (i := 699) (by decide +kernel)⟩
theorem lw_p29 : lw_okq (⟨"StageCubeModel", "makeKinds", "()V"⟩, 38) := ⟨⟨by decide +kernel, by decide +kernel⟩, List.mem_of_getElem? (i := 496) (by decide +kernel), List.mem_of_getElem? (i := 705) (by decide +kernel), List.mem_of_getElem? (i := 706) (by decide +kernel)⟩
theorem lw_p30 : lw_okq (⟨"StageCubeModel", "unrank", "(II)V"⟩, 38) := ⟨⟨by decide +kernel, by decide +kernel⟩, List.mem_of_getElem? (i := 496) (by decide +kernel), List.mem_of_getElem? (i := 709) (by decide +kernel), List.mem_of_getElem? (i := 710) (by decide +kernel)⟩
theorem lw_p31 : lw_okq (⟨"StageCubeModel", "turnRow", "(I)V"⟩, 38) := ⟨⟨by decide +kernel, by decide +kernel⟩, List.mem_of_getElem? (i := 496) (by decide +kernel), List.mem_of_getElem? (i := 713) (by decide +kernel), List.mem_of_getElem? (i := 714) (by decide +kernel)⟩
def lw_privs_2 : List (MethodName × Nat) := [(⟨"StageCube$Stage", "turnsToGoal", "(I)I"⟩, 7), (⟨"StageCube$Stage", "dive", "(III)Z"⟩, 7), (⟨"StageCube$Stage", "firstTurnOf", "(I)I"⟩, 7), (⟨"StageCubeModel", "face", "(IIIII)V"⟩, 38), (⟨"StageCubeModel", "bringHome", "()V"⟩, 38), (⟨"StageCubeModel", "look", "()V"⟩, 38), (⟨"StageCubeModel", "turnIt", "(I)V"⟩, 38), (⟨"StageCubeModel", "make", "()V"⟩, 38), (⟨"StageCubeModel", "makeFirst", "()V"⟩, 38), (⟨"StageCubeModel", "makeNumbers", "()V"⟩, 38), (⟨"StageCubeModel", "makeSecond", "()V"⟩, 38), (⟨"StageCubeModel", "maskBy", "(III)I"⟩, 38), (⟨"StageCubeModel", "spread2", "(II)Z"⟩, 38), (⟨"StageCubeModel", "makeKinds", "()V"⟩, 38), (⟨"StageCubeModel", "unrank", "(II)V"⟩, 38), (⟨"StageCubeModel", "turnRow", "(I)V"⟩, 38)]
theorem lw_r2 : ∀ q ∈ lw_privs_2, lw_okq q := List.forall_mem_cons.mpr ⟨lw_p16, List.forall_mem_cons.mpr ⟨lw_p17, List.forall_mem_cons.mpr ⟨lw_p18, List.forall_mem_cons.mpr ⟨lw_p19, List.forall_mem_cons.mpr ⟨lw_p20, List.forall_mem_cons.mpr ⟨lw_p21, List.forall_mem_cons.mpr ⟨lw_p22, List.forall_mem_cons.mpr ⟨lw_p23, List.forall_mem_cons.mpr ⟨lw_p24, List.forall_mem_cons.mpr ⟨lw_p25, List.forall_mem_cons.mpr ⟨lw_p26, List.forall_mem_cons.mpr ⟨lw_p27, List.forall_mem_cons.mpr ⟨lw_p28, List.forall_mem_cons.mpr ⟨lw_p29, List.forall_mem_cons.mpr ⟨lw_p30, List.forall_mem_cons.mpr ⟨lw_p31, fun _ h => absurd h List.not_mem_nil⟩⟩⟩⟩⟩⟩⟩⟩⟩⟩⟩⟩⟩⟩⟩⟩
theorem lw_p32 : lw_okq (⟨"StageCubeModel", "rank", "(I)I"⟩, 38) := ⟨⟨by decide +kernel, by decide +kernel⟩, List.mem_of_getElem? (i := 496) (by decide +kernel), List.mem_of_getElem? (i := 717) (by decide +kernel), List.mem_of_getElem? (i := 718) (by decide +kernel)⟩
theorem lw_p33 : lw_okq (⟨"StageCubeModel", "nameKind", "(II)V"⟩, 38) := ⟨⟨by decide +kernel, by decide +kernel⟩, List.mem_of_getElem? (i := 496) (by decide +kernel), List.mem_of_getElem? (i := 721) (by decide +kernel), List.mem_of_getElem? (i := 722) (by decide +kernel)⟩
theorem lw_p34 : lw_okq (⟨"StageCubeModel", "makeThird", "()V"⟩, 38) := ⟨⟨by decide +kernel, by decide +kernel⟩, List.mem_of_getElem? (i := 496) (by decide +kernel), List.mem_of_getElem? (i := 725) (by decide +kernel), List.mem_of_getElem? (i := 726) (by decide +kernel)⟩
theorem lw_p35 : lw_okq (⟨"StageCubeModel", "makeFourth", "()V"⟩, 38) := ⟨⟨by decide +kernel, by decide +kernel⟩, List.mem_of_getElem? (i := 496) (by decide +kernel), List.mem_of_getElem? (i := 729) (by decide +kernel), List.mem_of_getElem? (i := 730) (by decide +kernel)⟩
theorem lw_p36 : lw_okq (⟨"StageCubeModel", "spread4", "(II)Z"⟩, 38) := ⟨⟨by decide +kernel, by decide +kernel⟩, List.mem_of_getElem? (i := 496) (by decide +kernel), List.mem_of_getElem? (i := 733) (by decide +kernel), List.mem_of_getElem? (i := 734) (by decide +kernel)⟩
theorem lw_p37 : lw_okq (⟨"StageCubeModel", "walk", "(I)V"⟩, 38) := ⟨⟨by decide +kernel, by decide +kernel⟩, List.mem_of_getElem? (i := 496) (by decide +kernel), List.mem_of_getElem? (i := 737) (by decide +kernel), List.mem_of_getElem? (i := 738) (by decide +kernel)⟩
theorem lw_p38 : lw_okq (⟨"StageCubeModel", "far", "(I)I"⟩, 38) := ⟨⟨by decide +kernel, by decide +kernel⟩, List.mem_of_getElem? (i := 496) (by decide +kernel), List.mem_of_getElem? (i := 741) (by decide +kernel), List.mem_of_getElem? (i := 742) (by decide +kernel)⟩
def lw_privs_3 : List (MethodName × Nat) := [(⟨"StageCubeModel", "rank", "(I)I"⟩, 38), (⟨"StageCubeModel", "nameKind", "(II)V"⟩, 38), (⟨"StageCubeModel", "makeThird", "()V"⟩, 38), (⟨"StageCubeModel", "makeFourth", "()V"⟩, 38), (⟨"StageCubeModel", "spread4", "(II)Z"⟩, 38), (⟨"StageCubeModel", "walk", "(I)V"⟩, 38), (⟨"StageCubeModel", "far", "(I)I"⟩, 38)]
theorem lw_r3 : ∀ q ∈ lw_privs_3, lw_okq q := List.forall_mem_cons.mpr ⟨lw_p32, List.forall_mem_cons.mpr ⟨lw_p33, List.forall_mem_cons.mpr ⟨lw_p34, List.forall_mem_cons.mpr ⟨lw_p35, List.forall_mem_cons.mpr ⟨lw_p36, List.forall_mem_cons.mpr ⟨lw_p37, List.forall_mem_cons.mpr ⟨lw_p38, fun _ h => absurd h List.not_mem_nil⟩⟩⟩⟩⟩⟩⟩
def lw_privs : List (MethodName × Nat) := lw_privs_1 ++ (lw_privs_2 ++ (lw_privs_3))
def lw_tbl : List Cond := k2_sels lw_privs ++ tables_1
theorem lw_privs_ok : ∀ q ∈ lw_privs, lw_okq q := by
  show ∀ q ∈ lw_privs_1 ++ (lw_privs_2 ++ (lw_privs_3)), lw_okq q
  exact List.forall_mem_append.mpr ⟨lw_r1, List.forall_mem_append.mpr ⟨lw_r2, lw_r3⟩⟩
-- ===== end of PART A; then your names; then what follows =====
end
section
/-! ===== BEGIN words of one list among another's, by their places ===== -/
theorem goodIn_r {big : List Cond} (ws : List Cond) (ps : List Nat) (hp : ws = ps.filterMap (fun i => big[i]?)) (h : ws.all goodWord = true) : GoodIn big ws := by
  intro w hw
  have h1 := List.all_eq_true.mp h w hw
  rw [hp] at hw
  obtain ⟨i, -, hi⟩ := List.mem_filterMap.mp hw
  have hm : w ∈ big := by first | exact List.mem_of_getElem? hi | exact List.getElem?_mem hi
  exact ⟨hm, good_of_word h1⟩
theorem goodIn_app {big a b : List Cond} (ha : GoodIn big a) (hb : GoodIn big b) : GoodIn big (a ++ b) := fun w h => (List.mem_append.mp h).elim (ha w) (hb w)
theorem goodIn_ca {big a b : List Cond} {c : Cond} (ha : GoodIn big (c :: a)) (hb : GoodIn big b) : GoodIn big (c :: (a ++ b)) := fun w h => (List.mem_cons.mp h).elim (fun e => ha w (List.mem_cons.mpr (Or.inl e))) (fun h => (List.mem_append.mp h).elim (fun h => ha w (List.mem_cons.mpr (Or.inr h))) (hb w))
theorem goodIn_sub {big ws : List Cond} (hm : ∀ w ∈ ws, w ∈ big) (h : ws.all goodWord = true) : GoodIn big ws := fun w hw => ⟨hm w hw, good_of_word (List.all_eq_true.mp h w hw)⟩
/-! ===== END ===== -/

/-! ===== BEGIN printed: names, fields, word lists, decode rows ===== -/
def RX0 : String := "StageCube$CornerOrders"
def TX0 : u_T := fun k => match k with
  | 0 => ("StageCube$Feature", "ofCorners", "Z", true)
  | 1 => ("StageCube$Feature", "size", "I", true)
  | 2 => ("StageCube$Feature", "next", "[I", false)
  | _ => ("StageCube$CornerOrders", "order", "[I", true)
def tyX0 : Nat → FieldType := fun k => match k with
  | 0 => .boolean
  | 1 => .int
  | 2 => .array .int
  | _ => .array .int
abbrev wsX00 : List Cond := u_ws RX0 TX0 4
theorem nmX0 : ∀ a, a < 4 → ∀ b, b < 4 → a ≠ b → (TX0 a).2.1 ≠ (TX0 b).2.1 := by decide +kernel
theorem tyX0_ok : ∀ k, k < 4 → parseFieldDescriptor (TX0 k).2.2.1 = some (tyX0 k) := by decide +kernel
abbrev cX0_init : ByteArray := prog_2_method_1_code
def yX0_init : MethodName := ⟨RX0, "<init>", "()V"⟩
abbrev cX0_read : ByteArray := prog_2_method_2_code
def yX0_read : MethodName := ⟨RX0, "read", "(LStageCube$Pieces;)I"⟩
abbrev cX0_show : ByteArray := prog_2_method_3_code
def yX0_show : MethodName := ⟨RX0, "show", "(ILStageCube$Pieces;)V"⟩
def RX1 : String := "StageCube$Cube"
def TX1 : u_T := fun k => match k with
  | 0 => ("StageCube$Cube", "corners", "LStageCube$Pieces;", true)
  | _ => ("StageCube$Cube", "edges", "LStageCube$Pieces;", true)
def tyX1 : Nat → FieldType := fun k => match k with
  | 0 => .object "StageCube$Pieces"
  | _ => .object "StageCube$Pieces"
abbrev wsX10 : List Cond := u_ws RX1 TX1 2
theorem nmX1 : ∀ a, a < 2 → ∀ b, b < 2 → a ≠ b → (TX1 a).2.1 ≠ (TX1 b).2.1 := by decide +kernel
theorem tyX1_ok : ∀ k, k < 2 → parseFieldDescriptor (TX1 k).2.2.1 = some (tyX1 k) := by decide +kernel
abbrev cX1_init : ByteArray := prog_3_method_1_code
def yX1_init : MethodName := ⟨RX1, "<init>", "()V"⟩
abbrev cX1_reset : ByteArray := prog_3_method_2_code
def yX1_reset : MethodName := ⟨RX1, "reset", "()V"⟩
abbrev cX1_copyFrom : ByteArray := prog_3_method_3_code
def yX1_copyFrom : MethodName := ⟨RX1, "copyFrom", "(LStageCube$Cube;)V"⟩
abbrev cX1_make : ByteArray := prog_3_method_4_code
def yX1_make : MethodName := ⟨RX1, "make", "(I)V"⟩
def RX2 : String := "StageCube$Feature"
def TX2 : u_T := fun k => match k with
  | _ => ("", "", "", false)
def tyX2 : Nat → FieldType := fun k => match k with
  | _ => .int
abbrev wsX20 : List Cond := u_ws RX2 TX2 0
theorem nmX2 : ∀ a, a < 0 → ∀ b, b < 0 → a ≠ b → (TX2 a).2.1 ≠ (TX2 b).2.1 := by decide +kernel
theorem tyX2_ok : ∀ k, k < 0 → parseFieldDescriptor (TX2 k).2.2.1 = some (tyX2 k) := by decide +kernel
abbrev cX2_init : ByteArray := prog_4_method_1_code
def yX2_init : MethodName := ⟨RX2, "<init>", "(ZI)V"⟩
abbrev cX2_readFrom : ByteArray := prog_4_method_4_code
def yX2_readFrom : MethodName := ⟨RX2, "readFrom", "(LStageCube$Cube;)I"⟩
abbrev cX2_learn : ByteArray := prog_4_method_5_code
def yX2_learn : MethodName := ⟨RX2, "learn", "(I)V"⟩
def RX3 : String := "StageCube$Marks"
def TX3 : u_T := fun k => match k with
  | 0 => ("StageCube$Feature", "ofCorners", "Z", true)
  | 1 => ("StageCube$Feature", "size", "I", true)
  | _ => ("StageCube$Feature", "next", "[I", false)
def tyX3 : Nat → FieldType := fun k => match k with
  | 0 => .boolean
  | 1 => .int
  | _ => .array .int
abbrev wsX30 : List Cond := u_ws RX3 TX3 3
theorem nmX3 : ∀ a, a < 3 → ∀ b, b < 3 → a ≠ b → (TX3 a).2.1 ≠ (TX3 b).2.1 := by decide +kernel
theorem tyX3_ok : ∀ k, k < 3 → parseFieldDescriptor (TX3 k).2.2.1 = some (tyX3 k) := by decide +kernel
abbrev cX3_init : ByteArray := prog_5_method_1_code
def yX3_init : MethodName := ⟨RX3, "<init>", "(Z)V"⟩
abbrev cX3_read : ByteArray := prog_5_method_2_code
def yX3_read : MethodName := ⟨RX3, "read", "(LStageCube$Pieces;)I"⟩
abbrev cX3_show : ByteArray := prog_5_method_3_code
def yX3_show : MethodName := ⟨RX3, "show", "(ILStageCube$Pieces;)V"⟩
def RX4 : String := "StageCube$Numbering"
def TX4 : u_T := fun k => match k with
  | _ => ("", "", "", false)
def tyX4 : Nat → FieldType := fun k => match k with
  | _ => .int
abbrev wsX40 : List Cond := u_ws RX4 TX4 0
theorem nmX4 : ∀ a, a < 0 → ∀ b, b < 0 → a ≠ b → (TX4 a).2.1 ≠ (TX4 b).2.1 := by decide +kernel
theorem tyX4_ok : ∀ k, k < 0 → parseFieldDescriptor (TX4 k).2.2.1 = some (tyX4 k) := by decide +kernel
abbrev cX4_ofSet : ByteArray := prog_6_method_2_code
def yX4_ofSet : MethodName := ⟨RX4, "ofSet", "(II)I"⟩
abbrev cX4_toSet : ByteArray := prog_6_method_3_code
def yX4_toSet : MethodName := ⟨RX4, "toSet", "(II)I"⟩
abbrev cX4_ofOrder : ByteArray := prog_6_method_4_code
def yX4_ofOrder : MethodName := ⟨RX4, "ofOrder", "(IIII)I"⟩
abbrev cX4_toOrder : ByteArray := prog_6_method_5_code
def yX4_toOrder : MethodName := ⟨RX4, "toOrder", "(I[I)V"⟩
def RX5 : String := "StageCube$Orders"
def TX5 : u_T := fun k => match k with
  | 0 => ("StageCube$Feature", "ofCorners", "Z", true)
  | 1 => ("StageCube$Feature", "size", "I", true)
  | 2 => ("StageCube$Feature", "next", "[I", false)
  | 3 => ("StageCube$Orders", "first", "I", true)
  | _ => ("StageCube$Orders", "order", "[I", true)
def tyX5 : Nat → FieldType := fun k => match k with
  | 0 => .boolean
  | 1 => .int
  | 2 => .array .int
  | 3 => .int
  | _ => .array .int
abbrev wsX50 : List Cond := u_ws RX5 TX5 5
theorem nmX5 : ∀ a, a < 5 → ∀ b, b < 5 → a ≠ b → (TX5 a).2.1 ≠ (TX5 b).2.1 := by decide +kernel
theorem tyX5_ok : ∀ k, k < 5 → parseFieldDescriptor (TX5 k).2.2.1 = some (tyX5 k) := by decide +kernel
abbrev cX5_init : ByteArray := prog_7_method_1_code
def yX5_init : MethodName := ⟨RX5, "<init>", "(I)V"⟩
abbrev cX5_read : ByteArray := prog_7_method_2_code
def yX5_read : MethodName := ⟨RX5, "read", "(LStageCube$Pieces;)I"⟩
abbrev cX5_show : ByteArray := prog_7_method_3_code
def yX5_show : MethodName := ⟨RX5, "show", "(ILStageCube$Pieces;)V"⟩
def RX6 : String := "StageCube$Pairings"
def TX6 : u_T := fun k => match k with
  | 0 => ("StageCube$Feature", "ofCorners", "Z", true)
  | 1 => ("StageCube$Feature", "size", "I", true)
  | 2 => ("StageCube$Feature", "next", "[I", false)
  | 3 => ("StageCube$Pairings", "evens", "[I", true)
  | 4 => ("StageCube$Pairings", "odds", "[I", true)
  | _ => ("StageCube$Pairings", "order", "[I", true)
def tyX6 : Nat → FieldType := fun k => match k with
  | 0 => .boolean
  | 1 => .int
  | 2 => .array .int
  | 3 => .array .int
  | 4 => .array .int
  | _ => .array .int
abbrev wsX60 : List Cond := u_ws RX6 TX6 6
theorem nmX6 : ∀ a, a < 6 → ∀ b, b < 6 → a ≠ b → (TX6 a).2.1 ≠ (TX6 b).2.1 := by decide +kernel
theorem tyX6_ok : ∀ k, k < 6 → parseFieldDescriptor (TX6 k).2.2.1 = some (tyX6 k) := by decide +kernel
abbrev cX6_init : ByteArray := prog_8_method_1_code
def yX6_init : MethodName := ⟨RX6, "<init>", "()V"⟩
abbrev cX6_read : ByteArray := prog_8_method_2_code
def yX6_read : MethodName := ⟨RX6, "read", "(LStageCube$Pieces;)I"⟩
abbrev cX6_partner : ByteArray := prog_8_method_3_code
def yX6_partner : MethodName := ⟨RX6, "partner", "(I)I"⟩
abbrev cX6_show : ByteArray := prog_8_method_4_code
def yX6_show : MethodName := ⟨RX6, "show", "(ILStageCube$Pieces;)V"⟩
def RX7 : String := "StageCube$Pieces"
def TX7 : u_T := fun k => match k with
  | 0 => ("StageCube$Pieces", "count", "I", true)
  | 1 => ("StageCube$Pieces", "marks", "I", true)
  | 2 => ("StageCube$Pieces", "piece", "[I", true)
  | 3 => ("StageCube$Pieces", "mark", "[I", true)
  | 4 => ("StageCube$Pieces", "round", "[I", true)
  | _ => ("StageCube$Pieces", "gain", "[I", true)
def tyX7 : Nat → FieldType := fun k => match k with
  | 0 => .int
  | 1 => .int
  | 2 => .array .int
  | 3 => .array .int
  | 4 => .array .int
  | _ => .array .int
abbrev wsX70 : List Cond := u_ws RX7 TX7 6
theorem nmX7 : ∀ a, a < 6 → ∀ b, b < 6 → a ≠ b → (TX7 a).2.1 ≠ (TX7 b).2.1 := by decide +kernel
theorem tyX7_ok : ∀ k, k < 6 → parseFieldDescriptor (TX7 k).2.2.1 = some (tyX7 k) := by decide +kernel
abbrev cX7_init : ByteArray := prog_9_method_1_code
def yX7_init : MethodName := ⟨RX7, "<init>", "(Z)V"⟩
abbrev cX7_reset : ByteArray := prog_9_method_2_code
def yX7_reset : MethodName := ⟨RX7, "reset", "()V"⟩
abbrev cX7_copyFrom : ByteArray := prog_9_method_3_code
def yX7_copyFrom : MethodName := ⟨RX7, "copyFrom", "(LStageCube$Pieces;)V"⟩
abbrev cX7_put : ByteArray := prog_9_method_4_code
def yX7_put : MethodName := ⟨RX7, "put", "(III)Z"⟩
abbrev cX7_describe : ByteArray := prog_9_method_5_code
def yX7_describe : MethodName := ⟨RX7, "describe", "(I)I"⟩
abbrev cX7_isNumber : ByteArray := prog_9_method_6_code
def yX7_isNumber : MethodName := ⟨RX7, "isNumber", "(II)Z"⟩
abbrev cX7_quarter : ByteArray := prog_9_method_7_code
def yX7_quarter : MethodName := ⟨RX7, "quarter", "(I)V"⟩
abbrev cX7_atHome : ByteArray := prog_9_method_8_code
def yX7_atHome : MethodName := ⟨RX7, "atHome", "()Z"⟩
abbrev cX7_allThere : ByteArray := prog_9_method_9_code
def yX7_allThere : MethodName := ⟨RX7, "allThere", "()Z"⟩
abbrev cX7_marksCancel : ByteArray := prog_9_method_10_code
def yX7_marksCancel : MethodName := ⟨RX7, "marksCancel", "()Z"⟩
abbrev cX7_oddlySwapped : ByteArray := prog_9_method_11_code
def yX7_oddlySwapped : MethodName := ⟨RX7, "oddlySwapped", "()Z"⟩
def RX8 : String := "StageCube$Places"
def TX8 : u_T := fun k => match k with
  | 0 => ("StageCube$Feature", "ofCorners", "Z", true)
  | 1 => ("StageCube$Feature", "size", "I", true)
  | 2 => ("StageCube$Feature", "next", "[I", false)
  | 3 => ("StageCube$Places", "family", "I", true)
  | _ => ("StageCube$Places", "positions", "I", true)
def tyX8 : Nat → FieldType := fun k => match k with
  | 0 => .boolean
  | 1 => .int
  | 2 => .array .int
  | 3 => .int
  | _ => .int
abbrev wsX80 : List Cond := u_ws RX8 TX8 5
theorem nmX8 : ∀ a, a < 5 → ∀ b, b < 5 → a ≠ b → (TX8 a).2.1 ≠ (TX8 b).2.1 := by decide +kernel
theorem tyX8_ok : ∀ k, k < 5 → parseFieldDescriptor (TX8 k).2.2.1 = some (tyX8 k) := by decide +kernel
abbrev cX8_init : ByteArray := prog_10_method_1_code
def yX8_init : MethodName := ⟨RX8, "<init>", "(II)V"⟩
abbrev cX8_read : ByteArray := prog_10_method_2_code
def yX8_read : MethodName := ⟨RX8, "read", "(LStageCube$Pieces;)I"⟩
abbrev cX8_show : ByteArray := prog_10_method_3_code
def yX8_show : MethodName := ⟨RX8, "show", "(ILStageCube$Pieces;)V"⟩
abbrev cX8_position : ByteArray := prog_10_method_4_code
def yX8_position : MethodName := ⟨RX8, "position", "(I)I"⟩
def RX9 : String := "StageCube$Stage"
def TX9 : u_T := fun k => match k with
  | 0 => ("StageCube$Stage", "way", "[I", true)
  | 1 => ("StageCube$Stage", "facesWithQuarters", "I", true)
  | 2 => ("StageCube$Stage", "reach", "I", true)
  | 3 => ("StageCube$Stage", "queueLength", "I", true)
  | 4 => ("StageCube$Stage", "features", "[LStageCube$Feature;", true)
  | 5 => ("StageCube$Stage", "numbers", "[I", true)
  | _ => ("StageCube$Stage", "near", "[J", false)
def tyX9 : Nat → FieldType := fun k => match k with
  | 0 => .array .int
  | 1 => .int
  | 2 => .int
  | 3 => .int
  | 4 => .array (.object "StageCube$Feature")
  | 5 => .array .int
  | _ => .array .long
abbrev wsX90 : List Cond := u_ws RX9 TX9 7
theorem nmX9 : ∀ a, a < 7 → ∀ b, b < 7 → a ≠ b → (TX9 a).2.1 ≠ (TX9 b).2.1 := by decide +kernel
theorem tyX9_ok : ∀ k, k < 7 → parseFieldDescriptor (TX9 k).2.2.1 = some (tyX9 k) := by decide +kernel
abbrev cX9_init : ByteArray := prog_11_method_1_code
def yX9_init : MethodName := ⟨RX9, "<init>", "(III[LStageCube$Feature;)V"⟩
abbrev cX9_find : ByteArray := prog_11_method_2_code
def yX9_find : MethodName := ⟨RX9, "find", "(LStageCube$Cube;)I"⟩
abbrev cX9_readStart : ByteArray := prog_11_method_3_code
def yX9_readStart : MethodName := ⟨RX9, "readStart", "(LStageCube$Cube;)I"⟩
abbrev cX9_dive : ByteArray := prog_11_method_4_code
def yX9_dive : MethodName := ⟨RX9, "dive", "(III)Z"⟩
abbrev cX9_isNeedless : ByteArray := prog_11_method_5_code
def yX9_isNeedless : MethodName := ⟨RX9, "isNeedless", "(II)Z"⟩
abbrev cX9_turnsOf : ByteArray := prog_11_method_6_code
def yX9_turnsOf : MethodName := ⟨RX9, "turnsOf", "(I)I"⟩
abbrev cX9_firstTurnOf : ByteArray := prog_11_method_7_code
def yX9_firstTurnOf : MethodName := ⟨RX9, "firstTurnOf", "(I)I"⟩
abbrev cX9_copyDown : ByteArray := prog_11_method_8_code
def yX9_copyDown : MethodName := ⟨RX9, "copyDown", "(I)V"⟩
abbrev cX9_advance : ByteArray := prog_11_method_9_code
def yX9_advance : MethodName := ⟨RX9, "advance", "(II)V"⟩
abbrev cX9_stateAt : ByteArray := prog_11_method_10_code
def yX9_stateAt : MethodName := ⟨RX9, "stateAt", "(I)I"⟩
abbrev cX9_showState : ByteArray := prog_11_method_11_code
def yX9_showState : MethodName := ⟨RX9, "showState", "(I)V"⟩
abbrev cX9_turnsToGoal : ByteArray := prog_11_method_12_code
def yX9_turnsToGoal : MethodName := ⟨RX9, "turnsToGoal", "(I)I"⟩
abbrev cX9_stored : ByteArray := prog_11_method_13_code
def yX9_stored : MethodName := ⟨RX9, "stored", "(I)I"⟩
abbrev cX9_store : ByteArray := prog_11_method_14_code
def yX9_store : MethodName := ⟨RX9, "store", "(II)V"⟩
abbrev cX9_prepare : ByteArray := prog_11_method_15_code
def yX9_prepare : MethodName := ⟨RX9, "prepare", "()V"⟩
abbrev cX9_spreadFromGoal : ByteArray := prog_11_method_16_code
def yX9_spreadFromGoal : MethodName := ⟨RX9, "spreadFromGoal", "()V"⟩
abbrev cX9_spread : ByteArray := prog_11_method_17_code
def yX9_spread : MethodName := ⟨RX9, "spread", "(I[II)I"⟩
def RX10 : String := "StageCube"
def TX10 : u_T := fun k => match k with
  | 0 => ("StageCube", "cube", "LStageCube$Cube;", true)
  | 1 => ("StageCube", "walker", "LStageCube$Cube;", true)
  | 2 => ("StageCube", "stages", "[LStageCube$Stage;", true)
  | 3 => ("StageCube", "lengths", "[I", true)
  | 4 => ("StageCube", "steps", "[I", true)
  | 5 => ("StageCube", "stepCount", "I", false)
  | _ => ("StageCube", "turnsSinceHome", "I", false)
def tyX10 : Nat → FieldType := fun k => match k with
  | 0 => .object "StageCube$Cube"
  | 1 => .object "StageCube$Cube"
  | 2 => .array (.object "StageCube$Stage")
  | 3 => .array .int
  | 4 => .array .int
  | 5 => .int
  | _ => .int
abbrev wsX100 : List Cond := u_ws RX10 TX10 7
theorem nmX10 : ∀ a, a < 7 → ∀ b, b < 7 → a ≠ b → (TX10 a).2.1 ≠ (TX10 b).2.1 := by decide +kernel
theorem tyX10_ok : ∀ k, k < 7 → parseFieldDescriptor (TX10 k).2.2.1 = some (tyX10 k) := by decide +kernel
abbrev cX10_init : ByteArray := prog_1_method_1_code
def yX10_init : MethodName := ⟨RX10, "<init>", "()V"⟩
abbrev cX10_corner : ByteArray := prog_1_method_2_code
def yX10_corner : MethodName := ⟨RX10, "corner", "(III)I"⟩
abbrev cX10_edge : ByteArray := prog_1_method_3_code
def yX10_edge : MethodName := ⟨RX10, "edge", "(III)I"⟩
abbrev cX10_at : ByteArray := prog_1_method_4_code
def yX10_at : MethodName := ⟨RX10, "at", "(II)I"⟩
abbrev cX10_lawful : ByteArray := prog_1_method_5_code
def yX10_lawful : MethodName := ⟨RX10, "lawful", "()I"⟩
abbrev cX10_turn : ByteArray := prog_1_method_6_code
def yX10_turn : MethodName := ⟨RX10, "turn", "(I)I"⟩
abbrev cX10_home : ByteArray := prog_1_method_7_code
def yX10_home : MethodName := ⟨RX10, "home", "()I"⟩
abbrev cX10_isHome : ByteArray := prog_1_method_8_code
def yX10_isHome : MethodName := ⟨RX10, "isHome", "()I"⟩
abbrev cX10_solve : ByteArray := prog_1_method_9_code
def yX10_solve : MethodName := ⟨RX10, "solve", "()I"⟩
abbrev cX10_stage : ByteArray := prog_1_method_10_code
def yX10_stage : MethodName := ⟨RX10, "stage", "(I)I"⟩
abbrev cX10_step : ByteArray := prog_1_method_11_code
def yX10_step : MethodName := ⟨RX10, "step", "(I)I"⟩
abbrev cX10_flips : ByteArray := prog_1_method_12_code
def yX10_flips : MethodName := ⟨RX10, "flips", "()I"⟩
abbrev cX10_forgetWay : ByteArray := prog_1_method_13_code
def yX10_forgetWay : MethodName := ⟨RX10, "forgetWay", "()V"⟩
abbrev cX10_walkStage : ByteArray := prog_1_method_14_code
def yX10_walkStage : MethodName := ⟨RX10, "walkStage", "(I)V"⟩
abbrev cX10_knownStage : ByteArray := prog_1_method_15_code
def yX10_knownStage : MethodName := ⟨RX10, "knownStage", "(I)LStageCube$Stage;"⟩
abbrev cX10_newStage : ByteArray := prog_1_method_16_code
def yX10_newStage : MethodName := ⟨RX10, "newStage", "(I)LStageCube$Stage;"⟩
def RX11 : String := "StageCubeModel"
def TX11 : u_T := fun k => match k with
  | 0 => ("StageCubeModel", "corners", "[I", true)
  | 1 => ("StageCubeModel", "twists", "[I", true)
  | 2 => ("StageCubeModel", "edges", "[I", true)
  | 3 => ("StageCubeModel", "flips", "[I", true)
  | 4 => ("StageCubeModel", "c", "[I", true)
  | 5 => ("StageCubeModel", "tw", "[I", true)
  | 6 => ("StageCubeModel", "e", "[I", true)
  | 7 => ("StageCubeModel", "fl", "[I", true)
  | 8 => ("StageCubeModel", "old", "[I", true)
  | 9 => ("StageCubeModel", "oldMore", "[I", true)
  | 10 => ("StageCubeModel", "cornerFrom", "[I", true)
  | 11 => ("StageCubeModel", "cornerMore", "[I", true)
  | 12 => ("StageCubeModel", "edgeFrom", "[I", true)
  | 13 => ("StageCubeModel", "edgeMore", "[I", true)
  | 14 => ("StageCubeModel", "turned", "I", false)
  | 15 => ("StageCubeModel", "hasWay", "Z", false)
  | 16 => ("StageCubeModel", "steps", "I", false)
  | 17 => ("StageCubeModel", "way", "[I", true)
  | 18 => ("StageCubeModel", "lengths", "[I", true)
  | 19 => ("StageCubeModel", "made", "Z", false)
  | 20 => ("StageCubeModel", "near1", "[B", true)
  | 21 => ("StageCubeModel", "near2", "[B", true)
  | 22 => ("StageCubeModel", "near3", "[B", true)
  | 23 => ("StageCubeModel", "near4", "[B", true)
  | 24 => ("StageCubeModel", "maskOf", "[S", true)
  | 25 => ("StageCubeModel", "maskAt", "[S", true)
  | 26 => ("StageCubeModel", "halfOf", "[S", true)
  | 27 => ("StageCubeModel", "halfAt", "[S", true)
  | 28 => ("StageCubeModel", "kindOf", "[S", true)
  | 29 => ("StageCubeModel", "kindAt", "[I", true)
  | 30 => ("StageCubeModel", "squareOf", "[S", true)
  | 31 => ("StageCubeModel", "squareAt", "[I", true)
  | 32 => ("StageCubeModel", "move1", "[I", true)
  | 33 => ("StageCubeModel", "move2", "[I", true)
  | 34 => ("StageCubeModel", "move3", "[I", true)
  | 35 => ("StageCubeModel", "move4", "[I", true)
  | 36 => ("StageCubeModel", "row", "[I", true)
  | _ => ("StageCubeModel", "other", "[I", true)
def tyX11 : Nat → FieldType := fun k => match k with
  | 0 => .array .int
  | 1 => .array .int
  | 2 => .array .int
  | 3 => .array .int
  | 4 => .array .int
  | 5 => .array .int
  | 6 => .array .int
  | 7 => .array .int
  | 8 => .array .int
  | 9 => .array .int
  | 10 => .array .int
  | 11 => .array .int
  | 12 => .array .int
  | 13 => .array .int
  | 14 => .int
  | 15 => .boolean
  | 16 => .int
  | 17 => .array .int
  | 18 => .array .int
  | 19 => .boolean
  | 20 => .array .byte
  | 21 => .array .byte
  | 22 => .array .byte
  | 23 => .array .byte
  | 24 => .array .short
  | 25 => .array .short
  | 26 => .array .short
  | 27 => .array .short
  | 28 => .array .short
  | 29 => .array .int
  | 30 => .array .short
  | 31 => .array .int
  | 32 => .array .int
  | 33 => .array .int
  | 34 => .array .int
  | 35 => .array .int
  | 36 => .array .int
  | _ => .array .int
abbrev wsX110 : List Cond := u_ws RX11 TX11 38
theorem nmX11 : ∀ a, a < 38 → ∀ b, b < 38 → a ≠ b → (TX11 a).2.1 ≠ (TX11 b).2.1 := by decide +kernel
theorem tyX11_ok : ∀ k, k < 38 → parseFieldDescriptor (TX11 k).2.2.1 = some (tyX11 k) := by decide +kernel
abbrev cX11_init : ByteArray := prog_13_method_1_code
def yX11_init : MethodName := ⟨RX11, "<init>", "()V"⟩
abbrev cX11_between : ByteArray := prog_13_method_2_code
def yX11_between : MethodName := ⟨RX11, "between", "(II)I"⟩
abbrev cX11_face : ByteArray := prog_13_method_3_code
def yX11_face : MethodName := ⟨RX11, "face", "(IIIII)V"⟩
abbrev cX11_bringHome : ByteArray := prog_13_method_4_code
def yX11_bringHome : MethodName := ⟨RX11, "bringHome", "()V"⟩
abbrev cX11_turnIt : ByteArray := prog_13_method_5_code
def yX11_turnIt : MethodName := ⟨RX11, "turnIt", "(I)V"⟩
abbrev cX11_look : ByteArray := prog_13_method_6_code
def yX11_look : MethodName := ⟨RX11, "look", "()V"⟩
abbrev cX11_corner : ByteArray := prog_13_method_7_code
def yX11_corner : MethodName := ⟨RX11, "corner", "(III)I"⟩
abbrev cX11_edge : ByteArray := prog_13_method_8_code
def yX11_edge : MethodName := ⟨RX11, "edge", "(III)I"⟩
abbrev cX11_at : ByteArray := prog_13_method_9_code
def yX11_at : MethodName := ⟨RX11, "at", "(II)I"⟩
abbrev cX11_lawful : ByteArray := prog_13_method_10_code
def yX11_lawful : MethodName := ⟨RX11, "lawful", "()I"⟩
abbrev cX11_turn : ByteArray := prog_13_method_11_code
def yX11_turn : MethodName := ⟨RX11, "turn", "(I)I"⟩
abbrev cX11_home : ByteArray := prog_13_method_12_code
def yX11_home : MethodName := ⟨RX11, "home", "()I"⟩
abbrev cX11_isHome : ByteArray := prog_13_method_13_code
def yX11_isHome : MethodName := ⟨RX11, "isHome", "()I"⟩
abbrev cX11_may : ByteArray := prog_13_method_14_code
def yX11_may : MethodName := ⟨RX11, "may", "(II)Z"⟩
abbrev cX11_rank : ByteArray := prog_13_method_15_code
def yX11_rank : MethodName := ⟨RX11, "rank", "(I)I"⟩
abbrev cX11_unrank : ByteArray := prog_13_method_16_code
def yX11_unrank : MethodName := ⟨RX11, "unrank", "(II)V"⟩
abbrev cX11_turnRow : ByteArray := prog_13_method_17_code
def yX11_turnRow : MethodName := ⟨RX11, "turnRow", "(I)V"⟩
abbrev cX11_maskBy : ByteArray := prog_13_method_18_code
def yX11_maskBy : MethodName := ⟨RX11, "maskBy", "(III)I"⟩
abbrev cX11_ones : ByteArray := prog_13_method_19_code
def yX11_ones : MethodName := ⟨RX11, "ones", "(I)I"⟩
abbrev cX11_make : ByteArray := prog_13_method_20_code
def yX11_make : MethodName := ⟨RX11, "make", "()V"⟩
abbrev cX11_makeFirst : ByteArray := prog_13_method_21_code
def yX11_makeFirst : MethodName := ⟨RX11, "makeFirst", "()V"⟩
abbrev cX11_makeNumbers : ByteArray := prog_13_method_22_code
def yX11_makeNumbers : MethodName := ⟨RX11, "makeNumbers", "()V"⟩
abbrev cX11_makeSecond : ByteArray := prog_13_method_23_code
def yX11_makeSecond : MethodName := ⟨RX11, "makeSecond", "()V"⟩
abbrev cX11_spread2 : ByteArray := prog_13_method_24_code
def yX11_spread2 : MethodName := ⟨RX11, "spread2", "(II)Z"⟩
abbrev cX11_makeKinds : ByteArray := prog_13_method_25_code
def yX11_makeKinds : MethodName := ⟨RX11, "makeKinds", "()V"⟩
abbrev cX11_nameKind : ByteArray := prog_13_method_26_code
def yX11_nameKind : MethodName := ⟨RX11, "nameKind", "(II)V"⟩
abbrev cX11_makeThird : ByteArray := prog_13_method_27_code
def yX11_makeThird : MethodName := ⟨RX11, "makeThird", "()V"⟩
abbrev cX11_makeFourth : ByteArray := prog_13_method_28_code
def yX11_makeFourth : MethodName := ⟨RX11, "makeFourth", "()V"⟩
abbrev cX11_spread4 : ByteArray := prog_13_method_29_code
def yX11_spread4 : MethodName := ⟨RX11, "spread4", "(II)Z"⟩
abbrev cX11_far : ByteArray := prog_13_method_30_code
def yX11_far : MethodName := ⟨RX11, "far", "(I)I"⟩
abbrev cX11_walk : ByteArray := prog_13_method_31_code
def yX11_walk : MethodName := ⟨RX11, "walk", "(I)V"⟩
abbrev cX11_solve : ByteArray := prog_13_method_32_code
def yX11_solve : MethodName := ⟨RX11, "solve", "()I"⟩
abbrev cX11_stage : ByteArray := prog_13_method_33_code
def yX11_stage : MethodName := ⟨RX11, "stage", "(I)I"⟩
abbrev cX11_step : ByteArray := prog_13_method_34_code
def yX11_step : MethodName := ⟨RX11, "step", "(I)I"⟩
abbrev cX11_flips : ByteArray := prog_13_method_35_code
def yX11_flips : MethodName := ⟨RX11, "flips", "()I"⟩
def RJ6 : String := "java/lang/Integer"
def TJ6 : u_T := fun k => match k with
  | _ => ("", "", "", false)
def tyJ6 : Nat → FieldType := fun k => match k with
  | _ => .int
abbrev wsJ60 : List Cond := u_ws RJ6 TJ6 0
theorem nmJ6 : ∀ a, a < 0 → ∀ b, b < 0 → a ≠ b → (TJ6 a).2.1 ≠ (TJ6 b).2.1 := by decide +kernel
theorem tyJ6_ok : ∀ k, k < 0 → parseFieldDescriptor (TJ6 k).2.2.1 = some (tyJ6 k) := by decide +kernel
abbrev cJ6_bitCount_0f7a4 : ByteArray := prog_14_method_49_code
def yJ6_bitCount_0f7a4 : MethodName := ⟨RJ6, "bitCount", "(I)I"⟩
def RJ10 : String := "java/lang/System"
def TJ10 : u_T := fun k => match k with
  | _ => ("", "", "", false)
def tyJ10 : Nat → FieldType := fun k => match k with
  | _ => .int
abbrev wsJ100 : List Cond := u_ws RJ10 TJ10 0
theorem nmJ10 : ∀ a, a < 0 → ∀ b, b < 0 → a ≠ b → (TJ10 a).2.1 ≠ (TJ10 b).2.1 := by decide +kernel
theorem tyJ10_ok : ∀ k, k < 0 → parseFieldDescriptor (TJ10 k).2.2.1 = some (tyJ10 k) := by decide +kernel
def RL : String := "StageCubeLaw"
abbrev cL_law : ByteArray := code
def yL_law : MethodName := ⟨RL, "law", "([I)Z"⟩
def wsX2_init : List Cond := .code yX2_init cX2_init 3 none :: ([.methodLink RX2 3 objectInit, .instanceMethod objectInit, .code objectInit ⟨#[0xb1]⟩ 1 none, .fieldLink RX2 9 "StageCube$Feature" "ofCorners" "Z", .fieldLink RX2 15 "StageCube$Feature" "size" "I"] ++ wsX00 ++ wsX30 ++ wsX50 ++ wsX60 ++ wsX80)
def wsX0_init : List Cond := .code yX0_init cX0_init 1 none :: ([.arrayClass .int, .fieldLink RX0 9 "StageCube$CornerOrders" "order" "[I", .methodLink RX0 3 yX2_init, .instanceMethod yX2_init, .initialized RX2, .code yX2_init cX2_init 3 none, .methodLink RX2 3 objectInit, .instanceMethod objectInit, .code objectInit ⟨#[0xb1]⟩ 1 none, .fieldLink RX2 9 "StageCube$Feature" "ofCorners" "Z", .fieldLink RX2 15 "StageCube$Feature" "size" "I"] ++ wsX00 ++ wsX30 ++ wsX50 ++ wsX60 ++ wsX80)
def wsX4_ofOrder : List Cond := .code yX4_ofOrder cX4_ofOrder 4 (some .int) :: ([])
def wsX0_read : List Cond := .code yX0_read cX0_read 4 (some .int) :: ([.fieldLink RX0 15 "StageCube$Pieces" "piece" "[I", .methodLink RX0 20 yX4_ofOrder, .static yX4_ofOrder, .initialized RX4, .code yX4_ofOrder cX4_ofOrder 4 (some .int)] ++ wsX70)
def wsX4_toOrder : List Cond := .code yX4_toOrder cX4_toOrder 7 none :: ([])
def wsX0_show : List Cond := .code yX0_show cX0_show 7 none :: ([.fieldLink RX0 9 "StageCube$CornerOrders" "order" "[I", .fieldLink RX0 28 "StageCube$Pairings" "EVEN" "[I", .fieldLink RX0 15 "StageCube$Pieces" "piece" "[I", .methodLink RX0 24 yX4_toOrder, .static yX4_toOrder, .initialized RX4, .code yX4_toOrder cX4_toOrder 7 none] ++ wsX00 ++ wsX70)
def wsX7_reset : List Cond := .code yX7_reset cX7_reset 2 none :: ([.fieldLink RX7 9 "StageCube$Pieces" "count" "I", .fieldLink RX7 37 "StageCube$Pieces" "piece" "[I", .fieldLink RX7 40 "StageCube$Pieces" "mark" "[I"] ++ wsX70)
def wsX7_init : List Cond := .code yX7_init cX7_init 2 none :: ([.methodLink RX7 3 objectInit, .instanceMethod objectInit, .code objectInit ⟨#[0xb1]⟩ 1 none, .fieldLink RX7 9 "StageCube$Pieces" "count" "I", .fieldLink RX7 15 "StageCube$Pieces" "marks" "I", .fieldLink RX7 18 "StageCube$Pieces" "CORNER_ROUND" "[I", .fieldLink RX7 22 "StageCube$Pieces" "EDGE_ROUND" "[I", .fieldLink RX7 25 "StageCube$Pieces" "round" "[I", .fieldLink RX7 28 "StageCube$Pieces" "TWIST_GAIN" "[I", .fieldLink RX7 31 "StageCube$Pieces" "FLIP_GAIN" "[I", .fieldLink RX7 34 "StageCube$Pieces" "gain" "[I", .arrayClass .int, .fieldLink RX7 37 "StageCube$Pieces" "piece" "[I", .fieldLink RX7 40 "StageCube$Pieces" "mark" "[I", .methodLink RX7 43 yX7_reset, .instanceMethod yX7_reset, .selects RX7 yX7_reset yX7_reset, .initialized RX7, .code yX7_reset cX7_reset 2 none] ++ wsX70)
def wsX1_init_r1 : List Cond := [Cond.methodLink RX1 1 objectInit, Cond.instanceMethod objectInit, Cond.code objectInit ⟨#[0xb1]⟩ 1 none, Cond.classLink RX1 7 RX7, Cond.instantiable RX7 6, Cond.initialized RX7, Cond.fieldLink RX1 12 "StageCube$Cube" "corners" "LStageCube$Pieces;", Cond.fieldLink RX1 18 "StageCube$Cube" "edges" "LStageCube$Pieces;", Cond.methodLink RX1 9 yX7_init, Cond.instanceMethod yX7_init, Cond.code yX7_init cX7_init 2 none, Cond.methodLink RX7 3 objectInit, Cond.fieldLink RX7 9 "StageCube$Pieces" "count" "I", Cond.fieldLink RX7 15 "StageCube$Pieces" "marks" "I", Cond.fieldLink RX7 18 "StageCube$Pieces" "CORNER_ROUND" "[I", Cond.fieldLink RX7 22 "StageCube$Pieces" "EDGE_ROUND" "[I", Cond.fieldLink RX7 25 "StageCube$Pieces" "round" "[I", Cond.fieldLink RX7 28 "StageCube$Pieces" "TWIST_GAIN" "[I", Cond.fieldLink RX7 31 "StageCube$Pieces" "FLIP_GAIN" "[I", Cond.fieldLink RX7 34 "StageCube$Pieces" "gain" "[I", Cond.arrayClass .int, Cond.fieldLink RX7 37 "StageCube$Pieces" "piece" "[I", Cond.fieldLink RX7 40 "StageCube$Pieces" "mark" "[I", Cond.methodLink RX7 43 yX7_reset]
def wsX1_init_r2 : List Cond := [Cond.instanceMethod yX7_reset, Cond.selects RX7 yX7_reset yX7_reset, Cond.code yX7_reset cX7_reset 2 none]
def wsX1_init : List Cond := .code yX1_init cX1_init 1 none :: ((wsX1_init_r1 ++ wsX1_init_r2) ++ wsX70 ++ wsX10)
def wsX1_reset : List Cond := .code yX1_reset cX1_reset 1 none :: ([.fieldLink RX1 12 "StageCube$Cube" "corners" "LStageCube$Pieces;", .fieldLink RX1 18 "StageCube$Cube" "edges" "LStageCube$Pieces;", .methodLink RX1 21 yX7_reset, .instanceMethod yX7_reset, .selects RX7 yX7_reset yX7_reset, .initialized RX7, .code yX7_reset cX7_reset 2 none, .fieldLink RX7 9 "StageCube$Pieces" "count" "I", .fieldLink RX7 37 "StageCube$Pieces" "piece" "[I", .fieldLink RX7 40 "StageCube$Pieces" "mark" "[I"] ++ wsX10 ++ wsX70)
def wsX7_copyFrom : List Cond := .code yX7_copyFrom cX7_copyFrom 3 none :: ([.fieldLink RX7 9 "StageCube$Pieces" "count" "I", .fieldLink RX7 37 "StageCube$Pieces" "piece" "[I", .fieldLink RX7 40 "StageCube$Pieces" "mark" "[I"] ++ wsX70)
def wsX1_copyFrom : List Cond := .code yX1_copyFrom cX1_copyFrom 2 none :: ([.fieldLink RX1 12 "StageCube$Cube" "corners" "LStageCube$Pieces;", .fieldLink RX1 18 "StageCube$Cube" "edges" "LStageCube$Pieces;", .methodLink RX1 24 yX7_copyFrom, .instanceMethod yX7_copyFrom, .selects RX7 yX7_copyFrom yX7_copyFrom, .initialized RX7, .code yX7_copyFrom cX7_copyFrom 3 none, .fieldLink RX7 9 "StageCube$Pieces" "count" "I", .fieldLink RX7 37 "StageCube$Pieces" "piece" "[I", .fieldLink RX7 40 "StageCube$Pieces" "mark" "[I"] ++ wsX10 ++ wsX70)
def wsX7_quarter : List Cond := .code yX7_quarter cX7_quarter 7 none :: ([.fieldLink RX7 37 "StageCube$Pieces" "piece" "[I", .fieldLink RX7 25 "StageCube$Pieces" "round" "[I", .fieldLink RX7 40 "StageCube$Pieces" "mark" "[I", .fieldLink RX7 34 "StageCube$Pieces" "gain" "[I", .fieldLink RX7 15 "StageCube$Pieces" "marks" "I"] ++ wsX70)
def wsX1_make : List Cond := .code yX1_make cX1_make 5 none :: ([.fieldLink RX1 12 "StageCube$Cube" "corners" "LStageCube$Pieces;", .fieldLink RX1 18 "StageCube$Cube" "edges" "LStageCube$Pieces;", .methodLink RX1 28 yX7_quarter, .instanceMethod yX7_quarter, .selects RX7 yX7_quarter yX7_quarter, .initialized RX7, .code yX7_quarter cX7_quarter 7 none, .fieldLink RX7 37 "StageCube$Pieces" "piece" "[I", .fieldLink RX7 25 "StageCube$Pieces" "round" "[I", .fieldLink RX7 40 "StageCube$Pieces" "mark" "[I", .fieldLink RX7 34 "StageCube$Pieces" "gain" "[I", .fieldLink RX7 15 "StageCube$Pieces" "marks" "I"] ++ wsX10 ++ wsX70)
def wsX3_read : List Cond := .code yX3_read cX3_read 4 (some .int) :: ([.fieldLink RX3 7 "StageCube$Pieces" "count" "I", .fieldLink RX3 13 "StageCube$Pieces" "marks" "I", .fieldLink RX3 16 "StageCube$Pieces" "mark" "[I"] ++ wsX70)
def wsX5_read : List Cond := .code yX5_read cX5_read 3 (some .int) :: ([.fieldLink RX5 19 "StageCube$Pieces" "piece" "[I", .fieldLink RX5 9 "StageCube$Orders" "first" "I", .methodLink RX5 24 yX4_ofOrder, .static yX4_ofOrder, .initialized RX4, .code yX4_ofOrder cX4_ofOrder 4 (some .int)] ++ wsX70 ++ wsX50)
def wsJ6_bitCount_0f7a4 : List Cond := .code yJ6_bitCount_0f7a4 cJ6_bitCount_0f7a4 1 (some .int) :: ([.constant RJ6 265 (1431655765), .constant RJ6 266 (858993459), .constant RJ6 267 (252645135)])
def wsX6_partner : List Cond := .code yX6_partner cX6_partner 3 (some .int) :: ([.fieldLink RX6 17 "StageCube$Pairings" "odds" "[I", .fieldLink RX6 11 "StageCube$Pairings" "evens" "[I"] ++ wsX60)
def wsX4_ofSet : List Cond := .code yX4_ofSet cX4_ofSet 5 (some .int) :: ([.fieldLink RX4 7 "StageCube$Numbering" "CHOOSE" "[I"])
def wsX6_read : List Cond := .code yX6_read cX6_read 6 (some .int) :: ([.fieldLink RX6 23 "StageCube$Pieces" "piece" "[I", .fieldLink RX6 28 "StageCube$Pairings" "POSITIONS" "[I", .fieldLink RX6 11 "StageCube$Pairings" "evens" "[I", .fieldLink RX6 17 "StageCube$Pairings" "odds" "[I", .methodLink RX6 31 yJ6_bitCount_0f7a4, .static yJ6_bitCount_0f7a4, .initialized RJ6, .code yJ6_bitCount_0f7a4 cJ6_bitCount_0f7a4 1 (some .int), .constant RJ6 265 (1431655765), .constant RJ6 266 (858993459), .constant RJ6 267 (252645135), .methodLink RX6 37 yX6_partner, .instanceMethod yX6_partner, .selects RX6 yX6_partner yX6_partner, .initialized RX6, .code yX6_partner cX6_partner 3 (some .int), .methodLink RX6 40 yX4_ofOrder, .static yX4_ofOrder, .initialized RX4, .code yX4_ofOrder cX4_ofOrder 4 (some .int), .methodLink RX6 44 yX4_ofSet, .static yX4_ofSet, .code yX4_ofSet cX4_ofSet 5 (some .int), .fieldLink RX4 7 "StageCube$Numbering" "CHOOSE" "[I"] ++ wsX70 ++ wsX60)
def wsX8_position : List Cond := .code yX8_position cX8_position 2 (some .int) :: ([.fieldLink RX8 11 "StageCube$Places" "family" "I", .fieldLink RX8 17 "StageCube$Places" "positions" "I"] ++ wsX80)
def wsX8_read : List Cond := .code yX8_read cX8_read 4 (some .int) :: ([.fieldLink RX8 17 "StageCube$Places" "positions" "I", .fieldLink RX8 20 "StageCube$Pieces" "piece" "[I", .fieldLink RX8 11 "StageCube$Places" "family" "I", .methodLink RX8 26 yX8_position, .instanceMethod yX8_position, .selects RX8 yX8_position yX8_position, .initialized RX8, .code yX8_position cX8_position 2 (some .int), .methodLink RX8 30 yX4_ofSet, .static yX4_ofSet, .initialized RX4, .code yX4_ofSet cX4_ofSet 5 (some .int), .fieldLink RX4 7 "StageCube$Numbering" "CHOOSE" "[I"] ++ wsX80 ++ wsX70)
def wsX2_readFrom_r1 : List Cond := [Cond.fieldLink RX2 9 "StageCube$Feature" "ofCorners" "Z", Cond.fieldLink RX2 19 "StageCube$Cube" "corners" "LStageCube$Pieces;", Cond.fieldLink RX2 25 "StageCube$Cube" "edges" "LStageCube$Pieces;", Cond.methodLink RX2 28 ⟨"StageCube$Feature", "read", "(LStageCube$Pieces;)I"⟩, Cond.sameMethod "StageCube$Feature" "StageCube$Feature" "read" "(LStageCube$Pieces;)I", Cond.selects RX0 ⟨"StageCube$Feature", "read", "(LStageCube$Pieces;)I"⟩ yX0_read, Cond.instanceMethod yX0_read, Cond.initialized RX0, Cond.code yX0_read cX0_read 4 (some .int), Cond.fieldLink RX0 15 "StageCube$Pieces" "piece" "[I", Cond.methodLink RX0 20 yX4_ofOrder, Cond.static yX4_ofOrder, Cond.initialized RX4, Cond.code yX4_ofOrder cX4_ofOrder 4 (some .int), Cond.selects RX3 ⟨"StageCube$Feature", "read", "(LStageCube$Pieces;)I"⟩ yX3_read, Cond.instanceMethod yX3_read, Cond.initialized RX3, Cond.code yX3_read cX3_read 4 (some .int), Cond.fieldLink RX3 7 "StageCube$Pieces" "count" "I", Cond.fieldLink RX3 13 "StageCube$Pieces" "marks" "I", Cond.fieldLink RX3 16 "StageCube$Pieces" "mark" "[I", Cond.selects RX5 ⟨"StageCube$Feature", "read", "(LStageCube$Pieces;)I"⟩ yX5_read, Cond.instanceMethod yX5_read, Cond.initialized RX5]
def wsX2_readFrom_r2 : List Cond := [Cond.code yX5_read cX5_read 3 (some .int), Cond.fieldLink RX5 19 "StageCube$Pieces" "piece" "[I", Cond.fieldLink RX5 9 "StageCube$Orders" "first" "I", Cond.methodLink RX5 24 yX4_ofOrder, Cond.selects RX6 ⟨"StageCube$Feature", "read", "(LStageCube$Pieces;)I"⟩ yX6_read, Cond.instanceMethod yX6_read, Cond.initialized RX6, Cond.code yX6_read cX6_read 6 (some .int), Cond.fieldLink RX6 23 "StageCube$Pieces" "piece" "[I", Cond.fieldLink RX6 28 "StageCube$Pairings" "POSITIONS" "[I", Cond.fieldLink RX6 11 "StageCube$Pairings" "evens" "[I", Cond.fieldLink RX6 17 "StageCube$Pairings" "odds" "[I", Cond.methodLink RX6 31 yJ6_bitCount_0f7a4, Cond.static yJ6_bitCount_0f7a4, Cond.initialized RJ6, Cond.code yJ6_bitCount_0f7a4 cJ6_bitCount_0f7a4 1 (some .int), Cond.constant RJ6 265 (1431655765), Cond.constant RJ6 266 (858993459), Cond.constant RJ6 267 (252645135), Cond.methodLink RX6 37 yX6_partner, Cond.instanceMethod yX6_partner, Cond.selects RX6 yX6_partner yX6_partner, Cond.code yX6_partner cX6_partner 3 (some .int), Cond.methodLink RX6 40 yX4_ofOrder]
def wsX2_readFrom_r3 : List Cond := [Cond.methodLink RX6 44 yX4_ofSet, Cond.static yX4_ofSet, Cond.code yX4_ofSet cX4_ofSet 5 (some .int), Cond.fieldLink RX4 7 "StageCube$Numbering" "CHOOSE" "[I", Cond.selects RX8 ⟨"StageCube$Feature", "read", "(LStageCube$Pieces;)I"⟩ yX8_read, Cond.instanceMethod yX8_read, Cond.initialized RX8, Cond.code yX8_read cX8_read 4 (some .int), Cond.fieldLink RX8 17 "StageCube$Places" "positions" "I", Cond.fieldLink RX8 20 "StageCube$Pieces" "piece" "[I", Cond.fieldLink RX8 11 "StageCube$Places" "family" "I", Cond.methodLink RX8 26 yX8_position, Cond.instanceMethod yX8_position, Cond.selects RX8 yX8_position yX8_position, Cond.code yX8_position cX8_position 2 (some .int), Cond.methodLink RX8 30 yX4_ofSet]
def wsX2_readFrom : List Cond := .code yX2_readFrom cX2_readFrom 2 (some .int) :: ((wsX2_readFrom_r1 ++ (wsX2_readFrom_r2 ++ wsX2_readFrom_r3)) ++ wsX00 ++ wsX30 ++ wsX50 ++ wsX60 ++ wsX80 ++ wsX10 ++ wsX70)
def wsX3_show : List Cond := .code yX3_show cX3_show 7 none :: ([.fieldLink RX3 7 "StageCube$Pieces" "count" "I", .fieldLink RX3 13 "StageCube$Pieces" "marks" "I", .fieldLink RX3 16 "StageCube$Pieces" "mark" "[I"] ++ wsX70)
def wsX5_show : List Cond := .code yX5_show cX5_show 4 none :: ([.fieldLink RX5 15 "StageCube$Orders" "order" "[I", .fieldLink RX5 19 "StageCube$Pieces" "piece" "[I", .fieldLink RX5 9 "StageCube$Orders" "first" "I", .methodLink RX5 28 yX4_toOrder, .static yX4_toOrder, .initialized RX4, .code yX4_toOrder cX4_toOrder 7 none] ++ wsX50 ++ wsX70)
def wsX4_toSet : List Cond := .code yX4_toSet cX4_toSet 7 (some .int) :: ([.fieldLink RX4 7 "StageCube$Numbering" "CHOOSE" "[I"])
def wsX6_show : List Cond := .code yX6_show cX6_show 6 none :: ([.fieldLink RX6 20 "StageCube$Pairings" "order" "[I", .fieldLink RX6 23 "StageCube$Pieces" "piece" "[I", .fieldLink RX6 28 "StageCube$Pairings" "POSITIONS" "[I", .fieldLink RX6 55 "StageCube$Pairings" "EVEN" "[I", .methodLink RX6 48 yX4_toSet, .static yX4_toSet, .initialized RX4, .code yX4_toSet cX4_toSet 7 (some .int), .fieldLink RX4 7 "StageCube$Numbering" "CHOOSE" "[I", .methodLink RX6 51 yX4_toOrder, .static yX4_toOrder, .code yX4_toOrder cX4_toOrder 7 none] ++ wsX60 ++ wsX70)
def wsX8_show : List Cond := .code yX8_show cX8_show 6 none :: ([.fieldLink RX8 17 "StageCube$Places" "positions" "I", .fieldLink RX8 11 "StageCube$Places" "family" "I", .fieldLink RX8 20 "StageCube$Pieces" "piece" "[I", .methodLink RX8 34 yX4_toSet, .static yX4_toSet, .initialized RX4, .code yX4_toSet cX4_toSet 7 (some .int), .fieldLink RX4 7 "StageCube$Numbering" "CHOOSE" "[I", .methodLink RX8 26 yX8_position, .instanceMethod yX8_position, .selects RX8 yX8_position yX8_position, .initialized RX8, .code yX8_position cX8_position 2 (some .int)] ++ wsX80 ++ wsX70)
def wsX2_learn_r1 : List Cond := [Cond.classLink RX2 32 RX7, Cond.instantiable RX7 6, Cond.initialized RX7, Cond.fieldLink RX2 9 "StageCube$Feature" "ofCorners" "Z", Cond.fieldLink RX2 15 "StageCube$Feature" "size" "I", Cond.arrayClass .int, Cond.fieldLink RX2 37 "StageCube$Feature" "next" "[I", Cond.methodLink RX2 34 yX7_init, Cond.instanceMethod yX7_init, Cond.code yX7_init cX7_init 2 none, Cond.methodLink RX7 3 objectInit, Cond.instanceMethod objectInit, Cond.code objectInit ⟨#[0xb1]⟩ 1 none, Cond.fieldLink RX7 9 "StageCube$Pieces" "count" "I", Cond.fieldLink RX7 15 "StageCube$Pieces" "marks" "I", Cond.fieldLink RX7 18 "StageCube$Pieces" "CORNER_ROUND" "[I", Cond.fieldLink RX7 22 "StageCube$Pieces" "EDGE_ROUND" "[I", Cond.fieldLink RX7 25 "StageCube$Pieces" "round" "[I", Cond.fieldLink RX7 28 "StageCube$Pieces" "TWIST_GAIN" "[I", Cond.fieldLink RX7 31 "StageCube$Pieces" "FLIP_GAIN" "[I", Cond.fieldLink RX7 34 "StageCube$Pieces" "gain" "[I", Cond.fieldLink RX7 37 "StageCube$Pieces" "piece" "[I", Cond.fieldLink RX7 40 "StageCube$Pieces" "mark" "[I", Cond.methodLink RX7 43 yX7_reset]
def wsX2_learn_r2 : List Cond := [Cond.instanceMethod yX7_reset, Cond.selects RX7 yX7_reset yX7_reset, Cond.code yX7_reset cX7_reset 2 none, Cond.methodLink RX2 41 ⟨"StageCube$Feature", "show", "(ILStageCube$Pieces;)V"⟩, Cond.sameMethod "StageCube$Feature" "StageCube$Feature" "show" "(ILStageCube$Pieces;)V", Cond.selects RX0 ⟨"StageCube$Feature", "show", "(ILStageCube$Pieces;)V"⟩ yX0_show, Cond.instanceMethod yX0_show, Cond.initialized RX0, Cond.code yX0_show cX0_show 7 none, Cond.fieldLink RX0 9 "StageCube$CornerOrders" "order" "[I", Cond.fieldLink RX0 28 "StageCube$Pairings" "EVEN" "[I", Cond.fieldLink RX0 15 "StageCube$Pieces" "piece" "[I", Cond.methodLink RX0 24 yX4_toOrder, Cond.static yX4_toOrder, Cond.initialized RX4, Cond.code yX4_toOrder cX4_toOrder 7 none, Cond.selects RX3 ⟨"StageCube$Feature", "show", "(ILStageCube$Pieces;)V"⟩ yX3_show, Cond.instanceMethod yX3_show, Cond.initialized RX3, Cond.code yX3_show cX3_show 7 none, Cond.fieldLink RX3 7 "StageCube$Pieces" "count" "I", Cond.fieldLink RX3 13 "StageCube$Pieces" "marks" "I", Cond.fieldLink RX3 16 "StageCube$Pieces" "mark" "[I", Cond.selects RX5 ⟨"StageCube$Feature", "show", "(ILStageCube$Pieces;)V"⟩ yX5_show]
def wsX2_learn_r3 : List Cond := [Cond.instanceMethod yX5_show, Cond.initialized RX5, Cond.code yX5_show cX5_show 4 none, Cond.fieldLink RX5 15 "StageCube$Orders" "order" "[I", Cond.fieldLink RX5 19 "StageCube$Pieces" "piece" "[I", Cond.fieldLink RX5 9 "StageCube$Orders" "first" "I", Cond.methodLink RX5 28 yX4_toOrder, Cond.selects RX6 ⟨"StageCube$Feature", "show", "(ILStageCube$Pieces;)V"⟩ yX6_show, Cond.instanceMethod yX6_show, Cond.initialized RX6, Cond.code yX6_show cX6_show 6 none, Cond.fieldLink RX6 20 "StageCube$Pairings" "order" "[I", Cond.fieldLink RX6 23 "StageCube$Pieces" "piece" "[I", Cond.fieldLink RX6 28 "StageCube$Pairings" "POSITIONS" "[I", Cond.fieldLink RX6 55 "StageCube$Pairings" "EVEN" "[I", Cond.methodLink RX6 48 yX4_toSet, Cond.static yX4_toSet, Cond.code yX4_toSet cX4_toSet 7 (some .int), Cond.fieldLink RX4 7 "StageCube$Numbering" "CHOOSE" "[I", Cond.methodLink RX6 51 yX4_toOrder, Cond.selects RX8 ⟨"StageCube$Feature", "show", "(ILStageCube$Pieces;)V"⟩ yX8_show, Cond.instanceMethod yX8_show, Cond.initialized RX8, Cond.code yX8_show cX8_show 6 none]
def wsX2_learn_r4 : List Cond := [Cond.fieldLink RX8 17 "StageCube$Places" "positions" "I", Cond.fieldLink RX8 11 "StageCube$Places" "family" "I", Cond.fieldLink RX8 20 "StageCube$Pieces" "piece" "[I", Cond.methodLink RX8 34 yX4_toSet, Cond.methodLink RX8 26 yX8_position, Cond.instanceMethod yX8_position, Cond.selects RX8 yX8_position yX8_position, Cond.code yX8_position cX8_position 2 (some .int), Cond.methodLink RX2 45 yX7_quarter, Cond.instanceMethod yX7_quarter, Cond.selects RX7 yX7_quarter yX7_quarter, Cond.code yX7_quarter cX7_quarter 7 none, Cond.methodLink RX2 28 ⟨"StageCube$Feature", "read", "(LStageCube$Pieces;)I"⟩, Cond.sameMethod "StageCube$Feature" "StageCube$Feature" "read" "(LStageCube$Pieces;)I", Cond.selects RX0 ⟨"StageCube$Feature", "read", "(LStageCube$Pieces;)I"⟩ yX0_read, Cond.instanceMethod yX0_read, Cond.code yX0_read cX0_read 4 (some .int), Cond.methodLink RX0 20 yX4_ofOrder, Cond.static yX4_ofOrder, Cond.code yX4_ofOrder cX4_ofOrder 4 (some .int), Cond.selects RX3 ⟨"StageCube$Feature", "read", "(LStageCube$Pieces;)I"⟩ yX3_read, Cond.instanceMethod yX3_read, Cond.code yX3_read cX3_read 4 (some .int), Cond.selects RX5 ⟨"StageCube$Feature", "read", "(LStageCube$Pieces;)I"⟩ yX5_read]
def wsX2_learn_r5 : List Cond := [Cond.instanceMethod yX5_read, Cond.code yX5_read cX5_read 3 (some .int), Cond.methodLink RX5 24 yX4_ofOrder, Cond.selects RX6 ⟨"StageCube$Feature", "read", "(LStageCube$Pieces;)I"⟩ yX6_read, Cond.instanceMethod yX6_read, Cond.code yX6_read cX6_read 6 (some .int), Cond.fieldLink RX6 11 "StageCube$Pairings" "evens" "[I", Cond.fieldLink RX6 17 "StageCube$Pairings" "odds" "[I", Cond.methodLink RX6 31 yJ6_bitCount_0f7a4, Cond.static yJ6_bitCount_0f7a4, Cond.initialized RJ6, Cond.code yJ6_bitCount_0f7a4 cJ6_bitCount_0f7a4 1 (some .int), Cond.constant RJ6 265 (1431655765), Cond.constant RJ6 266 (858993459), Cond.constant RJ6 267 (252645135), Cond.methodLink RX6 37 yX6_partner, Cond.instanceMethod yX6_partner, Cond.selects RX6 yX6_partner yX6_partner, Cond.code yX6_partner cX6_partner 3 (some .int), Cond.methodLink RX6 40 yX4_ofOrder, Cond.methodLink RX6 44 yX4_ofSet, Cond.static yX4_ofSet, Cond.code yX4_ofSet cX4_ofSet 5 (some .int), Cond.selects RX8 ⟨"StageCube$Feature", "read", "(LStageCube$Pieces;)I"⟩ yX8_read]
def wsX2_learn_r6 : List Cond := [Cond.instanceMethod yX8_read, Cond.code yX8_read cX8_read 4 (some .int), Cond.methodLink RX8 30 yX4_ofSet]
def wsX2_learn : List Cond := .code yX2_learn cX2_learn 5 none :: ((wsX2_learn_r1 ++ (wsX2_learn_r2 ++ (wsX2_learn_r3 ++ (wsX2_learn_r4 ++ (wsX2_learn_r5 ++ wsX2_learn_r6))))) ++ wsX70 ++ wsX00 ++ wsX30 ++ wsX50 ++ wsX60 ++ wsX80)
def wsX3_init : List Cond := .code yX3_init cX3_init 2 none :: ([.methodLink RX3 1 yX2_init, .instanceMethod yX2_init, .initialized RX2, .code yX2_init cX2_init 3 none, .methodLink RX2 3 objectInit, .instanceMethod objectInit, .code objectInit ⟨#[0xb1]⟩ 1 none, .fieldLink RX2 9 "StageCube$Feature" "ofCorners" "Z", .fieldLink RX2 15 "StageCube$Feature" "size" "I"] ++ wsX00 ++ wsX30 ++ wsX50 ++ wsX60 ++ wsX80)
def wsX5_init : List Cond := .code yX5_init cX5_init 2 none :: ([.fieldLink RX5 9 "StageCube$Orders" "first" "I", .arrayClass .int, .fieldLink RX5 15 "StageCube$Orders" "order" "[I", .methodLink RX5 3 yX2_init, .instanceMethod yX2_init, .initialized RX2, .code yX2_init cX2_init 3 none, .methodLink RX2 3 objectInit, .instanceMethod objectInit, .code objectInit ⟨#[0xb1]⟩ 1 none, .fieldLink RX2 9 "StageCube$Feature" "ofCorners" "Z", .fieldLink RX2 15 "StageCube$Feature" "size" "I"] ++ wsX50 ++ wsX00 ++ wsX30 ++ wsX60 ++ wsX80)
def wsX6_init : List Cond := .code yX6_init cX6_init 1 none :: ([.arrayClass .int, .fieldLink RX6 11 "StageCube$Pairings" "evens" "[I", .fieldLink RX6 17 "StageCube$Pairings" "odds" "[I", .fieldLink RX6 20 "StageCube$Pairings" "order" "[I", .methodLink RX6 5 yX2_init, .instanceMethod yX2_init, .initialized RX2, .code yX2_init cX2_init 3 none, .methodLink RX2 3 objectInit, .instanceMethod objectInit, .code objectInit ⟨#[0xb1]⟩ 1 none, .fieldLink RX2 9 "StageCube$Feature" "ofCorners" "Z", .fieldLink RX2 15 "StageCube$Feature" "size" "I"] ++ wsX60 ++ wsX00 ++ wsX30 ++ wsX50 ++ wsX80)
def wsX7_isNumber : List Cond := .code yX7_isNumber cX7_isNumber 2 (some .boolean) :: ([])
def wsX7_put : List Cond := .code yX7_put cX7_put 4 (some .boolean) :: ([.fieldLink RX7 9 "StageCube$Pieces" "count" "I", .fieldLink RX7 15 "StageCube$Pieces" "marks" "I", .fieldLink RX7 37 "StageCube$Pieces" "piece" "[I", .fieldLink RX7 40 "StageCube$Pieces" "mark" "[I", .methodLink RX7 46 yX7_isNumber, .static yX7_isNumber, .initialized RX7, .code yX7_isNumber cX7_isNumber 2 (some .boolean)] ++ wsX70)
def wsX7_describe : List Cond := .code yX7_describe cX7_describe 2 (some .int) :: ([.fieldLink RX7 9 "StageCube$Pieces" "count" "I", .fieldLink RX7 15 "StageCube$Pieces" "marks" "I", .fieldLink RX7 37 "StageCube$Pieces" "piece" "[I", .fieldLink RX7 40 "StageCube$Pieces" "mark" "[I", .methodLink RX7 46 yX7_isNumber, .static yX7_isNumber, .initialized RX7, .code yX7_isNumber cX7_isNumber 2 (some .boolean)] ++ wsX70)
def wsX7_atHome : List Cond := .code yX7_atHome cX7_atHome 2 (some .boolean) :: ([.fieldLink RX7 9 "StageCube$Pieces" "count" "I", .fieldLink RX7 37 "StageCube$Pieces" "piece" "[I", .fieldLink RX7 40 "StageCube$Pieces" "mark" "[I"] ++ wsX70)
def wsX7_allThere : List Cond := .code yX7_allThere cX7_allThere 3 (some .boolean) :: ([.fieldLink RX7 9 "StageCube$Pieces" "count" "I", .fieldLink RX7 37 "StageCube$Pieces" "piece" "[I"] ++ wsX70)
def wsX7_marksCancel : List Cond := .code yX7_marksCancel cX7_marksCancel 3 (some .boolean) :: ([.fieldLink RX7 9 "StageCube$Pieces" "count" "I", .fieldLink RX7 40 "StageCube$Pieces" "mark" "[I", .fieldLink RX7 15 "StageCube$Pieces" "marks" "I"] ++ wsX70)
def wsX7_oddlySwapped : List Cond := .code yX7_oddlySwapped cX7_oddlySwapped 4 (some .boolean) :: ([.fieldLink RX7 9 "StageCube$Pieces" "count" "I", .fieldLink RX7 37 "StageCube$Pieces" "piece" "[I"] ++ wsX70)
def wsX8_init : List Cond := .code yX8_init cX8_init 3 none :: ([.fieldLink RX8 11 "StageCube$Places" "family" "I", .fieldLink RX8 17 "StageCube$Places" "positions" "I", .methodLink RX8 5 yX2_init, .instanceMethod yX2_init, .initialized RX2, .code yX2_init cX2_init 3 none, .methodLink RX2 3 objectInit, .instanceMethod objectInit, .code objectInit ⟨#[0xb1]⟩ 1 none, .fieldLink RX2 9 "StageCube$Feature" "ofCorners" "Z", .fieldLink RX2 15 "StageCube$Feature" "size" "I"] ++ wsX80 ++ wsX00 ++ wsX30 ++ wsX50 ++ wsX60)
def wsX9_init : List Cond := .code yX9_init cX9_init 5 none :: ([.methodLink RX9 3 objectInit, .instanceMethod objectInit, .code objectInit ⟨#[0xb1]⟩ 1 none, .fieldLink RX9 9 "StageCube$Stage" "facesWithQuarters" "I", .fieldLink RX9 15 "StageCube$Stage" "reach" "I", .fieldLink RX9 18 "StageCube$Stage" "queueLength" "I", .fieldLink RX9 21 "StageCube$Stage" "features" "[LStageCube$Feature;", .arrayClass .int, .fieldLink RX9 25 "StageCube$Stage" "numbers" "[I", .fieldLink RX9 29 "StageCube$Stage" "way" "[I"] ++ wsX90)
def wsX9_stateAt : List Cond := .code yX9_stateAt cX9_stateAt 5 (some .int) :: ([.fieldLink RX9 21 "StageCube$Stage" "features" "[LStageCube$Feature;", .fieldLink RX9 86 "StageCube$Feature" "size" "I", .fieldLink RX9 25 "StageCube$Stage" "numbers" "[I"] ++ wsX90 ++ wsX00 ++ wsX30 ++ wsX50 ++ wsX60 ++ wsX80)
def wsX9_readStart_r1 : List Cond := [Cond.fieldLink RX9 21 "StageCube$Stage" "features" "[LStageCube$Feature;", Cond.fieldLink RX9 25 "StageCube$Stage" "numbers" "[I", Cond.methodLink RX9 54 ⟨"StageCube$Feature", "readFrom", "(LStageCube$Cube;)I"⟩, Cond.sameMethod "StageCube$Feature" "StageCube$Feature" "readFrom" "(LStageCube$Cube;)I", Cond.selects RX0 ⟨"StageCube$Feature", "readFrom", "(LStageCube$Cube;)I"⟩ yX2_readFrom, Cond.instanceMethod yX2_readFrom, Cond.initialized RX2, Cond.code yX2_readFrom cX2_readFrom 2 (some .int), Cond.fieldLink RX2 9 "StageCube$Feature" "ofCorners" "Z", Cond.fieldLink RX2 19 "StageCube$Cube" "corners" "LStageCube$Pieces;", Cond.fieldLink RX2 25 "StageCube$Cube" "edges" "LStageCube$Pieces;", Cond.methodLink RX2 28 ⟨"StageCube$Feature", "read", "(LStageCube$Pieces;)I"⟩, Cond.sameMethod "StageCube$Feature" "StageCube$Feature" "read" "(LStageCube$Pieces;)I", Cond.selects RX0 ⟨"StageCube$Feature", "read", "(LStageCube$Pieces;)I"⟩ yX0_read, Cond.instanceMethod yX0_read, Cond.initialized RX0, Cond.code yX0_read cX0_read 4 (some .int), Cond.fieldLink RX0 15 "StageCube$Pieces" "piece" "[I", Cond.methodLink RX0 20 yX4_ofOrder, Cond.static yX4_ofOrder, Cond.initialized RX4, Cond.code yX4_ofOrder cX4_ofOrder 4 (some .int), Cond.selects RX3 ⟨"StageCube$Feature", "read", "(LStageCube$Pieces;)I"⟩ yX3_read, Cond.instanceMethod yX3_read]
def wsX9_readStart_r2 : List Cond := [Cond.initialized RX3, Cond.code yX3_read cX3_read 4 (some .int), Cond.fieldLink RX3 7 "StageCube$Pieces" "count" "I", Cond.fieldLink RX3 13 "StageCube$Pieces" "marks" "I", Cond.fieldLink RX3 16 "StageCube$Pieces" "mark" "[I", Cond.selects RX5 ⟨"StageCube$Feature", "read", "(LStageCube$Pieces;)I"⟩ yX5_read, Cond.instanceMethod yX5_read, Cond.initialized RX5, Cond.code yX5_read cX5_read 3 (some .int), Cond.fieldLink RX5 19 "StageCube$Pieces" "piece" "[I", Cond.fieldLink RX5 9 "StageCube$Orders" "first" "I", Cond.methodLink RX5 24 yX4_ofOrder, Cond.selects RX6 ⟨"StageCube$Feature", "read", "(LStageCube$Pieces;)I"⟩ yX6_read, Cond.instanceMethod yX6_read, Cond.initialized RX6, Cond.code yX6_read cX6_read 6 (some .int), Cond.fieldLink RX6 23 "StageCube$Pieces" "piece" "[I", Cond.fieldLink RX6 28 "StageCube$Pairings" "POSITIONS" "[I", Cond.fieldLink RX6 11 "StageCube$Pairings" "evens" "[I", Cond.fieldLink RX6 17 "StageCube$Pairings" "odds" "[I", Cond.methodLink RX6 31 yJ6_bitCount_0f7a4, Cond.static yJ6_bitCount_0f7a4, Cond.initialized RJ6, Cond.code yJ6_bitCount_0f7a4 cJ6_bitCount_0f7a4 1 (some .int)]
def wsX9_readStart_r3 : List Cond := [Cond.constant RJ6 265 (1431655765), Cond.constant RJ6 266 (858993459), Cond.constant RJ6 267 (252645135), Cond.methodLink RX6 37 yX6_partner, Cond.instanceMethod yX6_partner, Cond.selects RX6 yX6_partner yX6_partner, Cond.code yX6_partner cX6_partner 3 (some .int), Cond.methodLink RX6 40 yX4_ofOrder, Cond.methodLink RX6 44 yX4_ofSet, Cond.static yX4_ofSet, Cond.code yX4_ofSet cX4_ofSet 5 (some .int), Cond.fieldLink RX4 7 "StageCube$Numbering" "CHOOSE" "[I", Cond.selects RX8 ⟨"StageCube$Feature", "read", "(LStageCube$Pieces;)I"⟩ yX8_read, Cond.instanceMethod yX8_read, Cond.initialized RX8, Cond.code yX8_read cX8_read 4 (some .int), Cond.fieldLink RX8 17 "StageCube$Places" "positions" "I", Cond.fieldLink RX8 20 "StageCube$Pieces" "piece" "[I", Cond.fieldLink RX8 11 "StageCube$Places" "family" "I", Cond.methodLink RX8 26 yX8_position, Cond.instanceMethod yX8_position, Cond.selects RX8 yX8_position yX8_position, Cond.code yX8_position cX8_position 2 (some .int), Cond.methodLink RX8 30 yX4_ofSet]
def wsX9_readStart_r4 : List Cond := [Cond.selects RX3 ⟨"StageCube$Feature", "readFrom", "(LStageCube$Cube;)I"⟩ yX2_readFrom, Cond.selects RX5 ⟨"StageCube$Feature", "readFrom", "(LStageCube$Cube;)I"⟩ yX2_readFrom, Cond.selects RX6 ⟨"StageCube$Feature", "readFrom", "(LStageCube$Cube;)I"⟩ yX2_readFrom, Cond.selects RX8 ⟨"StageCube$Feature", "readFrom", "(LStageCube$Cube;)I"⟩ yX2_readFrom, Cond.methodLink RX9 43 yX9_stateAt, Cond.instanceMethod yX9_stateAt, Cond.selects RX9 yX9_stateAt yX9_stateAt, Cond.initialized RX9, Cond.code yX9_stateAt cX9_stateAt 5 (some .int), Cond.fieldLink RX9 86 "StageCube$Feature" "size" "I"]
def wsX9_readStart : List Cond := .code yX9_readStart cX9_readStart 3 (some .int) :: ((wsX9_readStart_r1 ++ (wsX9_readStart_r2 ++ (wsX9_readStart_r3 ++ wsX9_readStart_r4))) ++ wsX90 ++ wsX00 ++ wsX30 ++ wsX50 ++ wsX60 ++ wsX80 ++ wsX10 ++ wsX70)
def wsX9_store : List Cond := .code yX9_store cX9_store 3 none :: ([.fieldLink RX9 36 "StageCube$Stage" "near" "[J"] ++ wsX90)
def wsX9_stored : List Cond := .code yX9_stored cX9_stored 2 (some .int) :: ([.fieldLink RX9 36 "StageCube$Stage" "near" "[J"] ++ wsX90)
def wsX9_showState : List Cond := .code yX9_showState cX9_showState 4 none :: ([.fieldLink RX9 21 "StageCube$Stage" "features" "[LStageCube$Feature;", .fieldLink RX9 25 "StageCube$Stage" "numbers" "[I", .fieldLink RX9 86 "StageCube$Feature" "size" "I"] ++ wsX90 ++ wsX00 ++ wsX30 ++ wsX50 ++ wsX60 ++ wsX80)
def wsX9_copyDown : List Cond := .code yX9_copyDown cX9_copyDown 3 none :: ([.fieldLink RX9 21 "StageCube$Stage" "features" "[LStageCube$Feature;", .fieldLink RX9 25 "StageCube$Stage" "numbers" "[I", .methodLink RX9 77 arraycopyName, .native arraycopyName, .static arraycopyName, .initialized "java/lang/System"] ++ wsX90)
def wsX9_turnsOf : List Cond := .code yX9_turnsOf cX9_turnsOf 2 (some .int) :: ([.fieldLink RX9 9 "StageCube$Stage" "facesWithQuarters" "I"] ++ wsX90)
def wsX9_advance : List Cond := .code yX9_advance cX9_advance 5 none :: ([.fieldLink RX9 21 "StageCube$Stage" "features" "[LStageCube$Feature;", .fieldLink RX9 25 "StageCube$Stage" "numbers" "[I", .fieldLink RX9 83 "StageCube$Feature" "next" "[I"] ++ wsX90 ++ wsX00 ++ wsX30 ++ wsX50 ++ wsX60 ++ wsX80)
def wsX9_spread_r1 : List Cond := [Cond.fieldLink RX9 15 "StageCube$Stage" "reach" "I", Cond.methodLink RX9 89 yX9_stored, Cond.instanceMethod yX9_stored, Cond.selects RX9 yX9_stored yX9_stored, Cond.initialized RX9, Cond.code yX9_stored cX9_stored 2 (some .int), Cond.fieldLink RX9 36 "StageCube$Stage" "near" "[J", Cond.methodLink RX9 105 yX9_showState, Cond.instanceMethod yX9_showState, Cond.selects RX9 yX9_showState yX9_showState, Cond.code yX9_showState cX9_showState 4 none, Cond.fieldLink RX9 21 "StageCube$Stage" "features" "[LStageCube$Feature;", Cond.fieldLink RX9 25 "StageCube$Stage" "numbers" "[I", Cond.fieldLink RX9 86 "StageCube$Feature" "size" "I", Cond.methodLink RX9 63 yX9_copyDown, Cond.instanceMethod yX9_copyDown, Cond.selects RX9 yX9_copyDown yX9_copyDown, Cond.code yX9_copyDown cX9_copyDown 3 none, Cond.methodLink RX9 77 arraycopyName, Cond.native arraycopyName, Cond.static arraycopyName, Cond.initialized "java/lang/System", Cond.methodLink RX9 67 yX9_turnsOf, Cond.instanceMethod yX9_turnsOf]
def wsX9_spread_r2 : List Cond := [Cond.selects RX9 yX9_turnsOf yX9_turnsOf, Cond.code yX9_turnsOf cX9_turnsOf 2 (some .int), Cond.fieldLink RX9 9 "StageCube$Stage" "facesWithQuarters" "I", Cond.methodLink RX9 70 yX9_advance, Cond.instanceMethod yX9_advance, Cond.selects RX9 yX9_advance yX9_advance, Cond.code yX9_advance cX9_advance 5 none, Cond.fieldLink RX9 83 "StageCube$Feature" "next" "[I", Cond.methodLink RX9 43 yX9_stateAt, Cond.instanceMethod yX9_stateAt, Cond.selects RX9 yX9_stateAt yX9_stateAt, Cond.code yX9_stateAt cX9_stateAt 5 (some .int), Cond.methodLink RX9 98 yX9_store, Cond.instanceMethod yX9_store, Cond.selects RX9 yX9_store yX9_store, Cond.code yX9_store cX9_store 3 none]
def wsX9_spread : List Cond := .code yX9_spread cX9_spread 9 (some .int) :: ((wsX9_spread_r1 ++ wsX9_spread_r2) ++ wsX90 ++ wsX00 ++ wsX30 ++ wsX50 ++ wsX60 ++ wsX80)
def wsX9_spreadFromGoal_r1 : List Cond := [Cond.fieldLink RX9 18 "StageCube$Stage" "queueLength" "I", Cond.arrayClass .int, Cond.methodLink RX9 98 yX9_store, Cond.instanceMethod yX9_store, Cond.selects RX9 yX9_store yX9_store, Cond.initialized RX9, Cond.code yX9_store cX9_store 3 none, Cond.fieldLink RX9 36 "StageCube$Stage" "near" "[J", Cond.methodLink RX9 101 yX9_spread, Cond.instanceMethod yX9_spread, Cond.selects RX9 yX9_spread yX9_spread, Cond.code yX9_spread cX9_spread 9 (some .int), Cond.fieldLink RX9 15 "StageCube$Stage" "reach" "I", Cond.methodLink RX9 89 yX9_stored, Cond.instanceMethod yX9_stored, Cond.selects RX9 yX9_stored yX9_stored, Cond.code yX9_stored cX9_stored 2 (some .int), Cond.methodLink RX9 105 yX9_showState, Cond.instanceMethod yX9_showState, Cond.selects RX9 yX9_showState yX9_showState, Cond.code yX9_showState cX9_showState 4 none, Cond.fieldLink RX9 21 "StageCube$Stage" "features" "[LStageCube$Feature;", Cond.fieldLink RX9 25 "StageCube$Stage" "numbers" "[I", Cond.fieldLink RX9 86 "StageCube$Feature" "size" "I"]
def wsX9_spreadFromGoal_r2 : List Cond := [Cond.methodLink RX9 63 yX9_copyDown, Cond.instanceMethod yX9_copyDown, Cond.selects RX9 yX9_copyDown yX9_copyDown, Cond.code yX9_copyDown cX9_copyDown 3 none, Cond.methodLink RX9 77 arraycopyName, Cond.native arraycopyName, Cond.static arraycopyName, Cond.initialized "java/lang/System", Cond.methodLink RX9 67 yX9_turnsOf, Cond.instanceMethod yX9_turnsOf, Cond.selects RX9 yX9_turnsOf yX9_turnsOf, Cond.code yX9_turnsOf cX9_turnsOf 2 (some .int), Cond.fieldLink RX9 9 "StageCube$Stage" "facesWithQuarters" "I", Cond.methodLink RX9 70 yX9_advance, Cond.instanceMethod yX9_advance, Cond.selects RX9 yX9_advance yX9_advance, Cond.code yX9_advance cX9_advance 5 none, Cond.fieldLink RX9 83 "StageCube$Feature" "next" "[I", Cond.methodLink RX9 43 yX9_stateAt, Cond.instanceMethod yX9_stateAt, Cond.selects RX9 yX9_stateAt yX9_stateAt, Cond.code yX9_stateAt cX9_stateAt 5 (some .int)]
def wsX9_spreadFromGoal : List Cond := .code yX9_spreadFromGoal cX9_spreadFromGoal 4 none :: ((wsX9_spreadFromGoal_r1 ++ wsX9_spreadFromGoal_r2) ++ wsX90 ++ wsX00 ++ wsX30 ++ wsX50 ++ wsX60 ++ wsX80)
def wsX9_prepare_r1 : List Cond := [Cond.fieldLink RX9 21 "StageCube$Stage" "features" "[LStageCube$Feature;", Cond.fieldLink RX9 9 "StageCube$Stage" "facesWithQuarters" "I", Cond.fieldLink RX9 86 "StageCube$Feature" "size" "I", Cond.arrayClass .long, Cond.fieldLink RX9 36 "StageCube$Stage" "near" "[J", Cond.methodLink RX9 92 ⟨"StageCube$Feature", "learn", "(I)V"⟩, Cond.sameMethod "StageCube$Feature" "StageCube$Feature" "learn" "(I)V", Cond.selects RX0 ⟨"StageCube$Feature", "learn", "(I)V"⟩ yX2_learn, Cond.instanceMethod yX2_learn, Cond.initialized RX2, Cond.code yX2_learn cX2_learn 5 none, Cond.classLink RX2 32 RX7, Cond.instantiable RX7 6, Cond.initialized RX7, Cond.fieldLink RX2 9 "StageCube$Feature" "ofCorners" "Z", Cond.fieldLink RX2 15 "StageCube$Feature" "size" "I", Cond.arrayClass .int, Cond.fieldLink RX2 37 "StageCube$Feature" "next" "[I", Cond.methodLink RX2 34 yX7_init, Cond.instanceMethod yX7_init, Cond.code yX7_init cX7_init 2 none, Cond.methodLink RX7 3 objectInit, Cond.instanceMethod objectInit, Cond.code objectInit ⟨#[0xb1]⟩ 1 none]
def wsX9_prepare_r2 : List Cond := [Cond.fieldLink RX7 9 "StageCube$Pieces" "count" "I", Cond.fieldLink RX7 15 "StageCube$Pieces" "marks" "I", Cond.fieldLink RX7 18 "StageCube$Pieces" "CORNER_ROUND" "[I", Cond.fieldLink RX7 22 "StageCube$Pieces" "EDGE_ROUND" "[I", Cond.fieldLink RX7 25 "StageCube$Pieces" "round" "[I", Cond.fieldLink RX7 28 "StageCube$Pieces" "TWIST_GAIN" "[I", Cond.fieldLink RX7 31 "StageCube$Pieces" "FLIP_GAIN" "[I", Cond.fieldLink RX7 34 "StageCube$Pieces" "gain" "[I", Cond.fieldLink RX7 37 "StageCube$Pieces" "piece" "[I", Cond.fieldLink RX7 40 "StageCube$Pieces" "mark" "[I", Cond.methodLink RX7 43 yX7_reset, Cond.instanceMethod yX7_reset, Cond.selects RX7 yX7_reset yX7_reset, Cond.code yX7_reset cX7_reset 2 none, Cond.methodLink RX2 41 ⟨"StageCube$Feature", "show", "(ILStageCube$Pieces;)V"⟩, Cond.sameMethod "StageCube$Feature" "StageCube$Feature" "show" "(ILStageCube$Pieces;)V", Cond.selects RX0 ⟨"StageCube$Feature", "show", "(ILStageCube$Pieces;)V"⟩ yX0_show, Cond.instanceMethod yX0_show, Cond.initialized RX0, Cond.code yX0_show cX0_show 7 none, Cond.fieldLink RX0 9 "StageCube$CornerOrders" "order" "[I", Cond.fieldLink RX0 28 "StageCube$Pairings" "EVEN" "[I", Cond.fieldLink RX0 15 "StageCube$Pieces" "piece" "[I", Cond.methodLink RX0 24 yX4_toOrder]
def wsX9_prepare_r3 : List Cond := [Cond.static yX4_toOrder, Cond.initialized RX4, Cond.code yX4_toOrder cX4_toOrder 7 none, Cond.selects RX3 ⟨"StageCube$Feature", "show", "(ILStageCube$Pieces;)V"⟩ yX3_show, Cond.instanceMethod yX3_show, Cond.initialized RX3, Cond.code yX3_show cX3_show 7 none, Cond.fieldLink RX3 7 "StageCube$Pieces" "count" "I", Cond.fieldLink RX3 13 "StageCube$Pieces" "marks" "I", Cond.fieldLink RX3 16 "StageCube$Pieces" "mark" "[I", Cond.selects RX5 ⟨"StageCube$Feature", "show", "(ILStageCube$Pieces;)V"⟩ yX5_show, Cond.instanceMethod yX5_show, Cond.initialized RX5, Cond.code yX5_show cX5_show 4 none, Cond.fieldLink RX5 15 "StageCube$Orders" "order" "[I", Cond.fieldLink RX5 19 "StageCube$Pieces" "piece" "[I", Cond.fieldLink RX5 9 "StageCube$Orders" "first" "I", Cond.methodLink RX5 28 yX4_toOrder, Cond.selects RX6 ⟨"StageCube$Feature", "show", "(ILStageCube$Pieces;)V"⟩ yX6_show, Cond.instanceMethod yX6_show, Cond.initialized RX6, Cond.code yX6_show cX6_show 6 none, Cond.fieldLink RX6 20 "StageCube$Pairings" "order" "[I", Cond.fieldLink RX6 23 "StageCube$Pieces" "piece" "[I"]
def wsX9_prepare_r4 : List Cond := [Cond.fieldLink RX6 28 "StageCube$Pairings" "POSITIONS" "[I", Cond.fieldLink RX6 55 "StageCube$Pairings" "EVEN" "[I", Cond.methodLink RX6 48 yX4_toSet, Cond.static yX4_toSet, Cond.code yX4_toSet cX4_toSet 7 (some .int), Cond.fieldLink RX4 7 "StageCube$Numbering" "CHOOSE" "[I", Cond.methodLink RX6 51 yX4_toOrder, Cond.selects RX8 ⟨"StageCube$Feature", "show", "(ILStageCube$Pieces;)V"⟩ yX8_show, Cond.instanceMethod yX8_show, Cond.initialized RX8, Cond.code yX8_show cX8_show 6 none, Cond.fieldLink RX8 17 "StageCube$Places" "positions" "I", Cond.fieldLink RX8 11 "StageCube$Places" "family" "I", Cond.fieldLink RX8 20 "StageCube$Pieces" "piece" "[I", Cond.methodLink RX8 34 yX4_toSet, Cond.methodLink RX8 26 yX8_position, Cond.instanceMethod yX8_position, Cond.selects RX8 yX8_position yX8_position, Cond.code yX8_position cX8_position 2 (some .int), Cond.methodLink RX2 45 yX7_quarter, Cond.instanceMethod yX7_quarter, Cond.selects RX7 yX7_quarter yX7_quarter, Cond.code yX7_quarter cX7_quarter 7 none, Cond.methodLink RX2 28 ⟨"StageCube$Feature", "read", "(LStageCube$Pieces;)I"⟩]
def wsX9_prepare_r5 : List Cond := [Cond.sameMethod "StageCube$Feature" "StageCube$Feature" "read" "(LStageCube$Pieces;)I", Cond.selects RX0 ⟨"StageCube$Feature", "read", "(LStageCube$Pieces;)I"⟩ yX0_read, Cond.instanceMethod yX0_read, Cond.code yX0_read cX0_read 4 (some .int), Cond.methodLink RX0 20 yX4_ofOrder, Cond.static yX4_ofOrder, Cond.code yX4_ofOrder cX4_ofOrder 4 (some .int), Cond.selects RX3 ⟨"StageCube$Feature", "read", "(LStageCube$Pieces;)I"⟩ yX3_read, Cond.instanceMethod yX3_read, Cond.code yX3_read cX3_read 4 (some .int), Cond.selects RX5 ⟨"StageCube$Feature", "read", "(LStageCube$Pieces;)I"⟩ yX5_read, Cond.instanceMethod yX5_read, Cond.code yX5_read cX5_read 3 (some .int), Cond.methodLink RX5 24 yX4_ofOrder, Cond.selects RX6 ⟨"StageCube$Feature", "read", "(LStageCube$Pieces;)I"⟩ yX6_read, Cond.instanceMethod yX6_read, Cond.code yX6_read cX6_read 6 (some .int), Cond.fieldLink RX6 11 "StageCube$Pairings" "evens" "[I", Cond.fieldLink RX6 17 "StageCube$Pairings" "odds" "[I", Cond.methodLink RX6 31 yJ6_bitCount_0f7a4, Cond.static yJ6_bitCount_0f7a4, Cond.initialized RJ6, Cond.code yJ6_bitCount_0f7a4 cJ6_bitCount_0f7a4 1 (some .int), Cond.constant RJ6 265 (1431655765)]
def wsX9_prepare_r6 : List Cond := [Cond.constant RJ6 266 (858993459), Cond.constant RJ6 267 (252645135), Cond.methodLink RX6 37 yX6_partner, Cond.instanceMethod yX6_partner, Cond.selects RX6 yX6_partner yX6_partner, Cond.code yX6_partner cX6_partner 3 (some .int), Cond.methodLink RX6 40 yX4_ofOrder, Cond.methodLink RX6 44 yX4_ofSet, Cond.static yX4_ofSet, Cond.code yX4_ofSet cX4_ofSet 5 (some .int), Cond.selects RX8 ⟨"StageCube$Feature", "read", "(LStageCube$Pieces;)I"⟩ yX8_read, Cond.instanceMethod yX8_read, Cond.code yX8_read cX8_read 4 (some .int), Cond.methodLink RX8 30 yX4_ofSet, Cond.selects RX3 ⟨"StageCube$Feature", "learn", "(I)V"⟩ yX2_learn, Cond.selects RX5 ⟨"StageCube$Feature", "learn", "(I)V"⟩ yX2_learn, Cond.selects RX6 ⟨"StageCube$Feature", "learn", "(I)V"⟩ yX2_learn, Cond.selects RX8 ⟨"StageCube$Feature", "learn", "(I)V"⟩ yX2_learn, Cond.methodLink RX9 95 yX9_spreadFromGoal, Cond.instanceMethod yX9_spreadFromGoal, Cond.selects RX9 yX9_spreadFromGoal yX9_spreadFromGoal, Cond.initialized RX9, Cond.code yX9_spreadFromGoal cX9_spreadFromGoal 4 none, Cond.fieldLink RX9 18 "StageCube$Stage" "queueLength" "I"]
def wsX9_prepare_r7 : List Cond := [Cond.methodLink RX9 98 yX9_store, Cond.instanceMethod yX9_store, Cond.selects RX9 yX9_store yX9_store, Cond.code yX9_store cX9_store 3 none, Cond.methodLink RX9 101 yX9_spread, Cond.instanceMethod yX9_spread, Cond.selects RX9 yX9_spread yX9_spread, Cond.code yX9_spread cX9_spread 9 (some .int), Cond.fieldLink RX9 15 "StageCube$Stage" "reach" "I", Cond.methodLink RX9 89 yX9_stored, Cond.instanceMethod yX9_stored, Cond.selects RX9 yX9_stored yX9_stored, Cond.code yX9_stored cX9_stored 2 (some .int), Cond.methodLink RX9 105 yX9_showState, Cond.instanceMethod yX9_showState, Cond.selects RX9 yX9_showState yX9_showState, Cond.code yX9_showState cX9_showState 4 none, Cond.fieldLink RX9 25 "StageCube$Stage" "numbers" "[I", Cond.methodLink RX9 63 yX9_copyDown, Cond.instanceMethod yX9_copyDown, Cond.selects RX9 yX9_copyDown yX9_copyDown, Cond.code yX9_copyDown cX9_copyDown 3 none, Cond.methodLink RX9 77 arraycopyName, Cond.native arraycopyName]
def wsX9_prepare_r8 : List Cond := [Cond.static arraycopyName, Cond.initialized "java/lang/System", Cond.methodLink RX9 67 yX9_turnsOf, Cond.instanceMethod yX9_turnsOf, Cond.selects RX9 yX9_turnsOf yX9_turnsOf, Cond.code yX9_turnsOf cX9_turnsOf 2 (some .int), Cond.methodLink RX9 70 yX9_advance, Cond.instanceMethod yX9_advance, Cond.selects RX9 yX9_advance yX9_advance, Cond.code yX9_advance cX9_advance 5 none, Cond.fieldLink RX9 83 "StageCube$Feature" "next" "[I", Cond.methodLink RX9 43 yX9_stateAt, Cond.instanceMethod yX9_stateAt, Cond.selects RX9 yX9_stateAt yX9_stateAt, Cond.code yX9_stateAt cX9_stateAt 5 (some .int)]
def wsX9_prepare : List Cond := .code yX9_prepare cX9_prepare 3 none :: ((wsX9_prepare_r1 ++ (wsX9_prepare_r2 ++ (wsX9_prepare_r3 ++ (wsX9_prepare_r4 ++ (wsX9_prepare_r5 ++ (wsX9_prepare_r6 ++ (wsX9_prepare_r7 ++ wsX9_prepare_r8))))))) ++ wsX90 ++ wsX00 ++ wsX30 ++ wsX50 ++ wsX60 ++ wsX80 ++ wsX70)
def wsX9_turnsToGoal : List Cond := .code yX9_turnsToGoal cX9_turnsToGoal 3 (some .int) :: ([.fieldLink RX9 15 "StageCube$Stage" "reach" "I", .methodLink RX9 89 yX9_stored, .instanceMethod yX9_stored, .selects RX9 yX9_stored yX9_stored, .initialized RX9, .code yX9_stored cX9_stored 2 (some .int), .fieldLink RX9 36 "StageCube$Stage" "near" "[J"] ++ wsX90)
def wsX9_isNeedless : List Cond := .code yX9_isNeedless cX9_isNeedless 2 (some .boolean) :: ([])
def wsX9_firstTurnOf : List Cond := .code yX9_firstTurnOf cX9_firstTurnOf 2 (some .int) :: ([.fieldLink RX9 9 "StageCube$Stage" "facesWithQuarters" "I"] ++ wsX90)
def wsX9_dive_r1 : List Cond := [Cond.fieldLink RX9 29 "StageCube$Stage" "way" "[I", Cond.methodLink RX9 59 yX9_isNeedless, Cond.static yX9_isNeedless, Cond.initialized RX9, Cond.code yX9_isNeedless cX9_isNeedless 2 (some .boolean), Cond.methodLink RX9 63 yX9_copyDown, Cond.instanceMethod yX9_copyDown, Cond.selects RX9 yX9_copyDown yX9_copyDown, Cond.code yX9_copyDown cX9_copyDown 3 none, Cond.fieldLink RX9 21 "StageCube$Stage" "features" "[LStageCube$Feature;", Cond.fieldLink RX9 25 "StageCube$Stage" "numbers" "[I", Cond.methodLink RX9 77 arraycopyName, Cond.native arraycopyName, Cond.static arraycopyName, Cond.initialized "java/lang/System", Cond.methodLink RX9 67 yX9_turnsOf, Cond.instanceMethod yX9_turnsOf, Cond.selects RX9 yX9_turnsOf yX9_turnsOf, Cond.code yX9_turnsOf cX9_turnsOf 2 (some .int), Cond.fieldLink RX9 9 "StageCube$Stage" "facesWithQuarters" "I", Cond.methodLink RX9 70 yX9_advance, Cond.instanceMethod yX9_advance, Cond.selects RX9 yX9_advance yX9_advance, Cond.code yX9_advance cX9_advance 5 none]
def wsX9_dive_r2 : List Cond := [Cond.fieldLink RX9 83 "StageCube$Feature" "next" "[I", Cond.methodLink RX9 43 yX9_stateAt, Cond.instanceMethod yX9_stateAt, Cond.selects RX9 yX9_stateAt yX9_stateAt, Cond.code yX9_stateAt cX9_stateAt 5 (some .int), Cond.fieldLink RX9 86 "StageCube$Feature" "size" "I", Cond.methodLink RX9 47 yX9_turnsToGoal, Cond.instanceMethod yX9_turnsToGoal, Cond.selects RX9 yX9_turnsToGoal yX9_turnsToGoal, Cond.code yX9_turnsToGoal cX9_turnsToGoal 3 (some .int), Cond.fieldLink RX9 15 "StageCube$Stage" "reach" "I", Cond.methodLink RX9 89 yX9_stored, Cond.instanceMethod yX9_stored, Cond.selects RX9 yX9_stored yX9_stored, Cond.code yX9_stored cX9_stored 2 (some .int), Cond.fieldLink RX9 36 "StageCube$Stage" "near" "[J", Cond.methodLink RX9 74 yX9_firstTurnOf, Cond.instanceMethod yX9_firstTurnOf, Cond.selects RX9 yX9_firstTurnOf yX9_firstTurnOf, Cond.code yX9_firstTurnOf cX9_firstTurnOf 2 (some .int), Cond.methodLink RX9 50 yX9_dive, Cond.instanceMethod yX9_dive, Cond.selects RX9 yX9_dive yX9_dive]
def wsX9_dive : List Cond := .code yX9_dive cX9_dive 6 (some .boolean) :: ((wsX9_dive_r1 ++ wsX9_dive_r2) ++ wsX90 ++ wsX00 ++ wsX30 ++ wsX50 ++ wsX60 ++ wsX80)
def wsX9_find_r1 : List Cond := [Cond.fieldLink RX9 36 "StageCube$Stage" "near" "[J", Cond.methodLink RX9 32 yX9_readStart, Cond.instanceMethod yX9_readStart, Cond.selects RX9 yX9_readStart yX9_readStart, Cond.initialized RX9, Cond.code yX9_readStart cX9_readStart 3 (some .int), Cond.fieldLink RX9 21 "StageCube$Stage" "features" "[LStageCube$Feature;", Cond.fieldLink RX9 25 "StageCube$Stage" "numbers" "[I", Cond.methodLink RX9 54 ⟨"StageCube$Feature", "readFrom", "(LStageCube$Cube;)I"⟩, Cond.sameMethod "StageCube$Feature" "StageCube$Feature" "readFrom" "(LStageCube$Cube;)I", Cond.selects RX0 ⟨"StageCube$Feature", "readFrom", "(LStageCube$Cube;)I"⟩ yX2_readFrom, Cond.instanceMethod yX2_readFrom, Cond.initialized RX2, Cond.code yX2_readFrom cX2_readFrom 2 (some .int), Cond.fieldLink RX2 9 "StageCube$Feature" "ofCorners" "Z", Cond.fieldLink RX2 19 "StageCube$Cube" "corners" "LStageCube$Pieces;", Cond.fieldLink RX2 25 "StageCube$Cube" "edges" "LStageCube$Pieces;", Cond.methodLink RX2 28 ⟨"StageCube$Feature", "read", "(LStageCube$Pieces;)I"⟩, Cond.sameMethod "StageCube$Feature" "StageCube$Feature" "read" "(LStageCube$Pieces;)I", Cond.selects RX0 ⟨"StageCube$Feature", "read", "(LStageCube$Pieces;)I"⟩ yX0_read, Cond.instanceMethod yX0_read, Cond.initialized RX0, Cond.code yX0_read cX0_read 4 (some .int), Cond.fieldLink RX0 15 "StageCube$Pieces" "piece" "[I"]
def wsX9_find_r2 : List Cond := [Cond.methodLink RX0 20 yX4_ofOrder, Cond.static yX4_ofOrder, Cond.initialized RX4, Cond.code yX4_ofOrder cX4_ofOrder 4 (some .int), Cond.selects RX3 ⟨"StageCube$Feature", "read", "(LStageCube$Pieces;)I"⟩ yX3_read, Cond.instanceMethod yX3_read, Cond.initialized RX3, Cond.code yX3_read cX3_read 4 (some .int), Cond.fieldLink RX3 7 "StageCube$Pieces" "count" "I", Cond.fieldLink RX3 13 "StageCube$Pieces" "marks" "I", Cond.fieldLink RX3 16 "StageCube$Pieces" "mark" "[I", Cond.selects RX5 ⟨"StageCube$Feature", "read", "(LStageCube$Pieces;)I"⟩ yX5_read, Cond.instanceMethod yX5_read, Cond.initialized RX5, Cond.code yX5_read cX5_read 3 (some .int), Cond.fieldLink RX5 19 "StageCube$Pieces" "piece" "[I", Cond.fieldLink RX5 9 "StageCube$Orders" "first" "I", Cond.methodLink RX5 24 yX4_ofOrder, Cond.selects RX6 ⟨"StageCube$Feature", "read", "(LStageCube$Pieces;)I"⟩ yX6_read, Cond.instanceMethod yX6_read, Cond.initialized RX6, Cond.code yX6_read cX6_read 6 (some .int), Cond.fieldLink RX6 23 "StageCube$Pieces" "piece" "[I", Cond.fieldLink RX6 28 "StageCube$Pairings" "POSITIONS" "[I"]
def wsX9_find_r3 : List Cond := [Cond.fieldLink RX6 11 "StageCube$Pairings" "evens" "[I", Cond.fieldLink RX6 17 "StageCube$Pairings" "odds" "[I", Cond.methodLink RX6 31 yJ6_bitCount_0f7a4, Cond.static yJ6_bitCount_0f7a4, Cond.initialized RJ6, Cond.code yJ6_bitCount_0f7a4 cJ6_bitCount_0f7a4 1 (some .int), Cond.constant RJ6 265 (1431655765), Cond.constant RJ6 266 (858993459), Cond.constant RJ6 267 (252645135), Cond.methodLink RX6 37 yX6_partner, Cond.instanceMethod yX6_partner, Cond.selects RX6 yX6_partner yX6_partner, Cond.code yX6_partner cX6_partner 3 (some .int), Cond.methodLink RX6 40 yX4_ofOrder, Cond.methodLink RX6 44 yX4_ofSet, Cond.static yX4_ofSet, Cond.code yX4_ofSet cX4_ofSet 5 (some .int), Cond.fieldLink RX4 7 "StageCube$Numbering" "CHOOSE" "[I", Cond.selects RX8 ⟨"StageCube$Feature", "read", "(LStageCube$Pieces;)I"⟩ yX8_read, Cond.instanceMethod yX8_read, Cond.initialized RX8, Cond.code yX8_read cX8_read 4 (some .int), Cond.fieldLink RX8 17 "StageCube$Places" "positions" "I", Cond.fieldLink RX8 20 "StageCube$Pieces" "piece" "[I"]
def wsX9_find_r4 : List Cond := [Cond.fieldLink RX8 11 "StageCube$Places" "family" "I", Cond.methodLink RX8 26 yX8_position, Cond.instanceMethod yX8_position, Cond.selects RX8 yX8_position yX8_position, Cond.code yX8_position cX8_position 2 (some .int), Cond.methodLink RX8 30 yX4_ofSet, Cond.selects RX3 ⟨"StageCube$Feature", "readFrom", "(LStageCube$Cube;)I"⟩ yX2_readFrom, Cond.selects RX5 ⟨"StageCube$Feature", "readFrom", "(LStageCube$Cube;)I"⟩ yX2_readFrom, Cond.selects RX6 ⟨"StageCube$Feature", "readFrom", "(LStageCube$Cube;)I"⟩ yX2_readFrom, Cond.selects RX8 ⟨"StageCube$Feature", "readFrom", "(LStageCube$Cube;)I"⟩ yX2_readFrom, Cond.methodLink RX9 43 yX9_stateAt, Cond.instanceMethod yX9_stateAt, Cond.selects RX9 yX9_stateAt yX9_stateAt, Cond.code yX9_stateAt cX9_stateAt 5 (some .int), Cond.fieldLink RX9 86 "StageCube$Feature" "size" "I", Cond.methodLink RX9 40 yX9_prepare, Cond.instanceMethod yX9_prepare, Cond.selects RX9 yX9_prepare yX9_prepare, Cond.code yX9_prepare cX9_prepare 3 none, Cond.fieldLink RX9 9 "StageCube$Stage" "facesWithQuarters" "I", Cond.arrayClass .long, Cond.methodLink RX9 92 ⟨"StageCube$Feature", "learn", "(I)V"⟩, Cond.sameMethod "StageCube$Feature" "StageCube$Feature" "learn" "(I)V", Cond.selects RX0 ⟨"StageCube$Feature", "learn", "(I)V"⟩ yX2_learn]
def wsX9_find_r5 : List Cond := [Cond.instanceMethod yX2_learn, Cond.code yX2_learn cX2_learn 5 none, Cond.classLink RX2 32 RX7, Cond.instantiable RX7 6, Cond.initialized RX7, Cond.fieldLink RX2 15 "StageCube$Feature" "size" "I", Cond.arrayClass .int, Cond.fieldLink RX2 37 "StageCube$Feature" "next" "[I", Cond.methodLink RX2 34 yX7_init, Cond.instanceMethod yX7_init, Cond.code yX7_init cX7_init 2 none, Cond.methodLink RX7 3 objectInit, Cond.instanceMethod objectInit, Cond.code objectInit ⟨#[0xb1]⟩ 1 none, Cond.fieldLink RX7 9 "StageCube$Pieces" "count" "I", Cond.fieldLink RX7 15 "StageCube$Pieces" "marks" "I", Cond.fieldLink RX7 18 "StageCube$Pieces" "CORNER_ROUND" "[I", Cond.fieldLink RX7 22 "StageCube$Pieces" "EDGE_ROUND" "[I", Cond.fieldLink RX7 25 "StageCube$Pieces" "round" "[I", Cond.fieldLink RX7 28 "StageCube$Pieces" "TWIST_GAIN" "[I", Cond.fieldLink RX7 31 "StageCube$Pieces" "FLIP_GAIN" "[I", Cond.fieldLink RX7 34 "StageCube$Pieces" "gain" "[I", Cond.fieldLink RX7 37 "StageCube$Pieces" "piece" "[I", Cond.fieldLink RX7 40 "StageCube$Pieces" "mark" "[I"]
def wsX9_find_r6 : List Cond := [Cond.methodLink RX7 43 yX7_reset, Cond.instanceMethod yX7_reset, Cond.selects RX7 yX7_reset yX7_reset, Cond.code yX7_reset cX7_reset 2 none, Cond.methodLink RX2 41 ⟨"StageCube$Feature", "show", "(ILStageCube$Pieces;)V"⟩, Cond.sameMethod "StageCube$Feature" "StageCube$Feature" "show" "(ILStageCube$Pieces;)V", Cond.selects RX0 ⟨"StageCube$Feature", "show", "(ILStageCube$Pieces;)V"⟩ yX0_show, Cond.instanceMethod yX0_show, Cond.code yX0_show cX0_show 7 none, Cond.fieldLink RX0 9 "StageCube$CornerOrders" "order" "[I", Cond.fieldLink RX0 28 "StageCube$Pairings" "EVEN" "[I", Cond.methodLink RX0 24 yX4_toOrder, Cond.static yX4_toOrder, Cond.code yX4_toOrder cX4_toOrder 7 none, Cond.selects RX3 ⟨"StageCube$Feature", "show", "(ILStageCube$Pieces;)V"⟩ yX3_show, Cond.instanceMethod yX3_show, Cond.code yX3_show cX3_show 7 none, Cond.selects RX5 ⟨"StageCube$Feature", "show", "(ILStageCube$Pieces;)V"⟩ yX5_show, Cond.instanceMethod yX5_show, Cond.code yX5_show cX5_show 4 none, Cond.fieldLink RX5 15 "StageCube$Orders" "order" "[I", Cond.methodLink RX5 28 yX4_toOrder, Cond.selects RX6 ⟨"StageCube$Feature", "show", "(ILStageCube$Pieces;)V"⟩ yX6_show, Cond.instanceMethod yX6_show]
def wsX9_find_r7 : List Cond := [Cond.code yX6_show cX6_show 6 none, Cond.fieldLink RX6 20 "StageCube$Pairings" "order" "[I", Cond.fieldLink RX6 55 "StageCube$Pairings" "EVEN" "[I", Cond.methodLink RX6 48 yX4_toSet, Cond.static yX4_toSet, Cond.code yX4_toSet cX4_toSet 7 (some .int), Cond.methodLink RX6 51 yX4_toOrder, Cond.selects RX8 ⟨"StageCube$Feature", "show", "(ILStageCube$Pieces;)V"⟩ yX8_show, Cond.instanceMethod yX8_show, Cond.code yX8_show cX8_show 6 none, Cond.methodLink RX8 34 yX4_toSet, Cond.methodLink RX2 45 yX7_quarter, Cond.instanceMethod yX7_quarter, Cond.selects RX7 yX7_quarter yX7_quarter, Cond.code yX7_quarter cX7_quarter 7 none, Cond.selects RX3 ⟨"StageCube$Feature", "learn", "(I)V"⟩ yX2_learn, Cond.selects RX5 ⟨"StageCube$Feature", "learn", "(I)V"⟩ yX2_learn, Cond.selects RX6 ⟨"StageCube$Feature", "learn", "(I)V"⟩ yX2_learn, Cond.selects RX8 ⟨"StageCube$Feature", "learn", "(I)V"⟩ yX2_learn, Cond.methodLink RX9 95 yX9_spreadFromGoal, Cond.instanceMethod yX9_spreadFromGoal, Cond.selects RX9 yX9_spreadFromGoal yX9_spreadFromGoal, Cond.code yX9_spreadFromGoal cX9_spreadFromGoal 4 none, Cond.fieldLink RX9 18 "StageCube$Stage" "queueLength" "I"]
def wsX9_find_r8 : List Cond := [Cond.methodLink RX9 98 yX9_store, Cond.instanceMethod yX9_store, Cond.selects RX9 yX9_store yX9_store, Cond.code yX9_store cX9_store 3 none, Cond.methodLink RX9 101 yX9_spread, Cond.instanceMethod yX9_spread, Cond.selects RX9 yX9_spread yX9_spread, Cond.code yX9_spread cX9_spread 9 (some .int), Cond.fieldLink RX9 15 "StageCube$Stage" "reach" "I", Cond.methodLink RX9 89 yX9_stored, Cond.instanceMethod yX9_stored, Cond.selects RX9 yX9_stored yX9_stored, Cond.code yX9_stored cX9_stored 2 (some .int), Cond.methodLink RX9 105 yX9_showState, Cond.instanceMethod yX9_showState, Cond.selects RX9 yX9_showState yX9_showState, Cond.code yX9_showState cX9_showState 4 none, Cond.methodLink RX9 63 yX9_copyDown, Cond.instanceMethod yX9_copyDown, Cond.selects RX9 yX9_copyDown yX9_copyDown, Cond.code yX9_copyDown cX9_copyDown 3 none, Cond.methodLink RX9 77 arraycopyName, Cond.native arraycopyName, Cond.static arraycopyName]
def wsX9_find_r9 : List Cond := [Cond.initialized "java/lang/System", Cond.methodLink RX9 67 yX9_turnsOf, Cond.instanceMethod yX9_turnsOf, Cond.selects RX9 yX9_turnsOf yX9_turnsOf, Cond.code yX9_turnsOf cX9_turnsOf 2 (some .int), Cond.methodLink RX9 70 yX9_advance, Cond.instanceMethod yX9_advance, Cond.selects RX9 yX9_advance yX9_advance, Cond.code yX9_advance cX9_advance 5 none, Cond.fieldLink RX9 83 "StageCube$Feature" "next" "[I", Cond.methodLink RX9 47 yX9_turnsToGoal, Cond.instanceMethod yX9_turnsToGoal, Cond.selects RX9 yX9_turnsToGoal yX9_turnsToGoal, Cond.code yX9_turnsToGoal cX9_turnsToGoal 3 (some .int), Cond.methodLink RX9 50 yX9_dive, Cond.instanceMethod yX9_dive, Cond.selects RX9 yX9_dive yX9_dive, Cond.code yX9_dive cX9_dive 6 (some .boolean), Cond.fieldLink RX9 29 "StageCube$Stage" "way" "[I", Cond.methodLink RX9 59 yX9_isNeedless, Cond.static yX9_isNeedless, Cond.code yX9_isNeedless cX9_isNeedless 2 (some .boolean), Cond.methodLink RX9 74 yX9_firstTurnOf, Cond.instanceMethod yX9_firstTurnOf]
def wsX9_find_r10 : List Cond := [Cond.selects RX9 yX9_firstTurnOf yX9_firstTurnOf, Cond.code yX9_firstTurnOf cX9_firstTurnOf 2 (some .int)]
def wsX9_find : List Cond := .code yX9_find cX9_find 4 (some .int) :: ((wsX9_find_r1 ++ (wsX9_find_r2 ++ (wsX9_find_r3 ++ (wsX9_find_r4 ++ (wsX9_find_r5 ++ (wsX9_find_r6 ++ (wsX9_find_r7 ++ (wsX9_find_r8 ++ (wsX9_find_r9 ++ wsX9_find_r10))))))))) ++ wsX90 ++ wsX00 ++ wsX30 ++ wsX50 ++ wsX60 ++ wsX80 ++ wsX10 ++ wsX70)
def wsX10_init_r1 : List Cond := [Cond.methodLink RX10 1 objectInit, Cond.instanceMethod objectInit, Cond.code objectInit ⟨#[0xb1]⟩ 1 none, Cond.classLink RX10 7 RX1, Cond.instantiable RX1 2, Cond.initialized RX1, Cond.fieldLink RX10 10 "StageCube" "cube" "LStageCube$Cube;", Cond.fieldLink RX10 16 "StageCube" "walker" "LStageCube$Cube;", Cond.classLink RX10 19 RX9, Cond.fieldLink RX10 21 "StageCube" "stages" "[LStageCube$Stage;", Cond.arrayClass .int, Cond.fieldLink RX10 25 "StageCube" "lengths" "[I", Cond.fieldLink RX10 29 "StageCube" "steps" "[I", Cond.fieldLink RX10 32 "StageCube" "stepCount" "I", Cond.fieldLink RX10 36 "StageCube" "turnsSinceHome" "I", Cond.methodLink RX10 9 yX1_init, Cond.instanceMethod yX1_init, Cond.code yX1_init cX1_init 1 none, Cond.methodLink RX1 1 objectInit, Cond.classLink RX1 7 RX7, Cond.instantiable RX7 6, Cond.initialized RX7, Cond.fieldLink RX1 12 "StageCube$Cube" "corners" "LStageCube$Pieces;", Cond.fieldLink RX1 18 "StageCube$Cube" "edges" "LStageCube$Pieces;"]
def wsX10_init_r2 : List Cond := [Cond.methodLink RX1 9 yX7_init, Cond.instanceMethod yX7_init, Cond.code yX7_init cX7_init 2 none, Cond.methodLink RX7 3 objectInit, Cond.fieldLink RX7 9 "StageCube$Pieces" "count" "I", Cond.fieldLink RX7 15 "StageCube$Pieces" "marks" "I", Cond.fieldLink RX7 18 "StageCube$Pieces" "CORNER_ROUND" "[I", Cond.fieldLink RX7 22 "StageCube$Pieces" "EDGE_ROUND" "[I", Cond.fieldLink RX7 25 "StageCube$Pieces" "round" "[I", Cond.fieldLink RX7 28 "StageCube$Pieces" "TWIST_GAIN" "[I", Cond.fieldLink RX7 31 "StageCube$Pieces" "FLIP_GAIN" "[I", Cond.fieldLink RX7 34 "StageCube$Pieces" "gain" "[I", Cond.fieldLink RX7 37 "StageCube$Pieces" "piece" "[I", Cond.fieldLink RX7 40 "StageCube$Pieces" "mark" "[I", Cond.methodLink RX7 43 yX7_reset, Cond.instanceMethod yX7_reset, Cond.selects RX7 yX7_reset yX7_reset, Cond.code yX7_reset cX7_reset 2 none]
def wsX10_init : List Cond := .code yX10_init cX10_init 1 none :: ((wsX10_init_r1 ++ wsX10_init_r2) ++ wsX10 ++ wsX100 ++ wsX70)
def wsX10_corner : List Cond := .code yX10_corner cX10_corner 4 (some .int) :: ([.fieldLink RX10 10 "StageCube" "cube" "LStageCube$Cube;", .fieldLink RX10 39 "StageCube$Cube" "corners" "LStageCube$Pieces;", .methodLink RX10 43 yX7_put, .instanceMethod yX7_put, .selects RX7 yX7_put yX7_put, .initialized RX7, .code yX7_put cX7_put 4 (some .boolean), .fieldLink RX7 9 "StageCube$Pieces" "count" "I", .fieldLink RX7 15 "StageCube$Pieces" "marks" "I", .fieldLink RX7 37 "StageCube$Pieces" "piece" "[I", .fieldLink RX7 40 "StageCube$Pieces" "mark" "[I", .methodLink RX7 46 yX7_isNumber, .static yX7_isNumber, .code yX7_isNumber cX7_isNumber 2 (some .boolean)] ++ wsX100 ++ wsX10 ++ wsX70)
def wsX10_edge : List Cond := .code yX10_edge cX10_edge 4 (some .int) :: ([.fieldLink RX10 10 "StageCube" "cube" "LStageCube$Cube;", .fieldLink RX10 49 "StageCube$Cube" "edges" "LStageCube$Pieces;", .methodLink RX10 43 yX7_put, .instanceMethod yX7_put, .selects RX7 yX7_put yX7_put, .initialized RX7, .code yX7_put cX7_put 4 (some .boolean), .fieldLink RX7 9 "StageCube$Pieces" "count" "I", .fieldLink RX7 15 "StageCube$Pieces" "marks" "I", .fieldLink RX7 37 "StageCube$Pieces" "piece" "[I", .fieldLink RX7 40 "StageCube$Pieces" "mark" "[I", .methodLink RX7 46 yX7_isNumber, .static yX7_isNumber, .code yX7_isNumber cX7_isNumber 2 (some .boolean)] ++ wsX100 ++ wsX10 ++ wsX70)
def wsX10_at : List Cond := .code yX10_at cX10_at 3 (some .int) :: ([.fieldLink RX10 10 "StageCube" "cube" "LStageCube$Cube;", .fieldLink RX10 39 "StageCube$Cube" "corners" "LStageCube$Pieces;", .fieldLink RX10 49 "StageCube$Cube" "edges" "LStageCube$Pieces;", .methodLink RX10 52 yX7_describe, .instanceMethod yX7_describe, .selects RX7 yX7_describe yX7_describe, .initialized RX7, .code yX7_describe cX7_describe 2 (some .int), .fieldLink RX7 9 "StageCube$Pieces" "count" "I", .fieldLink RX7 15 "StageCube$Pieces" "marks" "I", .fieldLink RX7 37 "StageCube$Pieces" "piece" "[I", .fieldLink RX7 40 "StageCube$Pieces" "mark" "[I", .methodLink RX7 46 yX7_isNumber, .static yX7_isNumber, .code yX7_isNumber cX7_isNumber 2 (some .boolean)] ++ wsX100 ++ wsX10 ++ wsX70)
def wsX10_lawful : List Cond := .code yX10_lawful cX10_lawful 1 (some .int) :: ([.fieldLink RX10 10 "StageCube" "cube" "LStageCube$Cube;", .fieldLink RX10 39 "StageCube$Cube" "corners" "LStageCube$Pieces;", .fieldLink RX10 49 "StageCube$Cube" "edges" "LStageCube$Pieces;", .methodLink RX10 56 yX7_allThere, .instanceMethod yX7_allThere, .selects RX7 yX7_allThere yX7_allThere, .initialized RX7, .code yX7_allThere cX7_allThere 3 (some .boolean), .fieldLink RX7 9 "StageCube$Pieces" "count" "I", .fieldLink RX7 37 "StageCube$Pieces" "piece" "[I", .methodLink RX10 60 yX7_marksCancel, .instanceMethod yX7_marksCancel, .selects RX7 yX7_marksCancel yX7_marksCancel, .code yX7_marksCancel cX7_marksCancel 3 (some .boolean), .fieldLink RX7 40 "StageCube$Pieces" "mark" "[I", .fieldLink RX7 15 "StageCube$Pieces" "marks" "I", .methodLink RX10 63 yX7_oddlySwapped, .instanceMethod yX7_oddlySwapped, .selects RX7 yX7_oddlySwapped yX7_oddlySwapped, .code yX7_oddlySwapped cX7_oddlySwapped 4 (some .boolean)] ++ wsX100 ++ wsX10 ++ wsX70)
def wsX10_turn : List Cond := .code yX10_turn cX10_turn 2 (some .int) :: ([.fieldLink RX10 10 "StageCube" "cube" "LStageCube$Cube;", .fieldLink RX10 36 "StageCube" "turnsSinceHome" "I", .methodLink RX10 66 yX1_make, .instanceMethod yX1_make, .selects RX1 yX1_make yX1_make, .initialized RX1, .code yX1_make cX1_make 5 none, .fieldLink RX1 12 "StageCube$Cube" "corners" "LStageCube$Pieces;", .fieldLink RX1 18 "StageCube$Cube" "edges" "LStageCube$Pieces;", .methodLink RX1 28 yX7_quarter, .instanceMethod yX7_quarter, .selects RX7 yX7_quarter yX7_quarter, .initialized RX7, .code yX7_quarter cX7_quarter 7 none, .fieldLink RX7 37 "StageCube$Pieces" "piece" "[I", .fieldLink RX7 25 "StageCube$Pieces" "round" "[I", .fieldLink RX7 40 "StageCube$Pieces" "mark" "[I", .fieldLink RX7 34 "StageCube$Pieces" "gain" "[I", .fieldLink RX7 15 "StageCube$Pieces" "marks" "I"] ++ wsX100 ++ wsX10 ++ wsX70)
def wsX10_home : List Cond := .code yX10_home cX10_home 2 (some .int) :: ([.fieldLink RX10 36 "StageCube" "turnsSinceHome" "I", .fieldLink RX10 10 "StageCube" "cube" "LStageCube$Cube;", .methodLink RX10 70 yX1_reset, .instanceMethod yX1_reset, .selects RX1 yX1_reset yX1_reset, .initialized RX1, .code yX1_reset cX1_reset 1 none, .fieldLink RX1 12 "StageCube$Cube" "corners" "LStageCube$Pieces;", .fieldLink RX1 18 "StageCube$Cube" "edges" "LStageCube$Pieces;", .methodLink RX1 21 yX7_reset, .instanceMethod yX7_reset, .selects RX7 yX7_reset yX7_reset, .initialized RX7, .code yX7_reset cX7_reset 2 none, .fieldLink RX7 9 "StageCube$Pieces" "count" "I", .fieldLink RX7 37 "StageCube$Pieces" "piece" "[I", .fieldLink RX7 40 "StageCube$Pieces" "mark" "[I"] ++ wsX100 ++ wsX10 ++ wsX70)
def wsX10_isHome : List Cond := .code yX10_isHome cX10_isHome 1 (some .int) :: ([.fieldLink RX10 10 "StageCube" "cube" "LStageCube$Cube;", .fieldLink RX10 39 "StageCube$Cube" "corners" "LStageCube$Pieces;", .fieldLink RX10 49 "StageCube$Cube" "edges" "LStageCube$Pieces;", .methodLink RX10 73 yX7_atHome, .instanceMethod yX7_atHome, .selects RX7 yX7_atHome yX7_atHome, .initialized RX7, .code yX7_atHome cX7_atHome 2 (some .boolean), .fieldLink RX7 9 "StageCube$Pieces" "count" "I", .fieldLink RX7 37 "StageCube$Pieces" "piece" "[I", .fieldLink RX7 40 "StageCube$Pieces" "mark" "[I"] ++ wsX100 ++ wsX10 ++ wsX70)
def wsX10_forgetWay : List Cond := .code yX10_forgetWay cX10_forgetWay 2 none :: ([.fieldLink RX10 32 "StageCube" "stepCount" "I", .fieldLink RX10 25 "StageCube" "lengths" "[I"] ++ wsX100)
def wsX10_newStage_r1 : List Cond := [Cond.classLink RX10 19 RX9, Cond.instantiable RX9 7, Cond.initialized RX9, Cond.classLink RX10 104 RX2, Cond.classLink RX10 106 RX3, Cond.instantiable RX3 3, Cond.initialized RX3, Cond.classLink RX10 114 RX8, Cond.instantiable RX8 5, Cond.initialized RX8, Cond.classLink RX10 119 RX6, Cond.instantiable RX6 6, Cond.initialized RX6, Cond.classLink RX10 122 RX0, Cond.instantiable RX0 4, Cond.initialized RX0, Cond.classLink RX10 125 RX5, Cond.instantiable RX5 5, Cond.initialized RX5, Cond.methodLink RX10 108 yX3_init, Cond.instanceMethod yX3_init, Cond.code yX3_init cX3_init 2 none, Cond.methodLink RX3 1 yX2_init, Cond.instanceMethod yX2_init]
def wsX10_newStage_r2 : List Cond := [Cond.initialized RX2, Cond.code yX2_init cX2_init 3 none, Cond.methodLink RX2 3 objectInit, Cond.instanceMethod objectInit, Cond.code objectInit ⟨#[0xb1]⟩ 1 none, Cond.fieldLink RX2 9 "StageCube$Feature" "ofCorners" "Z", Cond.fieldLink RX2 15 "StageCube$Feature" "size" "I", Cond.methodLink RX10 111 yX9_init, Cond.instanceMethod yX9_init, Cond.code yX9_init cX9_init 5 none, Cond.methodLink RX9 3 objectInit, Cond.fieldLink RX9 9 "StageCube$Stage" "facesWithQuarters" "I", Cond.fieldLink RX9 15 "StageCube$Stage" "reach" "I", Cond.fieldLink RX9 18 "StageCube$Stage" "queueLength" "I", Cond.fieldLink RX9 21 "StageCube$Stage" "features" "[LStageCube$Feature;", Cond.arrayClass .int, Cond.fieldLink RX9 25 "StageCube$Stage" "numbers" "[I", Cond.fieldLink RX9 29 "StageCube$Stage" "way" "[I", Cond.methodLink RX10 116 yX8_init, Cond.instanceMethod yX8_init, Cond.code yX8_init cX8_init 3 none, Cond.fieldLink RX8 11 "StageCube$Places" "family" "I", Cond.fieldLink RX8 17 "StageCube$Places" "positions" "I", Cond.methodLink RX8 5 yX2_init]
def wsX10_newStage_r3 : List Cond := [Cond.methodLink RX10 121 yX6_init, Cond.instanceMethod yX6_init, Cond.code yX6_init cX6_init 1 none, Cond.fieldLink RX6 11 "StageCube$Pairings" "evens" "[I", Cond.fieldLink RX6 17 "StageCube$Pairings" "odds" "[I", Cond.fieldLink RX6 20 "StageCube$Pairings" "order" "[I", Cond.methodLink RX6 5 yX2_init, Cond.methodLink RX10 124 yX0_init, Cond.instanceMethod yX0_init, Cond.code yX0_init cX0_init 1 none, Cond.fieldLink RX0 9 "StageCube$CornerOrders" "order" "[I", Cond.methodLink RX0 3 yX2_init, Cond.methodLink RX10 127 yX5_init, Cond.instanceMethod yX5_init, Cond.code yX5_init cX5_init 2 none, Cond.fieldLink RX5 9 "StageCube$Orders" "first" "I", Cond.fieldLink RX5 15 "StageCube$Orders" "order" "[I", Cond.methodLink RX5 3 yX2_init]
def wsX10_newStage : List Cond := .code yX10_newStage cX10_newStage 1 (some (.object "StageCube$Stage")) :: ((wsX10_newStage_r1 ++ (wsX10_newStage_r2 ++ wsX10_newStage_r3)) ++ wsX90 ++ wsX30 ++ wsX80 ++ wsX60 ++ wsX00 ++ wsX50)
def wsX10_knownStage_r1 : List Cond := [Cond.fieldLink RX10 21 "StageCube" "stages" "[LStageCube$Stage;", Cond.methodLink RX10 101 yX10_newStage, Cond.static yX10_newStage, Cond.initialized RX10, Cond.code yX10_newStage cX10_newStage 1 (some (.object "StageCube$Stage")), Cond.classLink RX10 19 RX9, Cond.instantiable RX9 7, Cond.initialized RX9, Cond.classLink RX10 104 RX2, Cond.classLink RX10 106 RX3, Cond.instantiable RX3 3, Cond.initialized RX3, Cond.classLink RX10 114 RX8, Cond.instantiable RX8 5, Cond.initialized RX8, Cond.classLink RX10 119 RX6, Cond.instantiable RX6 6, Cond.initialized RX6, Cond.classLink RX10 122 RX0, Cond.instantiable RX0 4, Cond.initialized RX0, Cond.classLink RX10 125 RX5, Cond.instantiable RX5 5, Cond.initialized RX5]
def wsX10_knownStage_r2 : List Cond := [Cond.methodLink RX10 108 yX3_init, Cond.instanceMethod yX3_init, Cond.code yX3_init cX3_init 2 none, Cond.methodLink RX3 1 yX2_init, Cond.instanceMethod yX2_init, Cond.initialized RX2, Cond.code yX2_init cX2_init 3 none, Cond.methodLink RX2 3 objectInit, Cond.instanceMethod objectInit, Cond.code objectInit ⟨#[0xb1]⟩ 1 none, Cond.fieldLink RX2 9 "StageCube$Feature" "ofCorners" "Z", Cond.fieldLink RX2 15 "StageCube$Feature" "size" "I", Cond.methodLink RX10 111 yX9_init, Cond.instanceMethod yX9_init, Cond.code yX9_init cX9_init 5 none, Cond.methodLink RX9 3 objectInit, Cond.fieldLink RX9 9 "StageCube$Stage" "facesWithQuarters" "I", Cond.fieldLink RX9 15 "StageCube$Stage" "reach" "I", Cond.fieldLink RX9 18 "StageCube$Stage" "queueLength" "I", Cond.fieldLink RX9 21 "StageCube$Stage" "features" "[LStageCube$Feature;", Cond.arrayClass .int, Cond.fieldLink RX9 25 "StageCube$Stage" "numbers" "[I", Cond.fieldLink RX9 29 "StageCube$Stage" "way" "[I", Cond.methodLink RX10 116 yX8_init]
def wsX10_knownStage_r3 : List Cond := [Cond.instanceMethod yX8_init, Cond.code yX8_init cX8_init 3 none, Cond.fieldLink RX8 11 "StageCube$Places" "family" "I", Cond.fieldLink RX8 17 "StageCube$Places" "positions" "I", Cond.methodLink RX8 5 yX2_init, Cond.methodLink RX10 121 yX6_init, Cond.instanceMethod yX6_init, Cond.code yX6_init cX6_init 1 none, Cond.fieldLink RX6 11 "StageCube$Pairings" "evens" "[I", Cond.fieldLink RX6 17 "StageCube$Pairings" "odds" "[I", Cond.fieldLink RX6 20 "StageCube$Pairings" "order" "[I", Cond.methodLink RX6 5 yX2_init, Cond.methodLink RX10 124 yX0_init, Cond.instanceMethod yX0_init, Cond.code yX0_init cX0_init 1 none, Cond.fieldLink RX0 9 "StageCube$CornerOrders" "order" "[I", Cond.methodLink RX0 3 yX2_init, Cond.methodLink RX10 127 yX5_init, Cond.instanceMethod yX5_init, Cond.code yX5_init cX5_init 2 none, Cond.fieldLink RX5 9 "StageCube$Orders" "first" "I", Cond.fieldLink RX5 15 "StageCube$Orders" "order" "[I", Cond.methodLink RX5 3 yX2_init]
def wsX10_knownStage : List Cond := .code yX10_knownStage cX10_knownStage 2 (some (.object "StageCube$Stage")) :: ((wsX10_knownStage_r1 ++ (wsX10_knownStage_r2 ++ wsX10_knownStage_r3)) ++ wsX100 ++ wsX90 ++ wsX30 ++ wsX80 ++ wsX60 ++ wsX00 ++ wsX50)
def wsX10_walkStage_r1 : List Cond := [Cond.fieldLink RX10 16 "StageCube" "walker" "LStageCube$Cube;", Cond.fieldLink RX10 25 "StageCube" "lengths" "[I", Cond.fieldLink RX10 98 "StageCube$Stage" "way" "[I", Cond.fieldLink RX10 29 "StageCube" "steps" "[I", Cond.fieldLink RX10 32 "StageCube" "stepCount" "I", Cond.methodLink RX10 90 yX10_knownStage, Cond.instanceMethod yX10_knownStage, Cond.selects RX10 yX10_knownStage yX10_knownStage, Cond.initialized RX10, Cond.code yX10_knownStage cX10_knownStage 2 (some (.object "StageCube$Stage")), Cond.fieldLink RX10 21 "StageCube" "stages" "[LStageCube$Stage;", Cond.methodLink RX10 101 yX10_newStage, Cond.static yX10_newStage, Cond.code yX10_newStage cX10_newStage 1 (some (.object "StageCube$Stage")), Cond.classLink RX10 19 RX9, Cond.instantiable RX9 7, Cond.initialized RX9, Cond.classLink RX10 104 RX2, Cond.classLink RX10 106 RX3, Cond.instantiable RX3 3, Cond.initialized RX3, Cond.classLink RX10 114 RX8, Cond.instantiable RX8 5, Cond.initialized RX8]
def wsX10_walkStage_r2 : List Cond := [Cond.classLink RX10 119 RX6, Cond.instantiable RX6 6, Cond.initialized RX6, Cond.classLink RX10 122 RX0, Cond.instantiable RX0 4, Cond.initialized RX0, Cond.classLink RX10 125 RX5, Cond.instantiable RX5 5, Cond.initialized RX5, Cond.methodLink RX10 108 yX3_init, Cond.instanceMethod yX3_init, Cond.code yX3_init cX3_init 2 none, Cond.methodLink RX3 1 yX2_init, Cond.instanceMethod yX2_init, Cond.initialized RX2, Cond.code yX2_init cX2_init 3 none, Cond.methodLink RX2 3 objectInit, Cond.instanceMethod objectInit, Cond.code objectInit ⟨#[0xb1]⟩ 1 none, Cond.fieldLink RX2 9 "StageCube$Feature" "ofCorners" "Z", Cond.fieldLink RX2 15 "StageCube$Feature" "size" "I", Cond.methodLink RX10 111 yX9_init, Cond.instanceMethod yX9_init, Cond.code yX9_init cX9_init 5 none]
def wsX10_walkStage_r3 : List Cond := [Cond.methodLink RX9 3 objectInit, Cond.fieldLink RX9 9 "StageCube$Stage" "facesWithQuarters" "I", Cond.fieldLink RX9 15 "StageCube$Stage" "reach" "I", Cond.fieldLink RX9 18 "StageCube$Stage" "queueLength" "I", Cond.fieldLink RX9 21 "StageCube$Stage" "features" "[LStageCube$Feature;", Cond.arrayClass .int, Cond.fieldLink RX9 25 "StageCube$Stage" "numbers" "[I", Cond.fieldLink RX9 29 "StageCube$Stage" "way" "[I", Cond.methodLink RX10 116 yX8_init, Cond.instanceMethod yX8_init, Cond.code yX8_init cX8_init 3 none, Cond.fieldLink RX8 11 "StageCube$Places" "family" "I", Cond.fieldLink RX8 17 "StageCube$Places" "positions" "I", Cond.methodLink RX8 5 yX2_init, Cond.methodLink RX10 121 yX6_init, Cond.instanceMethod yX6_init, Cond.code yX6_init cX6_init 1 none, Cond.fieldLink RX6 11 "StageCube$Pairings" "evens" "[I", Cond.fieldLink RX6 17 "StageCube$Pairings" "odds" "[I", Cond.fieldLink RX6 20 "StageCube$Pairings" "order" "[I", Cond.methodLink RX6 5 yX2_init, Cond.methodLink RX10 124 yX0_init, Cond.instanceMethod yX0_init, Cond.code yX0_init cX0_init 1 none]
def wsX10_walkStage_r4 : List Cond := [Cond.fieldLink RX0 9 "StageCube$CornerOrders" "order" "[I", Cond.methodLink RX0 3 yX2_init, Cond.methodLink RX10 127 yX5_init, Cond.instanceMethod yX5_init, Cond.code yX5_init cX5_init 2 none, Cond.fieldLink RX5 9 "StageCube$Orders" "first" "I", Cond.fieldLink RX5 15 "StageCube$Orders" "order" "[I", Cond.methodLink RX5 3 yX2_init, Cond.methodLink RX10 94 yX9_find, Cond.instanceMethod yX9_find, Cond.selects RX9 yX9_find yX9_find, Cond.code yX9_find cX9_find 4 (some .int), Cond.fieldLink RX9 36 "StageCube$Stage" "near" "[J", Cond.methodLink RX9 32 yX9_readStart, Cond.instanceMethod yX9_readStart, Cond.selects RX9 yX9_readStart yX9_readStart, Cond.code yX9_readStart cX9_readStart 3 (some .int), Cond.methodLink RX9 54 ⟨"StageCube$Feature", "readFrom", "(LStageCube$Cube;)I"⟩, Cond.sameMethod "StageCube$Feature" "StageCube$Feature" "readFrom" "(LStageCube$Cube;)I", Cond.selects RX0 ⟨"StageCube$Feature", "readFrom", "(LStageCube$Cube;)I"⟩ yX2_readFrom, Cond.instanceMethod yX2_readFrom, Cond.code yX2_readFrom cX2_readFrom 2 (some .int), Cond.fieldLink RX2 19 "StageCube$Cube" "corners" "LStageCube$Pieces;", Cond.fieldLink RX2 25 "StageCube$Cube" "edges" "LStageCube$Pieces;"]
def wsX10_walkStage_r5 : List Cond := [Cond.methodLink RX2 28 ⟨"StageCube$Feature", "read", "(LStageCube$Pieces;)I"⟩, Cond.sameMethod "StageCube$Feature" "StageCube$Feature" "read" "(LStageCube$Pieces;)I", Cond.selects RX0 ⟨"StageCube$Feature", "read", "(LStageCube$Pieces;)I"⟩ yX0_read, Cond.instanceMethod yX0_read, Cond.code yX0_read cX0_read 4 (some .int), Cond.fieldLink RX0 15 "StageCube$Pieces" "piece" "[I", Cond.methodLink RX0 20 yX4_ofOrder, Cond.static yX4_ofOrder, Cond.initialized RX4, Cond.code yX4_ofOrder cX4_ofOrder 4 (some .int), Cond.selects RX3 ⟨"StageCube$Feature", "read", "(LStageCube$Pieces;)I"⟩ yX3_read, Cond.instanceMethod yX3_read, Cond.code yX3_read cX3_read 4 (some .int), Cond.fieldLink RX3 7 "StageCube$Pieces" "count" "I", Cond.fieldLink RX3 13 "StageCube$Pieces" "marks" "I", Cond.fieldLink RX3 16 "StageCube$Pieces" "mark" "[I", Cond.selects RX5 ⟨"StageCube$Feature", "read", "(LStageCube$Pieces;)I"⟩ yX5_read, Cond.instanceMethod yX5_read, Cond.code yX5_read cX5_read 3 (some .int), Cond.fieldLink RX5 19 "StageCube$Pieces" "piece" "[I", Cond.methodLink RX5 24 yX4_ofOrder, Cond.selects RX6 ⟨"StageCube$Feature", "read", "(LStageCube$Pieces;)I"⟩ yX6_read, Cond.instanceMethod yX6_read, Cond.code yX6_read cX6_read 6 (some .int)]
def wsX10_walkStage_r6 : List Cond := [Cond.fieldLink RX6 23 "StageCube$Pieces" "piece" "[I", Cond.fieldLink RX6 28 "StageCube$Pairings" "POSITIONS" "[I", Cond.methodLink RX6 31 yJ6_bitCount_0f7a4, Cond.static yJ6_bitCount_0f7a4, Cond.initialized RJ6, Cond.code yJ6_bitCount_0f7a4 cJ6_bitCount_0f7a4 1 (some .int), Cond.constant RJ6 265 (1431655765), Cond.constant RJ6 266 (858993459), Cond.constant RJ6 267 (252645135), Cond.methodLink RX6 37 yX6_partner, Cond.instanceMethod yX6_partner, Cond.selects RX6 yX6_partner yX6_partner, Cond.code yX6_partner cX6_partner 3 (some .int), Cond.methodLink RX6 40 yX4_ofOrder, Cond.methodLink RX6 44 yX4_ofSet, Cond.static yX4_ofSet, Cond.code yX4_ofSet cX4_ofSet 5 (some .int), Cond.fieldLink RX4 7 "StageCube$Numbering" "CHOOSE" "[I", Cond.selects RX8 ⟨"StageCube$Feature", "read", "(LStageCube$Pieces;)I"⟩ yX8_read, Cond.instanceMethod yX8_read, Cond.code yX8_read cX8_read 4 (some .int), Cond.fieldLink RX8 20 "StageCube$Pieces" "piece" "[I", Cond.methodLink RX8 26 yX8_position, Cond.instanceMethod yX8_position]
def wsX10_walkStage_r7 : List Cond := [Cond.selects RX8 yX8_position yX8_position, Cond.code yX8_position cX8_position 2 (some .int), Cond.methodLink RX8 30 yX4_ofSet, Cond.selects RX3 ⟨"StageCube$Feature", "readFrom", "(LStageCube$Cube;)I"⟩ yX2_readFrom, Cond.selects RX5 ⟨"StageCube$Feature", "readFrom", "(LStageCube$Cube;)I"⟩ yX2_readFrom, Cond.selects RX6 ⟨"StageCube$Feature", "readFrom", "(LStageCube$Cube;)I"⟩ yX2_readFrom, Cond.selects RX8 ⟨"StageCube$Feature", "readFrom", "(LStageCube$Cube;)I"⟩ yX2_readFrom, Cond.methodLink RX9 43 yX9_stateAt, Cond.instanceMethod yX9_stateAt, Cond.selects RX9 yX9_stateAt yX9_stateAt, Cond.code yX9_stateAt cX9_stateAt 5 (some .int), Cond.fieldLink RX9 86 "StageCube$Feature" "size" "I", Cond.methodLink RX9 40 yX9_prepare, Cond.instanceMethod yX9_prepare, Cond.selects RX9 yX9_prepare yX9_prepare, Cond.code yX9_prepare cX9_prepare 3 none, Cond.arrayClass .long, Cond.methodLink RX9 92 ⟨"StageCube$Feature", "learn", "(I)V"⟩, Cond.sameMethod "StageCube$Feature" "StageCube$Feature" "learn" "(I)V", Cond.selects RX0 ⟨"StageCube$Feature", "learn", "(I)V"⟩ yX2_learn, Cond.instanceMethod yX2_learn, Cond.code yX2_learn cX2_learn 5 none, Cond.classLink RX2 32 RX7, Cond.instantiable RX7 6]
def wsX10_walkStage_r8 : List Cond := [Cond.initialized RX7, Cond.fieldLink RX2 37 "StageCube$Feature" "next" "[I", Cond.methodLink RX2 34 yX7_init, Cond.instanceMethod yX7_init, Cond.code yX7_init cX7_init 2 none, Cond.methodLink RX7 3 objectInit, Cond.fieldLink RX7 9 "StageCube$Pieces" "count" "I", Cond.fieldLink RX7 15 "StageCube$Pieces" "marks" "I", Cond.fieldLink RX7 18 "StageCube$Pieces" "CORNER_ROUND" "[I", Cond.fieldLink RX7 22 "StageCube$Pieces" "EDGE_ROUND" "[I", Cond.fieldLink RX7 25 "StageCube$Pieces" "round" "[I", Cond.fieldLink RX7 28 "StageCube$Pieces" "TWIST_GAIN" "[I", Cond.fieldLink RX7 31 "StageCube$Pieces" "FLIP_GAIN" "[I", Cond.fieldLink RX7 34 "StageCube$Pieces" "gain" "[I", Cond.fieldLink RX7 37 "StageCube$Pieces" "piece" "[I", Cond.fieldLink RX7 40 "StageCube$Pieces" "mark" "[I", Cond.methodLink RX7 43 yX7_reset, Cond.instanceMethod yX7_reset, Cond.selects RX7 yX7_reset yX7_reset, Cond.code yX7_reset cX7_reset 2 none, Cond.methodLink RX2 41 ⟨"StageCube$Feature", "show", "(ILStageCube$Pieces;)V"⟩, Cond.sameMethod "StageCube$Feature" "StageCube$Feature" "show" "(ILStageCube$Pieces;)V", Cond.selects RX0 ⟨"StageCube$Feature", "show", "(ILStageCube$Pieces;)V"⟩ yX0_show, Cond.instanceMethod yX0_show]
def wsX10_walkStage_r9 : List Cond := [Cond.code yX0_show cX0_show 7 none, Cond.fieldLink RX0 28 "StageCube$Pairings" "EVEN" "[I", Cond.methodLink RX0 24 yX4_toOrder, Cond.static yX4_toOrder, Cond.code yX4_toOrder cX4_toOrder 7 none, Cond.selects RX3 ⟨"StageCube$Feature", "show", "(ILStageCube$Pieces;)V"⟩ yX3_show, Cond.instanceMethod yX3_show, Cond.code yX3_show cX3_show 7 none, Cond.selects RX5 ⟨"StageCube$Feature", "show", "(ILStageCube$Pieces;)V"⟩ yX5_show, Cond.instanceMethod yX5_show, Cond.code yX5_show cX5_show 4 none, Cond.methodLink RX5 28 yX4_toOrder, Cond.selects RX6 ⟨"StageCube$Feature", "show", "(ILStageCube$Pieces;)V"⟩ yX6_show, Cond.instanceMethod yX6_show, Cond.code yX6_show cX6_show 6 none, Cond.fieldLink RX6 55 "StageCube$Pairings" "EVEN" "[I", Cond.methodLink RX6 48 yX4_toSet, Cond.static yX4_toSet, Cond.code yX4_toSet cX4_toSet 7 (some .int), Cond.methodLink RX6 51 yX4_toOrder, Cond.selects RX8 ⟨"StageCube$Feature", "show", "(ILStageCube$Pieces;)V"⟩ yX8_show, Cond.instanceMethod yX8_show, Cond.code yX8_show cX8_show 6 none, Cond.methodLink RX8 34 yX4_toSet]
def wsX10_walkStage_r10 : List Cond := [Cond.methodLink RX2 45 yX7_quarter, Cond.instanceMethod yX7_quarter, Cond.selects RX7 yX7_quarter yX7_quarter, Cond.code yX7_quarter cX7_quarter 7 none, Cond.selects RX3 ⟨"StageCube$Feature", "learn", "(I)V"⟩ yX2_learn, Cond.selects RX5 ⟨"StageCube$Feature", "learn", "(I)V"⟩ yX2_learn, Cond.selects RX6 ⟨"StageCube$Feature", "learn", "(I)V"⟩ yX2_learn, Cond.selects RX8 ⟨"StageCube$Feature", "learn", "(I)V"⟩ yX2_learn, Cond.methodLink RX9 95 yX9_spreadFromGoal, Cond.instanceMethod yX9_spreadFromGoal, Cond.selects RX9 yX9_spreadFromGoal yX9_spreadFromGoal, Cond.code yX9_spreadFromGoal cX9_spreadFromGoal 4 none, Cond.methodLink RX9 98 yX9_store, Cond.instanceMethod yX9_store, Cond.selects RX9 yX9_store yX9_store, Cond.code yX9_store cX9_store 3 none, Cond.methodLink RX9 101 yX9_spread, Cond.instanceMethod yX9_spread, Cond.selects RX9 yX9_spread yX9_spread, Cond.code yX9_spread cX9_spread 9 (some .int), Cond.methodLink RX9 89 yX9_stored, Cond.instanceMethod yX9_stored, Cond.selects RX9 yX9_stored yX9_stored, Cond.code yX9_stored cX9_stored 2 (some .int)]
def wsX10_walkStage_r11 : List Cond := [Cond.methodLink RX9 105 yX9_showState, Cond.instanceMethod yX9_showState, Cond.selects RX9 yX9_showState yX9_showState, Cond.code yX9_showState cX9_showState 4 none, Cond.methodLink RX9 63 yX9_copyDown, Cond.instanceMethod yX9_copyDown, Cond.selects RX9 yX9_copyDown yX9_copyDown, Cond.code yX9_copyDown cX9_copyDown 3 none, Cond.methodLink RX9 77 arraycopyName, Cond.native arraycopyName, Cond.static arraycopyName, Cond.initialized "java/lang/System", Cond.methodLink RX9 67 yX9_turnsOf, Cond.instanceMethod yX9_turnsOf, Cond.selects RX9 yX9_turnsOf yX9_turnsOf, Cond.code yX9_turnsOf cX9_turnsOf 2 (some .int), Cond.methodLink RX9 70 yX9_advance, Cond.instanceMethod yX9_advance, Cond.selects RX9 yX9_advance yX9_advance, Cond.code yX9_advance cX9_advance 5 none, Cond.fieldLink RX9 83 "StageCube$Feature" "next" "[I", Cond.methodLink RX9 47 yX9_turnsToGoal, Cond.instanceMethod yX9_turnsToGoal, Cond.selects RX9 yX9_turnsToGoal yX9_turnsToGoal]
def wsX10_walkStage_r12 : List Cond := [Cond.code yX9_turnsToGoal cX9_turnsToGoal 3 (some .int), Cond.methodLink RX9 50 yX9_dive, Cond.instanceMethod yX9_dive, Cond.selects RX9 yX9_dive yX9_dive, Cond.code yX9_dive cX9_dive 6 (some .boolean), Cond.methodLink RX9 59 yX9_isNeedless, Cond.static yX9_isNeedless, Cond.code yX9_isNeedless cX9_isNeedless 2 (some .boolean), Cond.methodLink RX9 74 yX9_firstTurnOf, Cond.instanceMethod yX9_firstTurnOf, Cond.selects RX9 yX9_firstTurnOf yX9_firstTurnOf, Cond.code yX9_firstTurnOf cX9_firstTurnOf 2 (some .int), Cond.methodLink RX10 66 yX1_make, Cond.instanceMethod yX1_make, Cond.selects RX1 yX1_make yX1_make, Cond.initialized RX1, Cond.code yX1_make cX1_make 5 none, Cond.fieldLink RX1 12 "StageCube$Cube" "corners" "LStageCube$Pieces;", Cond.fieldLink RX1 18 "StageCube$Cube" "edges" "LStageCube$Pieces;", Cond.methodLink RX1 28 yX7_quarter]
def wsX10_walkStage : List Cond := .code yX10_walkStage cX10_walkStage 5 none :: ((wsX10_walkStage_r1 ++ (wsX10_walkStage_r2 ++ (wsX10_walkStage_r3 ++ (wsX10_walkStage_r4 ++ (wsX10_walkStage_r5 ++ (wsX10_walkStage_r6 ++ (wsX10_walkStage_r7 ++ (wsX10_walkStage_r8 ++ (wsX10_walkStage_r9 ++ (wsX10_walkStage_r10 ++ (wsX10_walkStage_r11 ++ wsX10_walkStage_r12))))))))))) ++ wsX100 ++ wsX90 ++ wsX30 ++ wsX80 ++ wsX60 ++ wsX00 ++ wsX50 ++ wsX10 ++ wsX70)
def wsX10_solve_r1 : List Cond := [Cond.fieldLink RX10 16 "StageCube" "walker" "LStageCube$Cube;", Cond.fieldLink RX10 10 "StageCube" "cube" "LStageCube$Cube;", Cond.fieldLink RX10 32 "StageCube" "stepCount" "I", Cond.methodLink RX10 76 yX10_forgetWay, Cond.instanceMethod yX10_forgetWay, Cond.selects RX10 yX10_forgetWay yX10_forgetWay, Cond.initialized RX10, Cond.code yX10_forgetWay cX10_forgetWay 2 none, Cond.fieldLink RX10 25 "StageCube" "lengths" "[I", Cond.methodLink RX10 79 yX10_lawful, Cond.instanceMethod yX10_lawful, Cond.selects RX10 yX10_lawful yX10_lawful, Cond.code yX10_lawful cX10_lawful 1 (some .int), Cond.fieldLink RX10 39 "StageCube$Cube" "corners" "LStageCube$Pieces;", Cond.fieldLink RX10 49 "StageCube$Cube" "edges" "LStageCube$Pieces;", Cond.methodLink RX10 56 yX7_allThere, Cond.instanceMethod yX7_allThere, Cond.selects RX7 yX7_allThere yX7_allThere, Cond.initialized RX7, Cond.code yX7_allThere cX7_allThere 3 (some .boolean), Cond.fieldLink RX7 9 "StageCube$Pieces" "count" "I", Cond.fieldLink RX7 37 "StageCube$Pieces" "piece" "[I", Cond.methodLink RX10 60 yX7_marksCancel, Cond.instanceMethod yX7_marksCancel]
def wsX10_solve_r2 : List Cond := [Cond.selects RX7 yX7_marksCancel yX7_marksCancel, Cond.code yX7_marksCancel cX7_marksCancel 3 (some .boolean), Cond.fieldLink RX7 40 "StageCube$Pieces" "mark" "[I", Cond.fieldLink RX7 15 "StageCube$Pieces" "marks" "I", Cond.methodLink RX10 63 yX7_oddlySwapped, Cond.instanceMethod yX7_oddlySwapped, Cond.selects RX7 yX7_oddlySwapped yX7_oddlySwapped, Cond.code yX7_oddlySwapped cX7_oddlySwapped 4 (some .boolean), Cond.methodLink RX10 83 yX1_copyFrom, Cond.instanceMethod yX1_copyFrom, Cond.selects RX1 yX1_copyFrom yX1_copyFrom, Cond.initialized RX1, Cond.code yX1_copyFrom cX1_copyFrom 2 none, Cond.fieldLink RX1 12 "StageCube$Cube" "corners" "LStageCube$Pieces;", Cond.fieldLink RX1 18 "StageCube$Cube" "edges" "LStageCube$Pieces;", Cond.methodLink RX1 24 yX7_copyFrom, Cond.instanceMethod yX7_copyFrom, Cond.selects RX7 yX7_copyFrom yX7_copyFrom, Cond.code yX7_copyFrom cX7_copyFrom 3 none, Cond.methodLink RX10 87 yX10_walkStage, Cond.instanceMethod yX10_walkStage, Cond.selects RX10 yX10_walkStage yX10_walkStage, Cond.code yX10_walkStage cX10_walkStage 5 none, Cond.fieldLink RX10 98 "StageCube$Stage" "way" "[I"]
def wsX10_solve_r3 : List Cond := [Cond.fieldLink RX10 29 "StageCube" "steps" "[I", Cond.methodLink RX10 90 yX10_knownStage, Cond.instanceMethod yX10_knownStage, Cond.selects RX10 yX10_knownStage yX10_knownStage, Cond.code yX10_knownStage cX10_knownStage 2 (some (.object "StageCube$Stage")), Cond.fieldLink RX10 21 "StageCube" "stages" "[LStageCube$Stage;", Cond.methodLink RX10 101 yX10_newStage, Cond.static yX10_newStage, Cond.code yX10_newStage cX10_newStage 1 (some (.object "StageCube$Stage")), Cond.classLink RX10 19 RX9, Cond.instantiable RX9 7, Cond.initialized RX9, Cond.classLink RX10 104 RX2, Cond.classLink RX10 106 RX3, Cond.instantiable RX3 3, Cond.initialized RX3, Cond.classLink RX10 114 RX8, Cond.instantiable RX8 5, Cond.initialized RX8, Cond.classLink RX10 119 RX6, Cond.instantiable RX6 6, Cond.initialized RX6, Cond.classLink RX10 122 RX0, Cond.instantiable RX0 4]
def wsX10_solve_r4 : List Cond := [Cond.initialized RX0, Cond.classLink RX10 125 RX5, Cond.instantiable RX5 5, Cond.initialized RX5, Cond.methodLink RX10 108 yX3_init, Cond.instanceMethod yX3_init, Cond.code yX3_init cX3_init 2 none, Cond.methodLink RX3 1 yX2_init, Cond.instanceMethod yX2_init, Cond.initialized RX2, Cond.code yX2_init cX2_init 3 none, Cond.methodLink RX2 3 objectInit, Cond.instanceMethod objectInit, Cond.code objectInit ⟨#[0xb1]⟩ 1 none, Cond.fieldLink RX2 9 "StageCube$Feature" "ofCorners" "Z", Cond.fieldLink RX2 15 "StageCube$Feature" "size" "I", Cond.methodLink RX10 111 yX9_init, Cond.instanceMethod yX9_init, Cond.code yX9_init cX9_init 5 none, Cond.methodLink RX9 3 objectInit, Cond.fieldLink RX9 9 "StageCube$Stage" "facesWithQuarters" "I", Cond.fieldLink RX9 15 "StageCube$Stage" "reach" "I", Cond.fieldLink RX9 18 "StageCube$Stage" "queueLength" "I", Cond.fieldLink RX9 21 "StageCube$Stage" "features" "[LStageCube$Feature;"]
def wsX10_solve_r5 : List Cond := [Cond.arrayClass .int, Cond.fieldLink RX9 25 "StageCube$Stage" "numbers" "[I", Cond.fieldLink RX9 29 "StageCube$Stage" "way" "[I", Cond.methodLink RX10 116 yX8_init, Cond.instanceMethod yX8_init, Cond.code yX8_init cX8_init 3 none, Cond.fieldLink RX8 11 "StageCube$Places" "family" "I", Cond.fieldLink RX8 17 "StageCube$Places" "positions" "I", Cond.methodLink RX8 5 yX2_init, Cond.methodLink RX10 121 yX6_init, Cond.instanceMethod yX6_init, Cond.code yX6_init cX6_init 1 none, Cond.fieldLink RX6 11 "StageCube$Pairings" "evens" "[I", Cond.fieldLink RX6 17 "StageCube$Pairings" "odds" "[I", Cond.fieldLink RX6 20 "StageCube$Pairings" "order" "[I", Cond.methodLink RX6 5 yX2_init, Cond.methodLink RX10 124 yX0_init, Cond.instanceMethod yX0_init, Cond.code yX0_init cX0_init 1 none, Cond.fieldLink RX0 9 "StageCube$CornerOrders" "order" "[I", Cond.methodLink RX0 3 yX2_init, Cond.methodLink RX10 127 yX5_init, Cond.instanceMethod yX5_init, Cond.code yX5_init cX5_init 2 none]
def wsX10_solve_r6 : List Cond := [Cond.fieldLink RX5 9 "StageCube$Orders" "first" "I", Cond.fieldLink RX5 15 "StageCube$Orders" "order" "[I", Cond.methodLink RX5 3 yX2_init, Cond.methodLink RX10 94 yX9_find, Cond.instanceMethod yX9_find, Cond.selects RX9 yX9_find yX9_find, Cond.code yX9_find cX9_find 4 (some .int), Cond.fieldLink RX9 36 "StageCube$Stage" "near" "[J", Cond.methodLink RX9 32 yX9_readStart, Cond.instanceMethod yX9_readStart, Cond.selects RX9 yX9_readStart yX9_readStart, Cond.code yX9_readStart cX9_readStart 3 (some .int), Cond.methodLink RX9 54 ⟨"StageCube$Feature", "readFrom", "(LStageCube$Cube;)I"⟩, Cond.sameMethod "StageCube$Feature" "StageCube$Feature" "readFrom" "(LStageCube$Cube;)I", Cond.selects RX0 ⟨"StageCube$Feature", "readFrom", "(LStageCube$Cube;)I"⟩ yX2_readFrom, Cond.instanceMethod yX2_readFrom, Cond.code yX2_readFrom cX2_readFrom 2 (some .int), Cond.fieldLink RX2 19 "StageCube$Cube" "corners" "LStageCube$Pieces;", Cond.fieldLink RX2 25 "StageCube$Cube" "edges" "LStageCube$Pieces;", Cond.methodLink RX2 28 ⟨"StageCube$Feature", "read", "(LStageCube$Pieces;)I"⟩, Cond.sameMethod "StageCube$Feature" "StageCube$Feature" "read" "(LStageCube$Pieces;)I", Cond.selects RX0 ⟨"StageCube$Feature", "read", "(LStageCube$Pieces;)I"⟩ yX0_read, Cond.instanceMethod yX0_read, Cond.code yX0_read cX0_read 4 (some .int)]
def wsX10_solve_r7 : List Cond := [Cond.fieldLink RX0 15 "StageCube$Pieces" "piece" "[I", Cond.methodLink RX0 20 yX4_ofOrder, Cond.static yX4_ofOrder, Cond.initialized RX4, Cond.code yX4_ofOrder cX4_ofOrder 4 (some .int), Cond.selects RX3 ⟨"StageCube$Feature", "read", "(LStageCube$Pieces;)I"⟩ yX3_read, Cond.instanceMethod yX3_read, Cond.code yX3_read cX3_read 4 (some .int), Cond.fieldLink RX3 7 "StageCube$Pieces" "count" "I", Cond.fieldLink RX3 13 "StageCube$Pieces" "marks" "I", Cond.fieldLink RX3 16 "StageCube$Pieces" "mark" "[I", Cond.selects RX5 ⟨"StageCube$Feature", "read", "(LStageCube$Pieces;)I"⟩ yX5_read, Cond.instanceMethod yX5_read, Cond.code yX5_read cX5_read 3 (some .int), Cond.fieldLink RX5 19 "StageCube$Pieces" "piece" "[I", Cond.methodLink RX5 24 yX4_ofOrder, Cond.selects RX6 ⟨"StageCube$Feature", "read", "(LStageCube$Pieces;)I"⟩ yX6_read, Cond.instanceMethod yX6_read, Cond.code yX6_read cX6_read 6 (some .int), Cond.fieldLink RX6 23 "StageCube$Pieces" "piece" "[I", Cond.fieldLink RX6 28 "StageCube$Pairings" "POSITIONS" "[I", Cond.methodLink RX6 31 yJ6_bitCount_0f7a4, Cond.static yJ6_bitCount_0f7a4, Cond.initialized RJ6]
def wsX10_solve_r8 : List Cond := [Cond.code yJ6_bitCount_0f7a4 cJ6_bitCount_0f7a4 1 (some .int), Cond.constant RJ6 265 (1431655765), Cond.constant RJ6 266 (858993459), Cond.constant RJ6 267 (252645135), Cond.methodLink RX6 37 yX6_partner, Cond.instanceMethod yX6_partner, Cond.selects RX6 yX6_partner yX6_partner, Cond.code yX6_partner cX6_partner 3 (some .int), Cond.methodLink RX6 40 yX4_ofOrder, Cond.methodLink RX6 44 yX4_ofSet, Cond.static yX4_ofSet, Cond.code yX4_ofSet cX4_ofSet 5 (some .int), Cond.fieldLink RX4 7 "StageCube$Numbering" "CHOOSE" "[I", Cond.selects RX8 ⟨"StageCube$Feature", "read", "(LStageCube$Pieces;)I"⟩ yX8_read, Cond.instanceMethod yX8_read, Cond.code yX8_read cX8_read 4 (some .int), Cond.fieldLink RX8 20 "StageCube$Pieces" "piece" "[I", Cond.methodLink RX8 26 yX8_position, Cond.instanceMethod yX8_position, Cond.selects RX8 yX8_position yX8_position, Cond.code yX8_position cX8_position 2 (some .int), Cond.methodLink RX8 30 yX4_ofSet, Cond.selects RX3 ⟨"StageCube$Feature", "readFrom", "(LStageCube$Cube;)I"⟩ yX2_readFrom, Cond.selects RX5 ⟨"StageCube$Feature", "readFrom", "(LStageCube$Cube;)I"⟩ yX2_readFrom]
def wsX10_solve_r9 : List Cond := [Cond.selects RX6 ⟨"StageCube$Feature", "readFrom", "(LStageCube$Cube;)I"⟩ yX2_readFrom, Cond.selects RX8 ⟨"StageCube$Feature", "readFrom", "(LStageCube$Cube;)I"⟩ yX2_readFrom, Cond.methodLink RX9 43 yX9_stateAt, Cond.instanceMethod yX9_stateAt, Cond.selects RX9 yX9_stateAt yX9_stateAt, Cond.code yX9_stateAt cX9_stateAt 5 (some .int), Cond.fieldLink RX9 86 "StageCube$Feature" "size" "I", Cond.methodLink RX9 40 yX9_prepare, Cond.instanceMethod yX9_prepare, Cond.selects RX9 yX9_prepare yX9_prepare, Cond.code yX9_prepare cX9_prepare 3 none, Cond.arrayClass .long, Cond.methodLink RX9 92 ⟨"StageCube$Feature", "learn", "(I)V"⟩, Cond.sameMethod "StageCube$Feature" "StageCube$Feature" "learn" "(I)V", Cond.selects RX0 ⟨"StageCube$Feature", "learn", "(I)V"⟩ yX2_learn, Cond.instanceMethod yX2_learn, Cond.code yX2_learn cX2_learn 5 none, Cond.classLink RX2 32 RX7, Cond.instantiable RX7 6, Cond.fieldLink RX2 37 "StageCube$Feature" "next" "[I", Cond.methodLink RX2 34 yX7_init, Cond.instanceMethod yX7_init, Cond.code yX7_init cX7_init 2 none, Cond.methodLink RX7 3 objectInit]
def wsX10_solve_r10 : List Cond := [Cond.fieldLink RX7 18 "StageCube$Pieces" "CORNER_ROUND" "[I", Cond.fieldLink RX7 22 "StageCube$Pieces" "EDGE_ROUND" "[I", Cond.fieldLink RX7 25 "StageCube$Pieces" "round" "[I", Cond.fieldLink RX7 28 "StageCube$Pieces" "TWIST_GAIN" "[I", Cond.fieldLink RX7 31 "StageCube$Pieces" "FLIP_GAIN" "[I", Cond.fieldLink RX7 34 "StageCube$Pieces" "gain" "[I", Cond.methodLink RX7 43 yX7_reset, Cond.instanceMethod yX7_reset, Cond.selects RX7 yX7_reset yX7_reset, Cond.code yX7_reset cX7_reset 2 none, Cond.methodLink RX2 41 ⟨"StageCube$Feature", "show", "(ILStageCube$Pieces;)V"⟩, Cond.sameMethod "StageCube$Feature" "StageCube$Feature" "show" "(ILStageCube$Pieces;)V", Cond.selects RX0 ⟨"StageCube$Feature", "show", "(ILStageCube$Pieces;)V"⟩ yX0_show, Cond.instanceMethod yX0_show, Cond.code yX0_show cX0_show 7 none, Cond.fieldLink RX0 28 "StageCube$Pairings" "EVEN" "[I", Cond.methodLink RX0 24 yX4_toOrder, Cond.static yX4_toOrder, Cond.code yX4_toOrder cX4_toOrder 7 none, Cond.selects RX3 ⟨"StageCube$Feature", "show", "(ILStageCube$Pieces;)V"⟩ yX3_show, Cond.instanceMethod yX3_show, Cond.code yX3_show cX3_show 7 none, Cond.selects RX5 ⟨"StageCube$Feature", "show", "(ILStageCube$Pieces;)V"⟩ yX5_show, Cond.instanceMethod yX5_show]
def wsX10_solve_r11 : List Cond := [Cond.code yX5_show cX5_show 4 none, Cond.methodLink RX5 28 yX4_toOrder, Cond.selects RX6 ⟨"StageCube$Feature", "show", "(ILStageCube$Pieces;)V"⟩ yX6_show, Cond.instanceMethod yX6_show, Cond.code yX6_show cX6_show 6 none, Cond.fieldLink RX6 55 "StageCube$Pairings" "EVEN" "[I", Cond.methodLink RX6 48 yX4_toSet, Cond.static yX4_toSet, Cond.code yX4_toSet cX4_toSet 7 (some .int), Cond.methodLink RX6 51 yX4_toOrder, Cond.selects RX8 ⟨"StageCube$Feature", "show", "(ILStageCube$Pieces;)V"⟩ yX8_show, Cond.instanceMethod yX8_show, Cond.code yX8_show cX8_show 6 none, Cond.methodLink RX8 34 yX4_toSet, Cond.methodLink RX2 45 yX7_quarter, Cond.instanceMethod yX7_quarter, Cond.selects RX7 yX7_quarter yX7_quarter, Cond.code yX7_quarter cX7_quarter 7 none, Cond.selects RX3 ⟨"StageCube$Feature", "learn", "(I)V"⟩ yX2_learn, Cond.selects RX5 ⟨"StageCube$Feature", "learn", "(I)V"⟩ yX2_learn, Cond.selects RX6 ⟨"StageCube$Feature", "learn", "(I)V"⟩ yX2_learn, Cond.selects RX8 ⟨"StageCube$Feature", "learn", "(I)V"⟩ yX2_learn, Cond.methodLink RX9 95 yX9_spreadFromGoal, Cond.instanceMethod yX9_spreadFromGoal]
def wsX10_solve_r12 : List Cond := [Cond.selects RX9 yX9_spreadFromGoal yX9_spreadFromGoal, Cond.code yX9_spreadFromGoal cX9_spreadFromGoal 4 none, Cond.methodLink RX9 98 yX9_store, Cond.instanceMethod yX9_store, Cond.selects RX9 yX9_store yX9_store, Cond.code yX9_store cX9_store 3 none, Cond.methodLink RX9 101 yX9_spread, Cond.instanceMethod yX9_spread, Cond.selects RX9 yX9_spread yX9_spread, Cond.code yX9_spread cX9_spread 9 (some .int), Cond.methodLink RX9 89 yX9_stored, Cond.instanceMethod yX9_stored, Cond.selects RX9 yX9_stored yX9_stored, Cond.code yX9_stored cX9_stored 2 (some .int), Cond.methodLink RX9 105 yX9_showState, Cond.instanceMethod yX9_showState, Cond.selects RX9 yX9_showState yX9_showState, Cond.code yX9_showState cX9_showState 4 none, Cond.methodLink RX9 63 yX9_copyDown, Cond.instanceMethod yX9_copyDown, Cond.selects RX9 yX9_copyDown yX9_copyDown, Cond.code yX9_copyDown cX9_copyDown 3 none, Cond.methodLink RX9 77 arraycopyName, Cond.native arraycopyName]
def wsX10_solve_r13 : List Cond := [Cond.static arraycopyName, Cond.initialized "java/lang/System", Cond.methodLink RX9 67 yX9_turnsOf, Cond.instanceMethod yX9_turnsOf, Cond.selects RX9 yX9_turnsOf yX9_turnsOf, Cond.code yX9_turnsOf cX9_turnsOf 2 (some .int), Cond.methodLink RX9 70 yX9_advance, Cond.instanceMethod yX9_advance, Cond.selects RX9 yX9_advance yX9_advance, Cond.code yX9_advance cX9_advance 5 none, Cond.fieldLink RX9 83 "StageCube$Feature" "next" "[I", Cond.methodLink RX9 47 yX9_turnsToGoal, Cond.instanceMethod yX9_turnsToGoal, Cond.selects RX9 yX9_turnsToGoal yX9_turnsToGoal, Cond.code yX9_turnsToGoal cX9_turnsToGoal 3 (some .int), Cond.methodLink RX9 50 yX9_dive, Cond.instanceMethod yX9_dive, Cond.selects RX9 yX9_dive yX9_dive, Cond.code yX9_dive cX9_dive 6 (some .boolean), Cond.methodLink RX9 59 yX9_isNeedless, Cond.static yX9_isNeedless, Cond.code yX9_isNeedless cX9_isNeedless 2 (some .boolean), Cond.methodLink RX9 74 yX9_firstTurnOf, Cond.instanceMethod yX9_firstTurnOf]
def wsX10_solve_r14 : List Cond := [Cond.selects RX9 yX9_firstTurnOf yX9_firstTurnOf, Cond.code yX9_firstTurnOf cX9_firstTurnOf 2 (some .int), Cond.methodLink RX10 66 yX1_make, Cond.instanceMethod yX1_make, Cond.selects RX1 yX1_make yX1_make, Cond.code yX1_make cX1_make 5 none, Cond.methodLink RX1 28 yX7_quarter]
def wsX10_solve : List Cond := .code yX10_solve cX10_solve 3 (some .int) :: ((wsX10_solve_r1 ++ (wsX10_solve_r2 ++ (wsX10_solve_r3 ++ (wsX10_solve_r4 ++ (wsX10_solve_r5 ++ (wsX10_solve_r6 ++ (wsX10_solve_r7 ++ (wsX10_solve_r8 ++ (wsX10_solve_r9 ++ (wsX10_solve_r10 ++ (wsX10_solve_r11 ++ (wsX10_solve_r12 ++ (wsX10_solve_r13 ++ wsX10_solve_r14))))))))))))) ++ wsX100 ++ wsX10 ++ wsX70 ++ wsX90 ++ wsX30 ++ wsX80 ++ wsX60 ++ wsX00 ++ wsX50)
def wsX10_stage : List Cond := .code yX10_stage cX10_stage 2 (some .int) :: ([.fieldLink RX10 25 "StageCube" "lengths" "[I"] ++ wsX100)
def wsX10_step : List Cond := .code yX10_step cX10_step 2 (some .int) :: ([.fieldLink RX10 32 "StageCube" "stepCount" "I", .fieldLink RX10 29 "StageCube" "steps" "[I"] ++ wsX100)
def wsX10_flips_r1 : List Cond := [Cond.fieldLink RX10 10 "StageCube" "cube" "LStageCube$Cube;", Cond.methodLink RX10 79 yX10_lawful, Cond.instanceMethod yX10_lawful, Cond.selects RX10 yX10_lawful yX10_lawful, Cond.initialized RX10, Cond.code yX10_lawful cX10_lawful 1 (some .int), Cond.fieldLink RX10 39 "StageCube$Cube" "corners" "LStageCube$Pieces;", Cond.fieldLink RX10 49 "StageCube$Cube" "edges" "LStageCube$Pieces;", Cond.methodLink RX10 56 yX7_allThere, Cond.instanceMethod yX7_allThere, Cond.selects RX7 yX7_allThere yX7_allThere, Cond.initialized RX7, Cond.code yX7_allThere cX7_allThere 3 (some .boolean), Cond.fieldLink RX7 9 "StageCube$Pieces" "count" "I", Cond.fieldLink RX7 37 "StageCube$Pieces" "piece" "[I", Cond.methodLink RX10 60 yX7_marksCancel, Cond.instanceMethod yX7_marksCancel, Cond.selects RX7 yX7_marksCancel yX7_marksCancel, Cond.code yX7_marksCancel cX7_marksCancel 3 (some .boolean), Cond.fieldLink RX7 40 "StageCube$Pieces" "mark" "[I", Cond.fieldLink RX7 15 "StageCube$Pieces" "marks" "I", Cond.methodLink RX10 63 yX7_oddlySwapped, Cond.instanceMethod yX7_oddlySwapped, Cond.selects RX7 yX7_oddlySwapped yX7_oddlySwapped]
def wsX10_flips_r2 : List Cond := [Cond.code yX7_oddlySwapped cX7_oddlySwapped 4 (some .boolean), Cond.methodLink RX10 90 yX10_knownStage, Cond.instanceMethod yX10_knownStage, Cond.selects RX10 yX10_knownStage yX10_knownStage, Cond.code yX10_knownStage cX10_knownStage 2 (some (.object "StageCube$Stage")), Cond.fieldLink RX10 21 "StageCube" "stages" "[LStageCube$Stage;", Cond.methodLink RX10 101 yX10_newStage, Cond.static yX10_newStage, Cond.code yX10_newStage cX10_newStage 1 (some (.object "StageCube$Stage")), Cond.classLink RX10 19 RX9, Cond.instantiable RX9 7, Cond.initialized RX9, Cond.classLink RX10 104 RX2, Cond.classLink RX10 106 RX3, Cond.instantiable RX3 3, Cond.initialized RX3, Cond.classLink RX10 114 RX8, Cond.instantiable RX8 5, Cond.initialized RX8, Cond.classLink RX10 119 RX6, Cond.instantiable RX6 6, Cond.initialized RX6, Cond.classLink RX10 122 RX0, Cond.instantiable RX0 4]
def wsX10_flips_r3 : List Cond := [Cond.initialized RX0, Cond.classLink RX10 125 RX5, Cond.instantiable RX5 5, Cond.initialized RX5, Cond.methodLink RX10 108 yX3_init, Cond.instanceMethod yX3_init, Cond.code yX3_init cX3_init 2 none, Cond.methodLink RX3 1 yX2_init, Cond.instanceMethod yX2_init, Cond.initialized RX2, Cond.code yX2_init cX2_init 3 none, Cond.methodLink RX2 3 objectInit, Cond.instanceMethod objectInit, Cond.code objectInit ⟨#[0xb1]⟩ 1 none, Cond.fieldLink RX2 9 "StageCube$Feature" "ofCorners" "Z", Cond.fieldLink RX2 15 "StageCube$Feature" "size" "I", Cond.methodLink RX10 111 yX9_init, Cond.instanceMethod yX9_init, Cond.code yX9_init cX9_init 5 none, Cond.methodLink RX9 3 objectInit, Cond.fieldLink RX9 9 "StageCube$Stage" "facesWithQuarters" "I", Cond.fieldLink RX9 15 "StageCube$Stage" "reach" "I", Cond.fieldLink RX9 18 "StageCube$Stage" "queueLength" "I", Cond.fieldLink RX9 21 "StageCube$Stage" "features" "[LStageCube$Feature;"]
def wsX10_flips_r4 : List Cond := [Cond.arrayClass .int, Cond.fieldLink RX9 25 "StageCube$Stage" "numbers" "[I", Cond.fieldLink RX9 29 "StageCube$Stage" "way" "[I", Cond.methodLink RX10 116 yX8_init, Cond.instanceMethod yX8_init, Cond.code yX8_init cX8_init 3 none, Cond.fieldLink RX8 11 "StageCube$Places" "family" "I", Cond.fieldLink RX8 17 "StageCube$Places" "positions" "I", Cond.methodLink RX8 5 yX2_init, Cond.methodLink RX10 121 yX6_init, Cond.instanceMethod yX6_init, Cond.code yX6_init cX6_init 1 none, Cond.fieldLink RX6 11 "StageCube$Pairings" "evens" "[I", Cond.fieldLink RX6 17 "StageCube$Pairings" "odds" "[I", Cond.fieldLink RX6 20 "StageCube$Pairings" "order" "[I", Cond.methodLink RX6 5 yX2_init, Cond.methodLink RX10 124 yX0_init, Cond.instanceMethod yX0_init, Cond.code yX0_init cX0_init 1 none, Cond.fieldLink RX0 9 "StageCube$CornerOrders" "order" "[I", Cond.methodLink RX0 3 yX2_init, Cond.methodLink RX10 127 yX5_init, Cond.instanceMethod yX5_init, Cond.code yX5_init cX5_init 2 none]
def wsX10_flips_r5 : List Cond := [Cond.fieldLink RX5 9 "StageCube$Orders" "first" "I", Cond.fieldLink RX5 15 "StageCube$Orders" "order" "[I", Cond.methodLink RX5 3 yX2_init, Cond.methodLink RX10 94 yX9_find, Cond.instanceMethod yX9_find, Cond.selects RX9 yX9_find yX9_find, Cond.code yX9_find cX9_find 4 (some .int), Cond.fieldLink RX9 36 "StageCube$Stage" "near" "[J", Cond.methodLink RX9 32 yX9_readStart, Cond.instanceMethod yX9_readStart, Cond.selects RX9 yX9_readStart yX9_readStart, Cond.code yX9_readStart cX9_readStart 3 (some .int), Cond.methodLink RX9 54 ⟨"StageCube$Feature", "readFrom", "(LStageCube$Cube;)I"⟩, Cond.sameMethod "StageCube$Feature" "StageCube$Feature" "readFrom" "(LStageCube$Cube;)I", Cond.selects RX0 ⟨"StageCube$Feature", "readFrom", "(LStageCube$Cube;)I"⟩ yX2_readFrom, Cond.instanceMethod yX2_readFrom, Cond.code yX2_readFrom cX2_readFrom 2 (some .int), Cond.fieldLink RX2 19 "StageCube$Cube" "corners" "LStageCube$Pieces;", Cond.fieldLink RX2 25 "StageCube$Cube" "edges" "LStageCube$Pieces;", Cond.methodLink RX2 28 ⟨"StageCube$Feature", "read", "(LStageCube$Pieces;)I"⟩, Cond.sameMethod "StageCube$Feature" "StageCube$Feature" "read" "(LStageCube$Pieces;)I", Cond.selects RX0 ⟨"StageCube$Feature", "read", "(LStageCube$Pieces;)I"⟩ yX0_read, Cond.instanceMethod yX0_read, Cond.code yX0_read cX0_read 4 (some .int)]
def wsX10_flips_r6 : List Cond := [Cond.fieldLink RX0 15 "StageCube$Pieces" "piece" "[I", Cond.methodLink RX0 20 yX4_ofOrder, Cond.static yX4_ofOrder, Cond.initialized RX4, Cond.code yX4_ofOrder cX4_ofOrder 4 (some .int), Cond.selects RX3 ⟨"StageCube$Feature", "read", "(LStageCube$Pieces;)I"⟩ yX3_read, Cond.instanceMethod yX3_read, Cond.code yX3_read cX3_read 4 (some .int), Cond.fieldLink RX3 7 "StageCube$Pieces" "count" "I", Cond.fieldLink RX3 13 "StageCube$Pieces" "marks" "I", Cond.fieldLink RX3 16 "StageCube$Pieces" "mark" "[I", Cond.selects RX5 ⟨"StageCube$Feature", "read", "(LStageCube$Pieces;)I"⟩ yX5_read, Cond.instanceMethod yX5_read, Cond.code yX5_read cX5_read 3 (some .int), Cond.fieldLink RX5 19 "StageCube$Pieces" "piece" "[I", Cond.methodLink RX5 24 yX4_ofOrder, Cond.selects RX6 ⟨"StageCube$Feature", "read", "(LStageCube$Pieces;)I"⟩ yX6_read, Cond.instanceMethod yX6_read, Cond.code yX6_read cX6_read 6 (some .int), Cond.fieldLink RX6 23 "StageCube$Pieces" "piece" "[I", Cond.fieldLink RX6 28 "StageCube$Pairings" "POSITIONS" "[I", Cond.methodLink RX6 31 yJ6_bitCount_0f7a4, Cond.static yJ6_bitCount_0f7a4, Cond.initialized RJ6]
def wsX10_flips_r7 : List Cond := [Cond.code yJ6_bitCount_0f7a4 cJ6_bitCount_0f7a4 1 (some .int), Cond.constant RJ6 265 (1431655765), Cond.constant RJ6 266 (858993459), Cond.constant RJ6 267 (252645135), Cond.methodLink RX6 37 yX6_partner, Cond.instanceMethod yX6_partner, Cond.selects RX6 yX6_partner yX6_partner, Cond.code yX6_partner cX6_partner 3 (some .int), Cond.methodLink RX6 40 yX4_ofOrder, Cond.methodLink RX6 44 yX4_ofSet, Cond.static yX4_ofSet, Cond.code yX4_ofSet cX4_ofSet 5 (some .int), Cond.fieldLink RX4 7 "StageCube$Numbering" "CHOOSE" "[I", Cond.selects RX8 ⟨"StageCube$Feature", "read", "(LStageCube$Pieces;)I"⟩ yX8_read, Cond.instanceMethod yX8_read, Cond.code yX8_read cX8_read 4 (some .int), Cond.fieldLink RX8 20 "StageCube$Pieces" "piece" "[I", Cond.methodLink RX8 26 yX8_position, Cond.instanceMethod yX8_position, Cond.selects RX8 yX8_position yX8_position, Cond.code yX8_position cX8_position 2 (some .int), Cond.methodLink RX8 30 yX4_ofSet, Cond.selects RX3 ⟨"StageCube$Feature", "readFrom", "(LStageCube$Cube;)I"⟩ yX2_readFrom, Cond.selects RX5 ⟨"StageCube$Feature", "readFrom", "(LStageCube$Cube;)I"⟩ yX2_readFrom]
def wsX10_flips_r8 : List Cond := [Cond.selects RX6 ⟨"StageCube$Feature", "readFrom", "(LStageCube$Cube;)I"⟩ yX2_readFrom, Cond.selects RX8 ⟨"StageCube$Feature", "readFrom", "(LStageCube$Cube;)I"⟩ yX2_readFrom, Cond.methodLink RX9 43 yX9_stateAt, Cond.instanceMethod yX9_stateAt, Cond.selects RX9 yX9_stateAt yX9_stateAt, Cond.code yX9_stateAt cX9_stateAt 5 (some .int), Cond.fieldLink RX9 86 "StageCube$Feature" "size" "I", Cond.methodLink RX9 40 yX9_prepare, Cond.instanceMethod yX9_prepare, Cond.selects RX9 yX9_prepare yX9_prepare, Cond.code yX9_prepare cX9_prepare 3 none, Cond.arrayClass .long, Cond.methodLink RX9 92 ⟨"StageCube$Feature", "learn", "(I)V"⟩, Cond.sameMethod "StageCube$Feature" "StageCube$Feature" "learn" "(I)V", Cond.selects RX0 ⟨"StageCube$Feature", "learn", "(I)V"⟩ yX2_learn, Cond.instanceMethod yX2_learn, Cond.code yX2_learn cX2_learn 5 none, Cond.classLink RX2 32 RX7, Cond.instantiable RX7 6, Cond.fieldLink RX2 37 "StageCube$Feature" "next" "[I", Cond.methodLink RX2 34 yX7_init, Cond.instanceMethod yX7_init, Cond.code yX7_init cX7_init 2 none, Cond.methodLink RX7 3 objectInit]
def wsX10_flips_r9 : List Cond := [Cond.fieldLink RX7 18 "StageCube$Pieces" "CORNER_ROUND" "[I", Cond.fieldLink RX7 22 "StageCube$Pieces" "EDGE_ROUND" "[I", Cond.fieldLink RX7 25 "StageCube$Pieces" "round" "[I", Cond.fieldLink RX7 28 "StageCube$Pieces" "TWIST_GAIN" "[I", Cond.fieldLink RX7 31 "StageCube$Pieces" "FLIP_GAIN" "[I", Cond.fieldLink RX7 34 "StageCube$Pieces" "gain" "[I", Cond.methodLink RX7 43 yX7_reset, Cond.instanceMethod yX7_reset, Cond.selects RX7 yX7_reset yX7_reset, Cond.code yX7_reset cX7_reset 2 none, Cond.methodLink RX2 41 ⟨"StageCube$Feature", "show", "(ILStageCube$Pieces;)V"⟩, Cond.sameMethod "StageCube$Feature" "StageCube$Feature" "show" "(ILStageCube$Pieces;)V", Cond.selects RX0 ⟨"StageCube$Feature", "show", "(ILStageCube$Pieces;)V"⟩ yX0_show, Cond.instanceMethod yX0_show, Cond.code yX0_show cX0_show 7 none, Cond.fieldLink RX0 28 "StageCube$Pairings" "EVEN" "[I", Cond.methodLink RX0 24 yX4_toOrder, Cond.static yX4_toOrder, Cond.code yX4_toOrder cX4_toOrder 7 none, Cond.selects RX3 ⟨"StageCube$Feature", "show", "(ILStageCube$Pieces;)V"⟩ yX3_show, Cond.instanceMethod yX3_show, Cond.code yX3_show cX3_show 7 none, Cond.selects RX5 ⟨"StageCube$Feature", "show", "(ILStageCube$Pieces;)V"⟩ yX5_show, Cond.instanceMethod yX5_show]
def wsX10_flips_r10 : List Cond := [Cond.code yX5_show cX5_show 4 none, Cond.methodLink RX5 28 yX4_toOrder, Cond.selects RX6 ⟨"StageCube$Feature", "show", "(ILStageCube$Pieces;)V"⟩ yX6_show, Cond.instanceMethod yX6_show, Cond.code yX6_show cX6_show 6 none, Cond.fieldLink RX6 55 "StageCube$Pairings" "EVEN" "[I", Cond.methodLink RX6 48 yX4_toSet, Cond.static yX4_toSet, Cond.code yX4_toSet cX4_toSet 7 (some .int), Cond.methodLink RX6 51 yX4_toOrder, Cond.selects RX8 ⟨"StageCube$Feature", "show", "(ILStageCube$Pieces;)V"⟩ yX8_show, Cond.instanceMethod yX8_show, Cond.code yX8_show cX8_show 6 none, Cond.methodLink RX8 34 yX4_toSet, Cond.methodLink RX2 45 yX7_quarter, Cond.instanceMethod yX7_quarter, Cond.selects RX7 yX7_quarter yX7_quarter, Cond.code yX7_quarter cX7_quarter 7 none, Cond.selects RX3 ⟨"StageCube$Feature", "learn", "(I)V"⟩ yX2_learn, Cond.selects RX5 ⟨"StageCube$Feature", "learn", "(I)V"⟩ yX2_learn, Cond.selects RX6 ⟨"StageCube$Feature", "learn", "(I)V"⟩ yX2_learn, Cond.selects RX8 ⟨"StageCube$Feature", "learn", "(I)V"⟩ yX2_learn, Cond.methodLink RX9 95 yX9_spreadFromGoal, Cond.instanceMethod yX9_spreadFromGoal]
def wsX10_flips_r11 : List Cond := [Cond.selects RX9 yX9_spreadFromGoal yX9_spreadFromGoal, Cond.code yX9_spreadFromGoal cX9_spreadFromGoal 4 none, Cond.methodLink RX9 98 yX9_store, Cond.instanceMethod yX9_store, Cond.selects RX9 yX9_store yX9_store, Cond.code yX9_store cX9_store 3 none, Cond.methodLink RX9 101 yX9_spread, Cond.instanceMethod yX9_spread, Cond.selects RX9 yX9_spread yX9_spread, Cond.code yX9_spread cX9_spread 9 (some .int), Cond.methodLink RX9 89 yX9_stored, Cond.instanceMethod yX9_stored, Cond.selects RX9 yX9_stored yX9_stored, Cond.code yX9_stored cX9_stored 2 (some .int), Cond.methodLink RX9 105 yX9_showState, Cond.instanceMethod yX9_showState, Cond.selects RX9 yX9_showState yX9_showState, Cond.code yX9_showState cX9_showState 4 none, Cond.methodLink RX9 63 yX9_copyDown, Cond.instanceMethod yX9_copyDown, Cond.selects RX9 yX9_copyDown yX9_copyDown, Cond.code yX9_copyDown cX9_copyDown 3 none, Cond.methodLink RX9 77 arraycopyName, Cond.native arraycopyName]
def wsX10_flips_r12 : List Cond := [Cond.static arraycopyName, Cond.initialized "java/lang/System", Cond.methodLink RX9 67 yX9_turnsOf, Cond.instanceMethod yX9_turnsOf, Cond.selects RX9 yX9_turnsOf yX9_turnsOf, Cond.code yX9_turnsOf cX9_turnsOf 2 (some .int), Cond.methodLink RX9 70 yX9_advance, Cond.instanceMethod yX9_advance, Cond.selects RX9 yX9_advance yX9_advance, Cond.code yX9_advance cX9_advance 5 none, Cond.fieldLink RX9 83 "StageCube$Feature" "next" "[I", Cond.methodLink RX9 47 yX9_turnsToGoal, Cond.instanceMethod yX9_turnsToGoal, Cond.selects RX9 yX9_turnsToGoal yX9_turnsToGoal, Cond.code yX9_turnsToGoal cX9_turnsToGoal 3 (some .int), Cond.methodLink RX9 50 yX9_dive, Cond.instanceMethod yX9_dive, Cond.selects RX9 yX9_dive yX9_dive, Cond.code yX9_dive cX9_dive 6 (some .boolean), Cond.methodLink RX9 59 yX9_isNeedless, Cond.static yX9_isNeedless, Cond.code yX9_isNeedless cX9_isNeedless 2 (some .boolean), Cond.methodLink RX9 74 yX9_firstTurnOf, Cond.instanceMethod yX9_firstTurnOf]
def wsX10_flips_r13 : List Cond := [Cond.selects RX9 yX9_firstTurnOf yX9_firstTurnOf, Cond.code yX9_firstTurnOf cX9_firstTurnOf 2 (some .int)]
def wsX10_flips : List Cond := .code yX10_flips cX10_flips 2 (some .int) :: ((wsX10_flips_r1 ++ (wsX10_flips_r2 ++ (wsX10_flips_r3 ++ (wsX10_flips_r4 ++ (wsX10_flips_r5 ++ (wsX10_flips_r6 ++ (wsX10_flips_r7 ++ (wsX10_flips_r8 ++ (wsX10_flips_r9 ++ (wsX10_flips_r10 ++ (wsX10_flips_r11 ++ (wsX10_flips_r12 ++ wsX10_flips_r13)))))))))))) ++ wsX100 ++ wsX10 ++ wsX70 ++ wsX90 ++ wsX30 ++ wsX80 ++ wsX60 ++ wsX00 ++ wsX50)
def wsX11_between : List Cond := .code yX11_between cX11_between 7 (some .int) :: ([])
def wsX11_face : List Cond := .code yX11_face cX11_face 12 none :: ([.fieldLink RX11 112 "StageCubeModel" "row" "[I", .fieldLink RX11 40 "StageCubeModel" "cornerFrom" "[I", .fieldLink RX11 46 "StageCubeModel" "edgeFrom" "[I", .fieldLink RX11 43 "StageCubeModel" "cornerMore" "[I", .fieldLink RX11 49 "StageCubeModel" "edgeMore" "[I", .methodLink RX11 125 yX11_between, .static yX11_between, .initialized RX11, .code yX11_between cX11_between 7 (some .int)] ++ wsX110)
def wsX11_bringHome : List Cond := .code yX11_bringHome cX11_bringHome 2 none :: ([.fieldLink RX11 16 "StageCubeModel" "edges" "[I", .fieldLink RX11 19 "StageCubeModel" "flips" "[I", .fieldLink RX11 7 "StageCubeModel" "corners" "[I", .fieldLink RX11 13 "StageCubeModel" "twists" "[I"] ++ wsX110)
def wsX11_init_r1 : List Cond := [Cond.methodLink RX11 1 objectInit, Cond.instanceMethod objectInit, Cond.code objectInit ⟨#[0xb1]⟩ 1 none, Cond.arrayClass .int, Cond.fieldLink RX11 7 "StageCubeModel" "corners" "[I", Cond.fieldLink RX11 13 "StageCubeModel" "twists" "[I", Cond.fieldLink RX11 16 "StageCubeModel" "edges" "[I", Cond.fieldLink RX11 19 "StageCubeModel" "flips" "[I", Cond.fieldLink RX11 22 "StageCubeModel" "c" "[I", Cond.fieldLink RX11 25 "StageCubeModel" "tw" "[I", Cond.fieldLink RX11 28 "StageCubeModel" "e" "[I", Cond.fieldLink RX11 31 "StageCubeModel" "fl" "[I", Cond.fieldLink RX11 34 "StageCubeModel" "old" "[I", Cond.fieldLink RX11 37 "StageCubeModel" "oldMore" "[I", Cond.fieldLink RX11 40 "StageCubeModel" "cornerFrom" "[I", Cond.fieldLink RX11 43 "StageCubeModel" "cornerMore" "[I", Cond.fieldLink RX11 46 "StageCubeModel" "edgeFrom" "[I", Cond.fieldLink RX11 49 "StageCubeModel" "edgeMore" "[I", Cond.fieldLink RX11 52 "StageCubeModel" "way" "[I", Cond.fieldLink RX11 55 "StageCubeModel" "lengths" "[I", Cond.arrayClass .byte, Cond.fieldLink RX11 58 "StageCubeModel" "near1" "[B", Cond.constant RX11 62 (1082565), Cond.fieldLink RX11 63 "StageCubeModel" "near2" "[B"]
def wsX11_init_r2 : List Cond := [Cond.fieldLink RX11 66 "StageCubeModel" "near3" "[B", Cond.constant RX11 69 (1327104), Cond.fieldLink RX11 70 "StageCubeModel" "near4" "[B", Cond.arrayClass .short, Cond.fieldLink RX11 73 "StageCubeModel" "maskOf" "[S", Cond.fieldLink RX11 77 "StageCubeModel" "maskAt" "[S", Cond.fieldLink RX11 80 "StageCubeModel" "halfOf" "[S", Cond.fieldLink RX11 83 "StageCubeModel" "halfAt" "[S", Cond.constant RX11 86 (40320), Cond.fieldLink RX11 87 "StageCubeModel" "kindOf" "[S", Cond.fieldLink RX11 90 "StageCubeModel" "kindAt" "[I", Cond.fieldLink RX11 93 "StageCubeModel" "squareOf" "[S", Cond.fieldLink RX11 96 "StageCubeModel" "squareAt" "[I", Cond.constant RX11 99 (39366), Cond.fieldLink RX11 100 "StageCubeModel" "move1" "[I", Cond.fieldLink RX11 103 "StageCubeModel" "move2" "[I", Cond.fieldLink RX11 106 "StageCubeModel" "move3" "[I", Cond.fieldLink RX11 109 "StageCubeModel" "move4" "[I", Cond.fieldLink RX11 112 "StageCubeModel" "row" "[I", Cond.fieldLink RX11 115 "StageCubeModel" "other" "[I", Cond.methodLink RX11 118 yX11_face, Cond.instanceMethod yX11_face, Cond.selects RX11 yX11_face yX11_face, Cond.initialized RX11]
def wsX11_init_r3 : List Cond := [Cond.code yX11_face cX11_face 12 none, Cond.methodLink RX11 125 yX11_between, Cond.static yX11_between, Cond.code yX11_between cX11_between 7 (some .int), Cond.methodLink RX11 122 yX11_bringHome, Cond.instanceMethod yX11_bringHome, Cond.selects RX11 yX11_bringHome yX11_bringHome, Cond.code yX11_bringHome cX11_bringHome 2 none]
def wsX11_init : List Cond := .code yX11_init cX11_init 1 none :: ((wsX11_init_r1 ++ (wsX11_init_r2 ++ wsX11_init_r3)) ++ wsX110)
def wsX11_turnIt : List Cond := .code yX11_turnIt cX11_turnIt 4 none :: ([.fieldLink RX11 34 "StageCubeModel" "old" "[I", .fieldLink RX11 22 "StageCubeModel" "c" "[I", .fieldLink RX11 37 "StageCubeModel" "oldMore" "[I", .fieldLink RX11 25 "StageCubeModel" "tw" "[I", .fieldLink RX11 40 "StageCubeModel" "cornerFrom" "[I", .fieldLink RX11 43 "StageCubeModel" "cornerMore" "[I", .fieldLink RX11 28 "StageCubeModel" "e" "[I", .fieldLink RX11 31 "StageCubeModel" "fl" "[I", .fieldLink RX11 46 "StageCubeModel" "edgeFrom" "[I", .fieldLink RX11 49 "StageCubeModel" "edgeMore" "[I"] ++ wsX110)
def wsX11_look : List Cond := .code yX11_look cX11_look 2 none :: ([.fieldLink RX11 28 "StageCubeModel" "e" "[I", .fieldLink RX11 16 "StageCubeModel" "edges" "[I", .fieldLink RX11 31 "StageCubeModel" "fl" "[I", .fieldLink RX11 19 "StageCubeModel" "flips" "[I", .fieldLink RX11 22 "StageCubeModel" "c" "[I", .fieldLink RX11 7 "StageCubeModel" "corners" "[I", .fieldLink RX11 25 "StageCubeModel" "tw" "[I", .fieldLink RX11 13 "StageCubeModel" "twists" "[I"] ++ wsX110)
def wsX11_corner : List Cond := .code yX11_corner cX11_corner 4 (some .int) :: ([.fieldLink RX11 7 "StageCubeModel" "corners" "[I", .fieldLink RX11 13 "StageCubeModel" "twists" "[I"] ++ wsX110)
def wsX11_edge : List Cond := .code yX11_edge cX11_edge 4 (some .int) :: ([.fieldLink RX11 16 "StageCubeModel" "edges" "[I", .fieldLink RX11 19 "StageCubeModel" "flips" "[I"] ++ wsX110)
def wsX11_at : List Cond := .code yX11_at cX11_at 3 (some .int) :: ([.fieldLink RX11 7 "StageCubeModel" "corners" "[I", .fieldLink RX11 13 "StageCubeModel" "twists" "[I", .fieldLink RX11 16 "StageCubeModel" "edges" "[I", .fieldLink RX11 19 "StageCubeModel" "flips" "[I"] ++ wsX110)
def wsX11_lawful : List Cond := .code yX11_lawful cX11_lawful 8 (some .int) :: ([.fieldLink RX11 7 "StageCubeModel" "corners" "[I", .fieldLink RX11 13 "StageCubeModel" "twists" "[I", .fieldLink RX11 16 "StageCubeModel" "edges" "[I", .fieldLink RX11 19 "StageCubeModel" "flips" "[I"] ++ wsX110)
def wsX11_turn : List Cond := .code yX11_turn cX11_turn 3 (some .int) :: ([.fieldLink RX11 16 "StageCubeModel" "edges" "[I", .fieldLink RX11 28 "StageCubeModel" "e" "[I", .fieldLink RX11 19 "StageCubeModel" "flips" "[I", .fieldLink RX11 31 "StageCubeModel" "fl" "[I", .fieldLink RX11 7 "StageCubeModel" "corners" "[I", .fieldLink RX11 22 "StageCubeModel" "c" "[I", .fieldLink RX11 13 "StageCubeModel" "twists" "[I", .fieldLink RX11 25 "StageCubeModel" "tw" "[I", .fieldLink RX11 136 "StageCubeModel" "turned" "I", .methodLink RX11 129 yX11_look, .instanceMethod yX11_look, .selects RX11 yX11_look yX11_look, .initialized RX11, .code yX11_look cX11_look 2 none, .methodLink RX11 132 yX11_turnIt, .instanceMethod yX11_turnIt, .selects RX11 yX11_turnIt yX11_turnIt, .code yX11_turnIt cX11_turnIt 4 none, .fieldLink RX11 34 "StageCubeModel" "old" "[I", .fieldLink RX11 37 "StageCubeModel" "oldMore" "[I", .fieldLink RX11 40 "StageCubeModel" "cornerFrom" "[I", .fieldLink RX11 43 "StageCubeModel" "cornerMore" "[I", .fieldLink RX11 46 "StageCubeModel" "edgeFrom" "[I", .fieldLink RX11 49 "StageCubeModel" "edgeMore" "[I"] ++ wsX110)
def wsX11_home : List Cond := .code yX11_home cX11_home 2 (some .int) :: ([.fieldLink RX11 136 "StageCubeModel" "turned" "I", .methodLink RX11 122 yX11_bringHome, .instanceMethod yX11_bringHome, .selects RX11 yX11_bringHome yX11_bringHome, .initialized RX11, .code yX11_bringHome cX11_bringHome 2 none, .fieldLink RX11 16 "StageCubeModel" "edges" "[I", .fieldLink RX11 19 "StageCubeModel" "flips" "[I", .fieldLink RX11 7 "StageCubeModel" "corners" "[I", .fieldLink RX11 13 "StageCubeModel" "twists" "[I"] ++ wsX110)
def wsX11_isHome : List Cond := .code yX11_isHome cX11_isHome 3 (some .int) :: ([.fieldLink RX11 16 "StageCubeModel" "edges" "[I", .fieldLink RX11 19 "StageCubeModel" "flips" "[I", .fieldLink RX11 7 "StageCubeModel" "corners" "[I", .fieldLink RX11 13 "StageCubeModel" "twists" "[I"] ++ wsX110)
def wsX11_may : List Cond := .code yX11_may cX11_may 4 (some .boolean) :: ([])
def wsX11_rank : List Cond := .code yX11_rank cX11_rank 6 (some .int) :: ([.fieldLink RX11 112 "StageCubeModel" "row" "[I"] ++ wsX110)
def wsX11_unrank : List Cond := .code yX11_unrank cX11_unrank 6 none :: ([.fieldLink RX11 112 "StageCubeModel" "row" "[I"] ++ wsX110)
def wsX11_turnRow : List Cond := .code yX11_turnRow cX11_turnRow 3 none :: ([.fieldLink RX11 115 "StageCubeModel" "other" "[I", .fieldLink RX11 112 "StageCubeModel" "row" "[I", .fieldLink RX11 40 "StageCubeModel" "cornerFrom" "[I"] ++ wsX110)
def wsX11_maskBy : List Cond := .code yX11_maskBy cX11_maskBy 6 (some .int) :: ([.fieldLink RX11 46 "StageCubeModel" "edgeFrom" "[I"] ++ wsX110)
def wsX11_ones : List Cond := .code yX11_ones cX11_ones 3 (some .int) :: ([])
def wsX11_makeFirst : List Cond := .code yX11_makeFirst cX11_makeFirst 7 none :: ([.fieldLink RX11 58 "StageCubeModel" "near1" "[B", .fieldLink RX11 46 "StageCubeModel" "edgeFrom" "[I", .fieldLink RX11 49 "StageCubeModel" "edgeMore" "[I"] ++ wsX110)
def wsX11_makeNumbers : List Cond := .code yX11_makeNumbers cX11_makeNumbers 3 none :: ([.fieldLink RX11 73 "StageCubeModel" "maskOf" "[S", .fieldLink RX11 77 "StageCubeModel" "maskAt" "[S", .fieldLink RX11 80 "StageCubeModel" "halfOf" "[S", .fieldLink RX11 83 "StageCubeModel" "halfAt" "[S", .methodLink RX11 162 yX11_ones, .static yX11_ones, .initialized RX11, .code yX11_ones cX11_ones 3 (some .int)] ++ wsX110)
def wsX11_spread2 : List Cond := .code yX11_spread2 cX11_spread2 6 (some .boolean) :: ([.fieldLink RX11 100 "StageCubeModel" "move1" "[I", .fieldLink RX11 103 "StageCubeModel" "move2" "[I", .fieldLink RX11 63 "StageCubeModel" "near2" "[B", .methodLink RX11 174 yX11_may, .static yX11_may, .initialized RX11, .code yX11_may cX11_may 4 (some .boolean)] ++ wsX110)
def wsX11_makeSecond : List Cond := .code yX11_makeSecond cX11_makeSecond 7 none :: ([.fieldLink RX11 112 "StageCubeModel" "row" "[I", .fieldLink RX11 40 "StageCubeModel" "cornerFrom" "[I", .fieldLink RX11 43 "StageCubeModel" "cornerMore" "[I", .fieldLink RX11 100 "StageCubeModel" "move1" "[I", .fieldLink RX11 103 "StageCubeModel" "move2" "[I", .fieldLink RX11 73 "StageCubeModel" "maskOf" "[S", .fieldLink RX11 77 "StageCubeModel" "maskAt" "[S", .constant RX11 62 (1082565), .fieldLink RX11 63 "StageCubeModel" "near2" "[B", .methodLink RX11 166 yX11_maskBy, .instanceMethod yX11_maskBy, .selects RX11 yX11_maskBy yX11_maskBy, .initialized RX11, .code yX11_maskBy cX11_maskBy 6 (some .int), .fieldLink RX11 46 "StageCubeModel" "edgeFrom" "[I", .methodLink RX11 170 yX11_spread2, .instanceMethod yX11_spread2, .selects RX11 yX11_spread2 yX11_spread2, .code yX11_spread2 cX11_spread2 6 (some .boolean), .methodLink RX11 174 yX11_may, .static yX11_may, .code yX11_may cX11_may 4 (some .boolean)] ++ wsX110)
def wsX11_nameKind : List Cond := .code yX11_nameKind cX11_nameKind 6 none :: ([.fieldLink RX11 37 "StageCubeModel" "oldMore" "[I", .fieldLink RX11 112 "StageCubeModel" "row" "[I", .fieldLink RX11 96 "StageCubeModel" "squareAt" "[I", .fieldLink RX11 115 "StageCubeModel" "other" "[I", .fieldLink RX11 87 "StageCubeModel" "kindOf" "[S", .methodLink RX11 177 yX11_unrank, .instanceMethod yX11_unrank, .selects RX11 yX11_unrank yX11_unrank, .initialized RX11, .code yX11_unrank cX11_unrank 6 none, .methodLink RX11 184 yX11_rank, .instanceMethod yX11_rank, .selects RX11 yX11_rank yX11_rank, .code yX11_rank cX11_rank 6 (some .int)] ++ wsX110)
def wsX11_makeKinds_r1 : List Cond := [Cond.constant RX11 86 (40320), Cond.fieldLink RX11 93 "StageCubeModel" "squareOf" "[S", Cond.fieldLink RX11 87 "StageCubeModel" "kindOf" "[S", Cond.fieldLink RX11 96 "StageCubeModel" "squareAt" "[I", Cond.fieldLink RX11 90 "StageCubeModel" "kindAt" "[I", Cond.methodLink RX11 177 yX11_unrank, Cond.instanceMethod yX11_unrank, Cond.selects RX11 yX11_unrank yX11_unrank, Cond.initialized RX11, Cond.code yX11_unrank cX11_unrank 6 none, Cond.fieldLink RX11 112 "StageCubeModel" "row" "[I", Cond.methodLink RX11 181 yX11_turnRow, Cond.instanceMethod yX11_turnRow, Cond.selects RX11 yX11_turnRow yX11_turnRow, Cond.code yX11_turnRow cX11_turnRow 3 none, Cond.fieldLink RX11 115 "StageCubeModel" "other" "[I", Cond.fieldLink RX11 40 "StageCubeModel" "cornerFrom" "[I", Cond.methodLink RX11 184 yX11_rank, Cond.instanceMethod yX11_rank, Cond.selects RX11 yX11_rank yX11_rank, Cond.code yX11_rank cX11_rank 6 (some .int), Cond.methodLink RX11 187 yX11_nameKind, Cond.instanceMethod yX11_nameKind, Cond.selects RX11 yX11_nameKind yX11_nameKind]
def wsX11_makeKinds_r2 : List Cond := [Cond.code yX11_nameKind cX11_nameKind 6 none, Cond.fieldLink RX11 37 "StageCubeModel" "oldMore" "[I"]
def wsX11_makeKinds : List Cond := .code yX11_makeKinds cX11_makeKinds 5 none :: ((wsX11_makeKinds_r1 ++ wsX11_makeKinds_r2) ++ wsX110)
def wsX11_makeThird_r1 : List Cond := [Cond.fieldLink RX11 90 "StageCubeModel" "kindAt" "[I", Cond.fieldLink RX11 106 "StageCubeModel" "move3" "[I", Cond.fieldLink RX11 87 "StageCubeModel" "kindOf" "[S", Cond.fieldLink RX11 66 "StageCubeModel" "near3" "[B", Cond.fieldLink RX11 80 "StageCubeModel" "halfOf" "[S", Cond.fieldLink RX11 83 "StageCubeModel" "halfAt" "[S", Cond.methodLink RX11 177 yX11_unrank, Cond.instanceMethod yX11_unrank, Cond.selects RX11 yX11_unrank yX11_unrank, Cond.initialized RX11, Cond.code yX11_unrank cX11_unrank 6 none, Cond.fieldLink RX11 112 "StageCubeModel" "row" "[I", Cond.methodLink RX11 181 yX11_turnRow, Cond.instanceMethod yX11_turnRow, Cond.selects RX11 yX11_turnRow yX11_turnRow, Cond.code yX11_turnRow cX11_turnRow 3 none, Cond.fieldLink RX11 115 "StageCubeModel" "other" "[I", Cond.fieldLink RX11 40 "StageCubeModel" "cornerFrom" "[I", Cond.methodLink RX11 184 yX11_rank, Cond.instanceMethod yX11_rank, Cond.selects RX11 yX11_rank yX11_rank, Cond.code yX11_rank cX11_rank 6 (some .int), Cond.methodLink RX11 174 yX11_may, Cond.static yX11_may]
def wsX11_makeThird_r2 : List Cond := [Cond.code yX11_may cX11_may 4 (some .boolean), Cond.methodLink RX11 166 yX11_maskBy, Cond.instanceMethod yX11_maskBy, Cond.selects RX11 yX11_maskBy yX11_maskBy, Cond.code yX11_maskBy cX11_maskBy 6 (some .int), Cond.fieldLink RX11 46 "StageCubeModel" "edgeFrom" "[I"]
def wsX11_makeThird : List Cond := .code yX11_makeThird cX11_makeThird 7 none :: ((wsX11_makeThird_r1 ++ wsX11_makeThird_r2) ++ wsX110)
def wsX11_spread4 : List Cond := .code yX11_spread4 cX11_spread4 10 (some .boolean) :: ([.fieldLink RX11 109 "StageCubeModel" "move4" "[I", .fieldLink RX11 70 "StageCubeModel" "near4" "[B"] ++ wsX110)
def wsX11_makeFourth_r1 : List Cond := [Cond.fieldLink RX11 115 "StageCubeModel" "other" "[I", Cond.fieldLink RX11 112 "StageCubeModel" "row" "[I", Cond.fieldLink RX11 46 "StageCubeModel" "edgeFrom" "[I", Cond.fieldLink RX11 109 "StageCubeModel" "move4" "[I", Cond.fieldLink RX11 96 "StageCubeModel" "squareAt" "[I", Cond.fieldLink RX11 93 "StageCubeModel" "squareOf" "[S", Cond.constant RX11 69 (1327104), Cond.fieldLink RX11 70 "StageCubeModel" "near4" "[B", Cond.methodLink RX11 177 yX11_unrank, Cond.instanceMethod yX11_unrank, Cond.selects RX11 yX11_unrank yX11_unrank, Cond.initialized RX11, Cond.code yX11_unrank cX11_unrank 6 none, Cond.methodLink RX11 184 yX11_rank, Cond.instanceMethod yX11_rank, Cond.selects RX11 yX11_rank yX11_rank, Cond.code yX11_rank cX11_rank 6 (some .int), Cond.methodLink RX11 181 yX11_turnRow, Cond.instanceMethod yX11_turnRow, Cond.selects RX11 yX11_turnRow yX11_turnRow, Cond.code yX11_turnRow cX11_turnRow 3 none, Cond.fieldLink RX11 40 "StageCubeModel" "cornerFrom" "[I", Cond.methodLink RX11 190 yX11_spread4, Cond.instanceMethod yX11_spread4]
def wsX11_makeFourth_r2 : List Cond := [Cond.selects RX11 yX11_spread4 yX11_spread4, Cond.code yX11_spread4 cX11_spread4 10 (some .boolean)]
def wsX11_makeFourth : List Cond := .code yX11_makeFourth cX11_makeFourth 5 none :: ((wsX11_makeFourth_r1 ++ wsX11_makeFourth_r2) ++ wsX110)
def wsX11_make_r1 : List Cond := [Cond.fieldLink RX11 140 "StageCubeModel" "made" "Z", Cond.methodLink RX11 144 yX11_makeFirst, Cond.instanceMethod yX11_makeFirst, Cond.selects RX11 yX11_makeFirst yX11_makeFirst, Cond.initialized RX11, Cond.code yX11_makeFirst cX11_makeFirst 7 none, Cond.fieldLink RX11 58 "StageCubeModel" "near1" "[B", Cond.fieldLink RX11 46 "StageCubeModel" "edgeFrom" "[I", Cond.fieldLink RX11 49 "StageCubeModel" "edgeMore" "[I", Cond.methodLink RX11 147 yX11_makeNumbers, Cond.instanceMethod yX11_makeNumbers, Cond.selects RX11 yX11_makeNumbers yX11_makeNumbers, Cond.code yX11_makeNumbers cX11_makeNumbers 3 none, Cond.fieldLink RX11 73 "StageCubeModel" "maskOf" "[S", Cond.fieldLink RX11 77 "StageCubeModel" "maskAt" "[S", Cond.fieldLink RX11 80 "StageCubeModel" "halfOf" "[S", Cond.fieldLink RX11 83 "StageCubeModel" "halfAt" "[S", Cond.methodLink RX11 162 yX11_ones, Cond.static yX11_ones, Cond.code yX11_ones cX11_ones 3 (some .int), Cond.methodLink RX11 150 yX11_makeSecond, Cond.instanceMethod yX11_makeSecond, Cond.selects RX11 yX11_makeSecond yX11_makeSecond, Cond.code yX11_makeSecond cX11_makeSecond 7 none]
def wsX11_make_r2 : List Cond := [Cond.fieldLink RX11 112 "StageCubeModel" "row" "[I", Cond.fieldLink RX11 40 "StageCubeModel" "cornerFrom" "[I", Cond.fieldLink RX11 43 "StageCubeModel" "cornerMore" "[I", Cond.fieldLink RX11 100 "StageCubeModel" "move1" "[I", Cond.fieldLink RX11 103 "StageCubeModel" "move2" "[I", Cond.constant RX11 62 (1082565), Cond.fieldLink RX11 63 "StageCubeModel" "near2" "[B", Cond.methodLink RX11 166 yX11_maskBy, Cond.instanceMethod yX11_maskBy, Cond.selects RX11 yX11_maskBy yX11_maskBy, Cond.code yX11_maskBy cX11_maskBy 6 (some .int), Cond.methodLink RX11 170 yX11_spread2, Cond.instanceMethod yX11_spread2, Cond.selects RX11 yX11_spread2 yX11_spread2, Cond.code yX11_spread2 cX11_spread2 6 (some .boolean), Cond.methodLink RX11 174 yX11_may, Cond.static yX11_may, Cond.code yX11_may cX11_may 4 (some .boolean), Cond.methodLink RX11 153 yX11_makeKinds, Cond.instanceMethod yX11_makeKinds, Cond.selects RX11 yX11_makeKinds yX11_makeKinds, Cond.code yX11_makeKinds cX11_makeKinds 5 none, Cond.constant RX11 86 (40320), Cond.fieldLink RX11 93 "StageCubeModel" "squareOf" "[S"]
def wsX11_make_r3 : List Cond := [Cond.fieldLink RX11 87 "StageCubeModel" "kindOf" "[S", Cond.fieldLink RX11 96 "StageCubeModel" "squareAt" "[I", Cond.fieldLink RX11 90 "StageCubeModel" "kindAt" "[I", Cond.methodLink RX11 177 yX11_unrank, Cond.instanceMethod yX11_unrank, Cond.selects RX11 yX11_unrank yX11_unrank, Cond.code yX11_unrank cX11_unrank 6 none, Cond.methodLink RX11 181 yX11_turnRow, Cond.instanceMethod yX11_turnRow, Cond.selects RX11 yX11_turnRow yX11_turnRow, Cond.code yX11_turnRow cX11_turnRow 3 none, Cond.fieldLink RX11 115 "StageCubeModel" "other" "[I", Cond.methodLink RX11 184 yX11_rank, Cond.instanceMethod yX11_rank, Cond.selects RX11 yX11_rank yX11_rank, Cond.code yX11_rank cX11_rank 6 (some .int), Cond.methodLink RX11 187 yX11_nameKind, Cond.instanceMethod yX11_nameKind, Cond.selects RX11 yX11_nameKind yX11_nameKind, Cond.code yX11_nameKind cX11_nameKind 6 none, Cond.fieldLink RX11 37 "StageCubeModel" "oldMore" "[I", Cond.methodLink RX11 156 yX11_makeThird, Cond.instanceMethod yX11_makeThird, Cond.selects RX11 yX11_makeThird yX11_makeThird]
def wsX11_make_r4 : List Cond := [Cond.code yX11_makeThird cX11_makeThird 7 none, Cond.fieldLink RX11 106 "StageCubeModel" "move3" "[I", Cond.fieldLink RX11 66 "StageCubeModel" "near3" "[B", Cond.methodLink RX11 159 yX11_makeFourth, Cond.instanceMethod yX11_makeFourth, Cond.selects RX11 yX11_makeFourth yX11_makeFourth, Cond.code yX11_makeFourth cX11_makeFourth 5 none, Cond.fieldLink RX11 109 "StageCubeModel" "move4" "[I", Cond.constant RX11 69 (1327104), Cond.fieldLink RX11 70 "StageCubeModel" "near4" "[B", Cond.methodLink RX11 190 yX11_spread4, Cond.instanceMethod yX11_spread4, Cond.selects RX11 yX11_spread4 yX11_spread4, Cond.code yX11_spread4 cX11_spread4 10 (some .boolean)]
def wsX11_make : List Cond := .code yX11_make cX11_make 1 none :: ((wsX11_make_r1 ++ (wsX11_make_r2 ++ (wsX11_make_r3 ++ wsX11_make_r4))) ++ wsX110)
def wsX11_far : List Cond := .code yX11_far cX11_far 6 (some .int) :: ([.fieldLink RX11 31 "StageCubeModel" "fl" "[I", .fieldLink RX11 58 "StageCubeModel" "near1" "[B", .fieldLink RX11 25 "StageCubeModel" "tw" "[I", .fieldLink RX11 28 "StageCubeModel" "e" "[I", .fieldLink RX11 63 "StageCubeModel" "near2" "[B", .fieldLink RX11 73 "StageCubeModel" "maskOf" "[S", .fieldLink RX11 112 "StageCubeModel" "row" "[I", .fieldLink RX11 22 "StageCubeModel" "c" "[I", .fieldLink RX11 66 "StageCubeModel" "near3" "[B", .fieldLink RX11 87 "StageCubeModel" "kindOf" "[S", .fieldLink RX11 80 "StageCubeModel" "halfOf" "[S", .fieldLink RX11 93 "StageCubeModel" "squareOf" "[S", .fieldLink RX11 70 "StageCubeModel" "near4" "[B", .methodLink RX11 184 yX11_rank, .instanceMethod yX11_rank, .selects RX11 yX11_rank yX11_rank, .initialized RX11, .code yX11_rank cX11_rank 6 (some .int)] ++ wsX110)
def wsX11_walk_r1 : List Cond := [Cond.fieldLink RX11 55 "StageCubeModel" "lengths" "[I", Cond.fieldLink RX11 52 "StageCubeModel" "way" "[I", Cond.fieldLink RX11 196 "StageCubeModel" "steps" "I", Cond.methodLink RX11 193 yX11_far, Cond.instanceMethod yX11_far, Cond.selects RX11 yX11_far yX11_far, Cond.initialized RX11, Cond.code yX11_far cX11_far 6 (some .int), Cond.fieldLink RX11 31 "StageCubeModel" "fl" "[I", Cond.fieldLink RX11 58 "StageCubeModel" "near1" "[B", Cond.fieldLink RX11 25 "StageCubeModel" "tw" "[I", Cond.fieldLink RX11 28 "StageCubeModel" "e" "[I", Cond.fieldLink RX11 63 "StageCubeModel" "near2" "[B", Cond.fieldLink RX11 73 "StageCubeModel" "maskOf" "[S", Cond.fieldLink RX11 112 "StageCubeModel" "row" "[I", Cond.fieldLink RX11 22 "StageCubeModel" "c" "[I", Cond.fieldLink RX11 66 "StageCubeModel" "near3" "[B", Cond.fieldLink RX11 87 "StageCubeModel" "kindOf" "[S", Cond.fieldLink RX11 80 "StageCubeModel" "halfOf" "[S", Cond.fieldLink RX11 93 "StageCubeModel" "squareOf" "[S", Cond.fieldLink RX11 70 "StageCubeModel" "near4" "[B", Cond.methodLink RX11 184 yX11_rank, Cond.instanceMethod yX11_rank, Cond.selects RX11 yX11_rank yX11_rank]
def wsX11_walk_r2 : List Cond := [Cond.code yX11_rank cX11_rank 6 (some .int), Cond.methodLink RX11 174 yX11_may, Cond.static yX11_may, Cond.code yX11_may cX11_may 4 (some .boolean), Cond.methodLink RX11 132 yX11_turnIt, Cond.instanceMethod yX11_turnIt, Cond.selects RX11 yX11_turnIt yX11_turnIt, Cond.code yX11_turnIt cX11_turnIt 4 none, Cond.fieldLink RX11 34 "StageCubeModel" "old" "[I", Cond.fieldLink RX11 37 "StageCubeModel" "oldMore" "[I", Cond.fieldLink RX11 40 "StageCubeModel" "cornerFrom" "[I", Cond.fieldLink RX11 43 "StageCubeModel" "cornerMore" "[I", Cond.fieldLink RX11 46 "StageCubeModel" "edgeFrom" "[I", Cond.fieldLink RX11 49 "StageCubeModel" "edgeMore" "[I"]
def wsX11_walk : List Cond := .code yX11_walk cX11_walk 5 none :: ((wsX11_walk_r1 ++ wsX11_walk_r2) ++ wsX110)
def wsX11_solve_r1 : List Cond := [Cond.fieldLink RX11 199 "StageCubeModel" "hasWay" "Z", Cond.fieldLink RX11 196 "StageCubeModel" "steps" "I", Cond.methodLink RX11 202 yX11_lawful, Cond.instanceMethod yX11_lawful, Cond.selects RX11 yX11_lawful yX11_lawful, Cond.initialized RX11, Cond.code yX11_lawful cX11_lawful 8 (some .int), Cond.fieldLink RX11 7 "StageCubeModel" "corners" "[I", Cond.fieldLink RX11 13 "StageCubeModel" "twists" "[I", Cond.fieldLink RX11 16 "StageCubeModel" "edges" "[I", Cond.fieldLink RX11 19 "StageCubeModel" "flips" "[I", Cond.methodLink RX11 206 yX11_make, Cond.instanceMethod yX11_make, Cond.selects RX11 yX11_make yX11_make, Cond.code yX11_make cX11_make 1 none, Cond.fieldLink RX11 140 "StageCubeModel" "made" "Z", Cond.methodLink RX11 144 yX11_makeFirst, Cond.instanceMethod yX11_makeFirst, Cond.selects RX11 yX11_makeFirst yX11_makeFirst, Cond.code yX11_makeFirst cX11_makeFirst 7 none, Cond.fieldLink RX11 58 "StageCubeModel" "near1" "[B", Cond.fieldLink RX11 46 "StageCubeModel" "edgeFrom" "[I", Cond.fieldLink RX11 49 "StageCubeModel" "edgeMore" "[I", Cond.methodLink RX11 147 yX11_makeNumbers]
def wsX11_solve_r2 : List Cond := [Cond.instanceMethod yX11_makeNumbers, Cond.selects RX11 yX11_makeNumbers yX11_makeNumbers, Cond.code yX11_makeNumbers cX11_makeNumbers 3 none, Cond.fieldLink RX11 73 "StageCubeModel" "maskOf" "[S", Cond.fieldLink RX11 77 "StageCubeModel" "maskAt" "[S", Cond.fieldLink RX11 80 "StageCubeModel" "halfOf" "[S", Cond.fieldLink RX11 83 "StageCubeModel" "halfAt" "[S", Cond.methodLink RX11 162 yX11_ones, Cond.static yX11_ones, Cond.code yX11_ones cX11_ones 3 (some .int), Cond.methodLink RX11 150 yX11_makeSecond, Cond.instanceMethod yX11_makeSecond, Cond.selects RX11 yX11_makeSecond yX11_makeSecond, Cond.code yX11_makeSecond cX11_makeSecond 7 none, Cond.fieldLink RX11 112 "StageCubeModel" "row" "[I", Cond.fieldLink RX11 40 "StageCubeModel" "cornerFrom" "[I", Cond.fieldLink RX11 43 "StageCubeModel" "cornerMore" "[I", Cond.fieldLink RX11 100 "StageCubeModel" "move1" "[I", Cond.fieldLink RX11 103 "StageCubeModel" "move2" "[I", Cond.constant RX11 62 (1082565), Cond.fieldLink RX11 63 "StageCubeModel" "near2" "[B", Cond.methodLink RX11 166 yX11_maskBy, Cond.instanceMethod yX11_maskBy, Cond.selects RX11 yX11_maskBy yX11_maskBy]
def wsX11_solve_r3 : List Cond := [Cond.code yX11_maskBy cX11_maskBy 6 (some .int), Cond.methodLink RX11 170 yX11_spread2, Cond.instanceMethod yX11_spread2, Cond.selects RX11 yX11_spread2 yX11_spread2, Cond.code yX11_spread2 cX11_spread2 6 (some .boolean), Cond.methodLink RX11 174 yX11_may, Cond.static yX11_may, Cond.code yX11_may cX11_may 4 (some .boolean), Cond.methodLink RX11 153 yX11_makeKinds, Cond.instanceMethod yX11_makeKinds, Cond.selects RX11 yX11_makeKinds yX11_makeKinds, Cond.code yX11_makeKinds cX11_makeKinds 5 none, Cond.constant RX11 86 (40320), Cond.fieldLink RX11 93 "StageCubeModel" "squareOf" "[S", Cond.fieldLink RX11 87 "StageCubeModel" "kindOf" "[S", Cond.fieldLink RX11 96 "StageCubeModel" "squareAt" "[I", Cond.fieldLink RX11 90 "StageCubeModel" "kindAt" "[I", Cond.methodLink RX11 177 yX11_unrank, Cond.instanceMethod yX11_unrank, Cond.selects RX11 yX11_unrank yX11_unrank, Cond.code yX11_unrank cX11_unrank 6 none, Cond.methodLink RX11 181 yX11_turnRow, Cond.instanceMethod yX11_turnRow, Cond.selects RX11 yX11_turnRow yX11_turnRow]
def wsX11_solve_r4 : List Cond := [Cond.code yX11_turnRow cX11_turnRow 3 none, Cond.fieldLink RX11 115 "StageCubeModel" "other" "[I", Cond.methodLink RX11 184 yX11_rank, Cond.instanceMethod yX11_rank, Cond.selects RX11 yX11_rank yX11_rank, Cond.code yX11_rank cX11_rank 6 (some .int), Cond.methodLink RX11 187 yX11_nameKind, Cond.instanceMethod yX11_nameKind, Cond.selects RX11 yX11_nameKind yX11_nameKind, Cond.code yX11_nameKind cX11_nameKind 6 none, Cond.fieldLink RX11 37 "StageCubeModel" "oldMore" "[I", Cond.methodLink RX11 156 yX11_makeThird, Cond.instanceMethod yX11_makeThird, Cond.selects RX11 yX11_makeThird yX11_makeThird, Cond.code yX11_makeThird cX11_makeThird 7 none, Cond.fieldLink RX11 106 "StageCubeModel" "move3" "[I", Cond.fieldLink RX11 66 "StageCubeModel" "near3" "[B", Cond.methodLink RX11 159 yX11_makeFourth, Cond.instanceMethod yX11_makeFourth, Cond.selects RX11 yX11_makeFourth yX11_makeFourth, Cond.code yX11_makeFourth cX11_makeFourth 5 none, Cond.fieldLink RX11 109 "StageCubeModel" "move4" "[I", Cond.constant RX11 69 (1327104), Cond.fieldLink RX11 70 "StageCubeModel" "near4" "[B"]
def wsX11_solve_r5 : List Cond := [Cond.methodLink RX11 190 yX11_spread4, Cond.instanceMethod yX11_spread4, Cond.selects RX11 yX11_spread4 yX11_spread4, Cond.code yX11_spread4 cX11_spread4 10 (some .boolean), Cond.methodLink RX11 129 yX11_look, Cond.instanceMethod yX11_look, Cond.selects RX11 yX11_look yX11_look, Cond.code yX11_look cX11_look 2 none, Cond.fieldLink RX11 28 "StageCubeModel" "e" "[I", Cond.fieldLink RX11 31 "StageCubeModel" "fl" "[I", Cond.fieldLink RX11 22 "StageCubeModel" "c" "[I", Cond.fieldLink RX11 25 "StageCubeModel" "tw" "[I", Cond.methodLink RX11 209 yX11_walk, Cond.instanceMethod yX11_walk, Cond.selects RX11 yX11_walk yX11_walk, Cond.code yX11_walk cX11_walk 5 none, Cond.fieldLink RX11 55 "StageCubeModel" "lengths" "[I", Cond.fieldLink RX11 52 "StageCubeModel" "way" "[I", Cond.methodLink RX11 193 yX11_far, Cond.instanceMethod yX11_far, Cond.selects RX11 yX11_far yX11_far, Cond.code yX11_far cX11_far 6 (some .int), Cond.methodLink RX11 132 yX11_turnIt, Cond.instanceMethod yX11_turnIt]
def wsX11_solve_r6 : List Cond := [Cond.selects RX11 yX11_turnIt yX11_turnIt, Cond.code yX11_turnIt cX11_turnIt 4 none, Cond.fieldLink RX11 34 "StageCubeModel" "old" "[I"]
def wsX11_solve : List Cond := .code yX11_solve cX11_solve 3 (some .int) :: ((wsX11_solve_r1 ++ (wsX11_solve_r2 ++ (wsX11_solve_r3 ++ (wsX11_solve_r4 ++ (wsX11_solve_r5 ++ wsX11_solve_r6))))) ++ wsX110)
def wsX11_stage : List Cond := .code yX11_stage cX11_stage 2 (some .int) :: ([.fieldLink RX11 199 "StageCubeModel" "hasWay" "Z", .fieldLink RX11 55 "StageCubeModel" "lengths" "[I"] ++ wsX110)
def wsX11_step : List Cond := .code yX11_step cX11_step 2 (some .int) :: ([.fieldLink RX11 199 "StageCubeModel" "hasWay" "Z", .fieldLink RX11 196 "StageCubeModel" "steps" "I", .fieldLink RX11 52 "StageCubeModel" "way" "[I"] ++ wsX110)
def wsX11_flips_r1 : List Cond := [Cond.methodLink RX11 202 yX11_lawful, Cond.instanceMethod yX11_lawful, Cond.selects RX11 yX11_lawful yX11_lawful, Cond.initialized RX11, Cond.code yX11_lawful cX11_lawful 8 (some .int), Cond.fieldLink RX11 7 "StageCubeModel" "corners" "[I", Cond.fieldLink RX11 13 "StageCubeModel" "twists" "[I", Cond.fieldLink RX11 16 "StageCubeModel" "edges" "[I", Cond.fieldLink RX11 19 "StageCubeModel" "flips" "[I", Cond.methodLink RX11 206 yX11_make, Cond.instanceMethod yX11_make, Cond.selects RX11 yX11_make yX11_make, Cond.code yX11_make cX11_make 1 none, Cond.fieldLink RX11 140 "StageCubeModel" "made" "Z", Cond.methodLink RX11 144 yX11_makeFirst, Cond.instanceMethod yX11_makeFirst, Cond.selects RX11 yX11_makeFirst yX11_makeFirst, Cond.code yX11_makeFirst cX11_makeFirst 7 none, Cond.fieldLink RX11 58 "StageCubeModel" "near1" "[B", Cond.fieldLink RX11 46 "StageCubeModel" "edgeFrom" "[I", Cond.fieldLink RX11 49 "StageCubeModel" "edgeMore" "[I", Cond.methodLink RX11 147 yX11_makeNumbers, Cond.instanceMethod yX11_makeNumbers, Cond.selects RX11 yX11_makeNumbers yX11_makeNumbers]
def wsX11_flips_r2 : List Cond := [Cond.code yX11_makeNumbers cX11_makeNumbers 3 none, Cond.fieldLink RX11 73 "StageCubeModel" "maskOf" "[S", Cond.fieldLink RX11 77 "StageCubeModel" "maskAt" "[S", Cond.fieldLink RX11 80 "StageCubeModel" "halfOf" "[S", Cond.fieldLink RX11 83 "StageCubeModel" "halfAt" "[S", Cond.methodLink RX11 162 yX11_ones, Cond.static yX11_ones, Cond.code yX11_ones cX11_ones 3 (some .int), Cond.methodLink RX11 150 yX11_makeSecond, Cond.instanceMethod yX11_makeSecond, Cond.selects RX11 yX11_makeSecond yX11_makeSecond, Cond.code yX11_makeSecond cX11_makeSecond 7 none, Cond.fieldLink RX11 112 "StageCubeModel" "row" "[I", Cond.fieldLink RX11 40 "StageCubeModel" "cornerFrom" "[I", Cond.fieldLink RX11 43 "StageCubeModel" "cornerMore" "[I", Cond.fieldLink RX11 100 "StageCubeModel" "move1" "[I", Cond.fieldLink RX11 103 "StageCubeModel" "move2" "[I", Cond.constant RX11 62 (1082565), Cond.fieldLink RX11 63 "StageCubeModel" "near2" "[B", Cond.methodLink RX11 166 yX11_maskBy, Cond.instanceMethod yX11_maskBy, Cond.selects RX11 yX11_maskBy yX11_maskBy, Cond.code yX11_maskBy cX11_maskBy 6 (some .int), Cond.methodLink RX11 170 yX11_spread2]
def wsX11_flips_r3 : List Cond := [Cond.instanceMethod yX11_spread2, Cond.selects RX11 yX11_spread2 yX11_spread2, Cond.code yX11_spread2 cX11_spread2 6 (some .boolean), Cond.methodLink RX11 174 yX11_may, Cond.static yX11_may, Cond.code yX11_may cX11_may 4 (some .boolean), Cond.methodLink RX11 153 yX11_makeKinds, Cond.instanceMethod yX11_makeKinds, Cond.selects RX11 yX11_makeKinds yX11_makeKinds, Cond.code yX11_makeKinds cX11_makeKinds 5 none, Cond.constant RX11 86 (40320), Cond.fieldLink RX11 93 "StageCubeModel" "squareOf" "[S", Cond.fieldLink RX11 87 "StageCubeModel" "kindOf" "[S", Cond.fieldLink RX11 96 "StageCubeModel" "squareAt" "[I", Cond.fieldLink RX11 90 "StageCubeModel" "kindAt" "[I", Cond.methodLink RX11 177 yX11_unrank, Cond.instanceMethod yX11_unrank, Cond.selects RX11 yX11_unrank yX11_unrank, Cond.code yX11_unrank cX11_unrank 6 none, Cond.methodLink RX11 181 yX11_turnRow, Cond.instanceMethod yX11_turnRow, Cond.selects RX11 yX11_turnRow yX11_turnRow, Cond.code yX11_turnRow cX11_turnRow 3 none, Cond.fieldLink RX11 115 "StageCubeModel" "other" "[I"]
def wsX11_flips_r4 : List Cond := [Cond.methodLink RX11 184 yX11_rank, Cond.instanceMethod yX11_rank, Cond.selects RX11 yX11_rank yX11_rank, Cond.code yX11_rank cX11_rank 6 (some .int), Cond.methodLink RX11 187 yX11_nameKind, Cond.instanceMethod yX11_nameKind, Cond.selects RX11 yX11_nameKind yX11_nameKind, Cond.code yX11_nameKind cX11_nameKind 6 none, Cond.fieldLink RX11 37 "StageCubeModel" "oldMore" "[I", Cond.methodLink RX11 156 yX11_makeThird, Cond.instanceMethod yX11_makeThird, Cond.selects RX11 yX11_makeThird yX11_makeThird, Cond.code yX11_makeThird cX11_makeThird 7 none, Cond.fieldLink RX11 106 "StageCubeModel" "move3" "[I", Cond.fieldLink RX11 66 "StageCubeModel" "near3" "[B", Cond.methodLink RX11 159 yX11_makeFourth, Cond.instanceMethod yX11_makeFourth, Cond.selects RX11 yX11_makeFourth yX11_makeFourth, Cond.code yX11_makeFourth cX11_makeFourth 5 none, Cond.fieldLink RX11 109 "StageCubeModel" "move4" "[I", Cond.constant RX11 69 (1327104), Cond.fieldLink RX11 70 "StageCubeModel" "near4" "[B", Cond.methodLink RX11 190 yX11_spread4, Cond.instanceMethod yX11_spread4]
def wsX11_flips_r5 : List Cond := [Cond.selects RX11 yX11_spread4 yX11_spread4, Cond.code yX11_spread4 cX11_spread4 10 (some .boolean), Cond.methodLink RX11 129 yX11_look, Cond.instanceMethod yX11_look, Cond.selects RX11 yX11_look yX11_look, Cond.code yX11_look cX11_look 2 none, Cond.fieldLink RX11 28 "StageCubeModel" "e" "[I", Cond.fieldLink RX11 31 "StageCubeModel" "fl" "[I", Cond.fieldLink RX11 22 "StageCubeModel" "c" "[I", Cond.fieldLink RX11 25 "StageCubeModel" "tw" "[I", Cond.methodLink RX11 193 yX11_far, Cond.instanceMethod yX11_far, Cond.selects RX11 yX11_far yX11_far, Cond.code yX11_far cX11_far 6 (some .int)]
def wsX11_flips : List Cond := .code yX11_flips cX11_flips 2 (some .int) :: ((wsX11_flips_r1 ++ (wsX11_flips_r2 ++ (wsX11_flips_r3 ++ (wsX11_flips_r4 ++ wsX11_flips_r5)))) ++ wsX110)
def wsL_law_r1 : List Cond := [Cond.classLink RL 7 RX10, Cond.instantiable RX10 7, Cond.initialized RX10, Cond.classLink RL 10 RX11, Cond.instantiable RX11 38, Cond.initialized RX11, Cond.methodLink RL 9 yX10_init, Cond.instanceMethod yX10_init, Cond.code yX10_init cX10_init 1 none, Cond.methodLink RX10 1 objectInit, Cond.instanceMethod objectInit, Cond.code objectInit ⟨#[0xb1]⟩ 1 none, Cond.classLink RX10 7 RX1, Cond.instantiable RX1 2, Cond.initialized RX1, Cond.fieldLink RX10 10 "StageCube" "cube" "LStageCube$Cube;", Cond.fieldLink RX10 16 "StageCube" "walker" "LStageCube$Cube;", Cond.classLink RX10 19 RX9, Cond.fieldLink RX10 21 "StageCube" "stages" "[LStageCube$Stage;", Cond.arrayClass .int, Cond.fieldLink RX10 25 "StageCube" "lengths" "[I", Cond.fieldLink RX10 29 "StageCube" "steps" "[I", Cond.fieldLink RX10 32 "StageCube" "stepCount" "I", Cond.fieldLink RX10 36 "StageCube" "turnsSinceHome" "I"]
def wsL_law_r2 : List Cond := [Cond.methodLink RX10 9 yX1_init, Cond.instanceMethod yX1_init, Cond.code yX1_init cX1_init 1 none, Cond.methodLink RX1 1 objectInit, Cond.classLink RX1 7 RX7, Cond.instantiable RX7 6, Cond.initialized RX7, Cond.fieldLink RX1 12 "StageCube$Cube" "corners" "LStageCube$Pieces;", Cond.fieldLink RX1 18 "StageCube$Cube" "edges" "LStageCube$Pieces;", Cond.methodLink RX1 9 yX7_init, Cond.instanceMethod yX7_init, Cond.code yX7_init cX7_init 2 none, Cond.methodLink RX7 3 objectInit, Cond.fieldLink RX7 9 "StageCube$Pieces" "count" "I", Cond.fieldLink RX7 15 "StageCube$Pieces" "marks" "I", Cond.fieldLink RX7 18 "StageCube$Pieces" "CORNER_ROUND" "[I", Cond.fieldLink RX7 22 "StageCube$Pieces" "EDGE_ROUND" "[I", Cond.fieldLink RX7 25 "StageCube$Pieces" "round" "[I", Cond.fieldLink RX7 28 "StageCube$Pieces" "TWIST_GAIN" "[I", Cond.fieldLink RX7 31 "StageCube$Pieces" "FLIP_GAIN" "[I", Cond.fieldLink RX7 34 "StageCube$Pieces" "gain" "[I", Cond.fieldLink RX7 37 "StageCube$Pieces" "piece" "[I", Cond.fieldLink RX7 40 "StageCube$Pieces" "mark" "[I", Cond.methodLink RX7 43 yX7_reset]
def wsL_law_r3 : List Cond := [Cond.instanceMethod yX7_reset, Cond.selects RX7 yX7_reset yX7_reset, Cond.code yX7_reset cX7_reset 2 none, Cond.methodLink RL 12 yX11_init, Cond.instanceMethod yX11_init, Cond.code yX11_init cX11_init 1 none, Cond.methodLink RX11 1 objectInit, Cond.fieldLink RX11 7 "StageCubeModel" "corners" "[I", Cond.fieldLink RX11 13 "StageCubeModel" "twists" "[I", Cond.fieldLink RX11 16 "StageCubeModel" "edges" "[I", Cond.fieldLink RX11 19 "StageCubeModel" "flips" "[I", Cond.fieldLink RX11 22 "StageCubeModel" "c" "[I", Cond.fieldLink RX11 25 "StageCubeModel" "tw" "[I", Cond.fieldLink RX11 28 "StageCubeModel" "e" "[I", Cond.fieldLink RX11 31 "StageCubeModel" "fl" "[I", Cond.fieldLink RX11 34 "StageCubeModel" "old" "[I", Cond.fieldLink RX11 37 "StageCubeModel" "oldMore" "[I", Cond.fieldLink RX11 40 "StageCubeModel" "cornerFrom" "[I", Cond.fieldLink RX11 43 "StageCubeModel" "cornerMore" "[I", Cond.fieldLink RX11 46 "StageCubeModel" "edgeFrom" "[I", Cond.fieldLink RX11 49 "StageCubeModel" "edgeMore" "[I", Cond.fieldLink RX11 52 "StageCubeModel" "way" "[I", Cond.fieldLink RX11 55 "StageCubeModel" "lengths" "[I", Cond.arrayClass .byte]
def wsL_law_r4 : List Cond := [Cond.fieldLink RX11 58 "StageCubeModel" "near1" "[B", Cond.constant RX11 62 (1082565), Cond.fieldLink RX11 63 "StageCubeModel" "near2" "[B", Cond.fieldLink RX11 66 "StageCubeModel" "near3" "[B", Cond.constant RX11 69 (1327104), Cond.fieldLink RX11 70 "StageCubeModel" "near4" "[B", Cond.arrayClass .short, Cond.fieldLink RX11 73 "StageCubeModel" "maskOf" "[S", Cond.fieldLink RX11 77 "StageCubeModel" "maskAt" "[S", Cond.fieldLink RX11 80 "StageCubeModel" "halfOf" "[S", Cond.fieldLink RX11 83 "StageCubeModel" "halfAt" "[S", Cond.constant RX11 86 (40320), Cond.fieldLink RX11 87 "StageCubeModel" "kindOf" "[S", Cond.fieldLink RX11 90 "StageCubeModel" "kindAt" "[I", Cond.fieldLink RX11 93 "StageCubeModel" "squareOf" "[S", Cond.fieldLink RX11 96 "StageCubeModel" "squareAt" "[I", Cond.constant RX11 99 (39366), Cond.fieldLink RX11 100 "StageCubeModel" "move1" "[I", Cond.fieldLink RX11 103 "StageCubeModel" "move2" "[I", Cond.fieldLink RX11 106 "StageCubeModel" "move3" "[I", Cond.fieldLink RX11 109 "StageCubeModel" "move4" "[I", Cond.fieldLink RX11 112 "StageCubeModel" "row" "[I", Cond.fieldLink RX11 115 "StageCubeModel" "other" "[I", Cond.methodLink RX11 118 yX11_face]
def wsL_law_r5 : List Cond := [Cond.instanceMethod yX11_face, Cond.selects RX11 yX11_face yX11_face, Cond.code yX11_face cX11_face 12 none, Cond.methodLink RX11 125 yX11_between, Cond.static yX11_between, Cond.code yX11_between cX11_between 7 (some .int), Cond.methodLink RX11 122 yX11_bringHome, Cond.instanceMethod yX11_bringHome, Cond.selects RX11 yX11_bringHome yX11_bringHome, Cond.code yX11_bringHome cX11_bringHome 2 none, Cond.methodLink RL 13 yX10_corner, Cond.instanceMethod yX10_corner, Cond.selects RX10 yX10_corner yX10_corner, Cond.code yX10_corner cX10_corner 4 (some .int), Cond.fieldLink RX10 39 "StageCube$Cube" "corners" "LStageCube$Pieces;", Cond.methodLink RX10 43 yX7_put, Cond.instanceMethod yX7_put, Cond.selects RX7 yX7_put yX7_put, Cond.code yX7_put cX7_put 4 (some .boolean), Cond.methodLink RX7 46 yX7_isNumber, Cond.static yX7_isNumber, Cond.code yX7_isNumber cX7_isNumber 2 (some .boolean), Cond.methodLink RL 17 yX11_corner, Cond.instanceMethod yX11_corner]
def wsL_law_r6 : List Cond := [Cond.selects RX11 yX11_corner yX11_corner, Cond.code yX11_corner cX11_corner 4 (some .int), Cond.methodLink RL 18 yX10_edge, Cond.instanceMethod yX10_edge, Cond.selects RX10 yX10_edge yX10_edge, Cond.code yX10_edge cX10_edge 4 (some .int), Cond.fieldLink RX10 49 "StageCube$Cube" "edges" "LStageCube$Pieces;", Cond.methodLink RL 21 yX11_edge, Cond.instanceMethod yX11_edge, Cond.selects RX11 yX11_edge yX11_edge, Cond.code yX11_edge cX11_edge 4 (some .int), Cond.methodLink RL 22 yX10_at, Cond.instanceMethod yX10_at, Cond.selects RX10 yX10_at yX10_at, Cond.code yX10_at cX10_at 3 (some .int), Cond.methodLink RX10 52 yX7_describe, Cond.instanceMethod yX7_describe, Cond.selects RX7 yX7_describe yX7_describe, Cond.code yX7_describe cX7_describe 2 (some .int), Cond.methodLink RL 26 yX11_at, Cond.instanceMethod yX11_at, Cond.selects RX11 yX11_at yX11_at, Cond.code yX11_at cX11_at 3 (some .int), Cond.methodLink RL 27 yX10_lawful]
def wsL_law_r7 : List Cond := [Cond.instanceMethod yX10_lawful, Cond.selects RX10 yX10_lawful yX10_lawful, Cond.code yX10_lawful cX10_lawful 1 (some .int), Cond.methodLink RX10 56 yX7_allThere, Cond.instanceMethod yX7_allThere, Cond.selects RX7 yX7_allThere yX7_allThere, Cond.code yX7_allThere cX7_allThere 3 (some .boolean), Cond.methodLink RX10 60 yX7_marksCancel, Cond.instanceMethod yX7_marksCancel, Cond.selects RX7 yX7_marksCancel yX7_marksCancel, Cond.code yX7_marksCancel cX7_marksCancel 3 (some .boolean), Cond.methodLink RX10 63 yX7_oddlySwapped, Cond.instanceMethod yX7_oddlySwapped, Cond.selects RX7 yX7_oddlySwapped yX7_oddlySwapped, Cond.code yX7_oddlySwapped cX7_oddlySwapped 4 (some .boolean), Cond.methodLink RL 31 yX11_lawful, Cond.instanceMethod yX11_lawful, Cond.selects RX11 yX11_lawful yX11_lawful, Cond.code yX11_lawful cX11_lawful 8 (some .int), Cond.methodLink RL 32 yX10_turn, Cond.instanceMethod yX10_turn, Cond.selects RX10 yX10_turn yX10_turn, Cond.code yX10_turn cX10_turn 2 (some .int), Cond.methodLink RX10 66 yX1_make]
def wsL_law_r8 : List Cond := [Cond.instanceMethod yX1_make, Cond.selects RX1 yX1_make yX1_make, Cond.code yX1_make cX1_make 5 none, Cond.methodLink RX1 28 yX7_quarter, Cond.instanceMethod yX7_quarter, Cond.selects RX7 yX7_quarter yX7_quarter, Cond.code yX7_quarter cX7_quarter 7 none, Cond.methodLink RL 36 yX11_turn, Cond.instanceMethod yX11_turn, Cond.selects RX11 yX11_turn yX11_turn, Cond.code yX11_turn cX11_turn 3 (some .int), Cond.fieldLink RX11 136 "StageCubeModel" "turned" "I", Cond.methodLink RX11 129 yX11_look, Cond.instanceMethod yX11_look, Cond.selects RX11 yX11_look yX11_look, Cond.code yX11_look cX11_look 2 none, Cond.methodLink RX11 132 yX11_turnIt, Cond.instanceMethod yX11_turnIt, Cond.selects RX11 yX11_turnIt yX11_turnIt, Cond.code yX11_turnIt cX11_turnIt 4 none, Cond.methodLink RL 37 yX10_home, Cond.instanceMethod yX10_home, Cond.selects RX10 yX10_home yX10_home, Cond.code yX10_home cX10_home 2 (some .int)]
def wsL_law_r9 : List Cond := [Cond.methodLink RX10 70 yX1_reset, Cond.instanceMethod yX1_reset, Cond.selects RX1 yX1_reset yX1_reset, Cond.code yX1_reset cX1_reset 1 none, Cond.methodLink RX1 21 yX7_reset, Cond.methodLink RL 40 yX11_home, Cond.instanceMethod yX11_home, Cond.selects RX11 yX11_home yX11_home, Cond.code yX11_home cX11_home 2 (some .int), Cond.methodLink RL 41 yX10_isHome, Cond.instanceMethod yX10_isHome, Cond.selects RX10 yX10_isHome yX10_isHome, Cond.code yX10_isHome cX10_isHome 1 (some .int), Cond.methodLink RX10 73 yX7_atHome, Cond.instanceMethod yX7_atHome, Cond.selects RX7 yX7_atHome yX7_atHome, Cond.code yX7_atHome cX7_atHome 2 (some .boolean), Cond.methodLink RL 44 yX11_isHome, Cond.instanceMethod yX11_isHome, Cond.selects RX11 yX11_isHome yX11_isHome, Cond.code yX11_isHome cX11_isHome 3 (some .int), Cond.methodLink RL 45 yX10_solve, Cond.instanceMethod yX10_solve, Cond.selects RX10 yX10_solve yX10_solve]
def wsL_law_r10 : List Cond := [Cond.code yX10_solve cX10_solve 3 (some .int), Cond.methodLink RX10 76 yX10_forgetWay, Cond.instanceMethod yX10_forgetWay, Cond.selects RX10 yX10_forgetWay yX10_forgetWay, Cond.code yX10_forgetWay cX10_forgetWay 2 none, Cond.methodLink RX10 79 yX10_lawful, Cond.methodLink RX10 83 yX1_copyFrom, Cond.instanceMethod yX1_copyFrom, Cond.selects RX1 yX1_copyFrom yX1_copyFrom, Cond.code yX1_copyFrom cX1_copyFrom 2 none, Cond.methodLink RX1 24 yX7_copyFrom, Cond.instanceMethod yX7_copyFrom, Cond.selects RX7 yX7_copyFrom yX7_copyFrom, Cond.code yX7_copyFrom cX7_copyFrom 3 none, Cond.methodLink RX10 87 yX10_walkStage, Cond.instanceMethod yX10_walkStage, Cond.selects RX10 yX10_walkStage yX10_walkStage, Cond.code yX10_walkStage cX10_walkStage 5 none, Cond.fieldLink RX10 98 "StageCube$Stage" "way" "[I", Cond.methodLink RX10 90 yX10_knownStage, Cond.instanceMethod yX10_knownStage, Cond.selects RX10 yX10_knownStage yX10_knownStage, Cond.code yX10_knownStage cX10_knownStage 2 (some (.object "StageCube$Stage")), Cond.methodLink RX10 101 yX10_newStage]
def wsL_law_r11 : List Cond := [Cond.static yX10_newStage, Cond.code yX10_newStage cX10_newStage 1 (some (.object "StageCube$Stage")), Cond.instantiable RX9 7, Cond.initialized RX9, Cond.classLink RX10 104 RX2, Cond.classLink RX10 106 RX3, Cond.instantiable RX3 3, Cond.initialized RX3, Cond.classLink RX10 114 RX8, Cond.instantiable RX8 5, Cond.initialized RX8, Cond.classLink RX10 119 RX6, Cond.instantiable RX6 6, Cond.initialized RX6, Cond.classLink RX10 122 RX0, Cond.instantiable RX0 4, Cond.initialized RX0, Cond.classLink RX10 125 RX5, Cond.instantiable RX5 5, Cond.initialized RX5, Cond.methodLink RX10 108 yX3_init, Cond.instanceMethod yX3_init, Cond.code yX3_init cX3_init 2 none, Cond.methodLink RX3 1 yX2_init]
def wsL_law_r12 : List Cond := [Cond.instanceMethod yX2_init, Cond.initialized RX2, Cond.code yX2_init cX2_init 3 none, Cond.methodLink RX2 3 objectInit, Cond.fieldLink RX2 9 "StageCube$Feature" "ofCorners" "Z", Cond.fieldLink RX2 15 "StageCube$Feature" "size" "I", Cond.methodLink RX10 111 yX9_init, Cond.instanceMethod yX9_init, Cond.code yX9_init cX9_init 5 none, Cond.methodLink RX9 3 objectInit, Cond.fieldLink RX9 9 "StageCube$Stage" "facesWithQuarters" "I", Cond.fieldLink RX9 15 "StageCube$Stage" "reach" "I", Cond.fieldLink RX9 18 "StageCube$Stage" "queueLength" "I", Cond.fieldLink RX9 21 "StageCube$Stage" "features" "[LStageCube$Feature;", Cond.fieldLink RX9 25 "StageCube$Stage" "numbers" "[I", Cond.fieldLink RX9 29 "StageCube$Stage" "way" "[I", Cond.methodLink RX10 116 yX8_init, Cond.instanceMethod yX8_init, Cond.code yX8_init cX8_init 3 none, Cond.fieldLink RX8 11 "StageCube$Places" "family" "I", Cond.fieldLink RX8 17 "StageCube$Places" "positions" "I", Cond.methodLink RX8 5 yX2_init, Cond.methodLink RX10 121 yX6_init, Cond.instanceMethod yX6_init]
def wsL_law_r13 : List Cond := [Cond.code yX6_init cX6_init 1 none, Cond.fieldLink RX6 11 "StageCube$Pairings" "evens" "[I", Cond.fieldLink RX6 17 "StageCube$Pairings" "odds" "[I", Cond.fieldLink RX6 20 "StageCube$Pairings" "order" "[I", Cond.methodLink RX6 5 yX2_init, Cond.methodLink RX10 124 yX0_init, Cond.instanceMethod yX0_init, Cond.code yX0_init cX0_init 1 none, Cond.fieldLink RX0 9 "StageCube$CornerOrders" "order" "[I", Cond.methodLink RX0 3 yX2_init, Cond.methodLink RX10 127 yX5_init, Cond.instanceMethod yX5_init, Cond.code yX5_init cX5_init 2 none, Cond.fieldLink RX5 9 "StageCube$Orders" "first" "I", Cond.fieldLink RX5 15 "StageCube$Orders" "order" "[I", Cond.methodLink RX5 3 yX2_init, Cond.methodLink RX10 94 yX9_find, Cond.instanceMethod yX9_find, Cond.selects RX9 yX9_find yX9_find, Cond.code yX9_find cX9_find 4 (some .int), Cond.fieldLink RX9 36 "StageCube$Stage" "near" "[J", Cond.methodLink RX9 32 yX9_readStart, Cond.instanceMethod yX9_readStart, Cond.selects RX9 yX9_readStart yX9_readStart]
def wsL_law_r14 : List Cond := [Cond.code yX9_readStart cX9_readStart 3 (some .int), Cond.methodLink RX9 54 ⟨"StageCube$Feature", "readFrom", "(LStageCube$Cube;)I"⟩, Cond.sameMethod "StageCube$Feature" "StageCube$Feature" "readFrom" "(LStageCube$Cube;)I", Cond.selects RX0 ⟨"StageCube$Feature", "readFrom", "(LStageCube$Cube;)I"⟩ yX2_readFrom, Cond.instanceMethod yX2_readFrom, Cond.code yX2_readFrom cX2_readFrom 2 (some .int), Cond.fieldLink RX2 19 "StageCube$Cube" "corners" "LStageCube$Pieces;", Cond.fieldLink RX2 25 "StageCube$Cube" "edges" "LStageCube$Pieces;", Cond.methodLink RX2 28 ⟨"StageCube$Feature", "read", "(LStageCube$Pieces;)I"⟩, Cond.sameMethod "StageCube$Feature" "StageCube$Feature" "read" "(LStageCube$Pieces;)I", Cond.selects RX0 ⟨"StageCube$Feature", "read", "(LStageCube$Pieces;)I"⟩ yX0_read, Cond.instanceMethod yX0_read, Cond.code yX0_read cX0_read 4 (some .int), Cond.fieldLink RX0 15 "StageCube$Pieces" "piece" "[I", Cond.methodLink RX0 20 yX4_ofOrder, Cond.static yX4_ofOrder, Cond.initialized RX4, Cond.code yX4_ofOrder cX4_ofOrder 4 (some .int), Cond.selects RX3 ⟨"StageCube$Feature", "read", "(LStageCube$Pieces;)I"⟩ yX3_read, Cond.instanceMethod yX3_read, Cond.code yX3_read cX3_read 4 (some .int), Cond.fieldLink RX3 7 "StageCube$Pieces" "count" "I", Cond.fieldLink RX3 13 "StageCube$Pieces" "marks" "I", Cond.fieldLink RX3 16 "StageCube$Pieces" "mark" "[I"]
def wsL_law_r15 : List Cond := [Cond.selects RX5 ⟨"StageCube$Feature", "read", "(LStageCube$Pieces;)I"⟩ yX5_read, Cond.instanceMethod yX5_read, Cond.code yX5_read cX5_read 3 (some .int), Cond.fieldLink RX5 19 "StageCube$Pieces" "piece" "[I", Cond.methodLink RX5 24 yX4_ofOrder, Cond.selects RX6 ⟨"StageCube$Feature", "read", "(LStageCube$Pieces;)I"⟩ yX6_read, Cond.instanceMethod yX6_read, Cond.code yX6_read cX6_read 6 (some .int), Cond.fieldLink RX6 23 "StageCube$Pieces" "piece" "[I", Cond.fieldLink RX6 28 "StageCube$Pairings" "POSITIONS" "[I", Cond.methodLink RX6 31 yJ6_bitCount_0f7a4, Cond.static yJ6_bitCount_0f7a4, Cond.initialized RJ6, Cond.code yJ6_bitCount_0f7a4 cJ6_bitCount_0f7a4 1 (some .int), Cond.constant RJ6 265 (1431655765), Cond.constant RJ6 266 (858993459), Cond.constant RJ6 267 (252645135), Cond.methodLink RX6 37 yX6_partner, Cond.instanceMethod yX6_partner, Cond.selects RX6 yX6_partner yX6_partner, Cond.code yX6_partner cX6_partner 3 (some .int), Cond.methodLink RX6 40 yX4_ofOrder, Cond.methodLink RX6 44 yX4_ofSet, Cond.static yX4_ofSet]
def wsL_law_r16 : List Cond := [Cond.code yX4_ofSet cX4_ofSet 5 (some .int), Cond.fieldLink RX4 7 "StageCube$Numbering" "CHOOSE" "[I", Cond.selects RX8 ⟨"StageCube$Feature", "read", "(LStageCube$Pieces;)I"⟩ yX8_read, Cond.instanceMethod yX8_read, Cond.code yX8_read cX8_read 4 (some .int), Cond.fieldLink RX8 20 "StageCube$Pieces" "piece" "[I", Cond.methodLink RX8 26 yX8_position, Cond.instanceMethod yX8_position, Cond.selects RX8 yX8_position yX8_position, Cond.code yX8_position cX8_position 2 (some .int), Cond.methodLink RX8 30 yX4_ofSet, Cond.selects RX3 ⟨"StageCube$Feature", "readFrom", "(LStageCube$Cube;)I"⟩ yX2_readFrom, Cond.selects RX5 ⟨"StageCube$Feature", "readFrom", "(LStageCube$Cube;)I"⟩ yX2_readFrom, Cond.selects RX6 ⟨"StageCube$Feature", "readFrom", "(LStageCube$Cube;)I"⟩ yX2_readFrom, Cond.selects RX8 ⟨"StageCube$Feature", "readFrom", "(LStageCube$Cube;)I"⟩ yX2_readFrom, Cond.methodLink RX9 43 yX9_stateAt, Cond.instanceMethod yX9_stateAt, Cond.selects RX9 yX9_stateAt yX9_stateAt, Cond.code yX9_stateAt cX9_stateAt 5 (some .int), Cond.fieldLink RX9 86 "StageCube$Feature" "size" "I", Cond.methodLink RX9 40 yX9_prepare, Cond.instanceMethod yX9_prepare, Cond.selects RX9 yX9_prepare yX9_prepare, Cond.code yX9_prepare cX9_prepare 3 none]
def wsL_law_r17 : List Cond := [Cond.arrayClass .long, Cond.methodLink RX9 92 ⟨"StageCube$Feature", "learn", "(I)V"⟩, Cond.sameMethod "StageCube$Feature" "StageCube$Feature" "learn" "(I)V", Cond.selects RX0 ⟨"StageCube$Feature", "learn", "(I)V"⟩ yX2_learn, Cond.instanceMethod yX2_learn, Cond.code yX2_learn cX2_learn 5 none, Cond.classLink RX2 32 RX7, Cond.fieldLink RX2 37 "StageCube$Feature" "next" "[I", Cond.methodLink RX2 34 yX7_init, Cond.methodLink RX2 41 ⟨"StageCube$Feature", "show", "(ILStageCube$Pieces;)V"⟩, Cond.sameMethod "StageCube$Feature" "StageCube$Feature" "show" "(ILStageCube$Pieces;)V", Cond.selects RX0 ⟨"StageCube$Feature", "show", "(ILStageCube$Pieces;)V"⟩ yX0_show, Cond.instanceMethod yX0_show, Cond.code yX0_show cX0_show 7 none, Cond.fieldLink RX0 28 "StageCube$Pairings" "EVEN" "[I", Cond.methodLink RX0 24 yX4_toOrder, Cond.static yX4_toOrder, Cond.code yX4_toOrder cX4_toOrder 7 none, Cond.selects RX3 ⟨"StageCube$Feature", "show", "(ILStageCube$Pieces;)V"⟩ yX3_show, Cond.instanceMethod yX3_show, Cond.code yX3_show cX3_show 7 none, Cond.selects RX5 ⟨"StageCube$Feature", "show", "(ILStageCube$Pieces;)V"⟩ yX5_show, Cond.instanceMethod yX5_show, Cond.code yX5_show cX5_show 4 none]
def wsL_law_r18 : List Cond := [Cond.methodLink RX5 28 yX4_toOrder, Cond.selects RX6 ⟨"StageCube$Feature", "show", "(ILStageCube$Pieces;)V"⟩ yX6_show, Cond.instanceMethod yX6_show, Cond.code yX6_show cX6_show 6 none, Cond.fieldLink RX6 55 "StageCube$Pairings" "EVEN" "[I", Cond.methodLink RX6 48 yX4_toSet, Cond.static yX4_toSet, Cond.code yX4_toSet cX4_toSet 7 (some .int), Cond.methodLink RX6 51 yX4_toOrder, Cond.selects RX8 ⟨"StageCube$Feature", "show", "(ILStageCube$Pieces;)V"⟩ yX8_show, Cond.instanceMethod yX8_show, Cond.code yX8_show cX8_show 6 none, Cond.methodLink RX8 34 yX4_toSet, Cond.methodLink RX2 45 yX7_quarter, Cond.selects RX3 ⟨"StageCube$Feature", "learn", "(I)V"⟩ yX2_learn, Cond.selects RX5 ⟨"StageCube$Feature", "learn", "(I)V"⟩ yX2_learn, Cond.selects RX6 ⟨"StageCube$Feature", "learn", "(I)V"⟩ yX2_learn, Cond.selects RX8 ⟨"StageCube$Feature", "learn", "(I)V"⟩ yX2_learn, Cond.methodLink RX9 95 yX9_spreadFromGoal, Cond.instanceMethod yX9_spreadFromGoal, Cond.selects RX9 yX9_spreadFromGoal yX9_spreadFromGoal, Cond.code yX9_spreadFromGoal cX9_spreadFromGoal 4 none, Cond.methodLink RX9 98 yX9_store, Cond.instanceMethod yX9_store]
def wsL_law_r19 : List Cond := [Cond.selects RX9 yX9_store yX9_store, Cond.code yX9_store cX9_store 3 none, Cond.methodLink RX9 101 yX9_spread, Cond.instanceMethod yX9_spread, Cond.selects RX9 yX9_spread yX9_spread, Cond.code yX9_spread cX9_spread 9 (some .int), Cond.methodLink RX9 89 yX9_stored, Cond.instanceMethod yX9_stored, Cond.selects RX9 yX9_stored yX9_stored, Cond.code yX9_stored cX9_stored 2 (some .int), Cond.methodLink RX9 105 yX9_showState, Cond.instanceMethod yX9_showState, Cond.selects RX9 yX9_showState yX9_showState, Cond.code yX9_showState cX9_showState 4 none, Cond.methodLink RX9 63 yX9_copyDown, Cond.instanceMethod yX9_copyDown, Cond.selects RX9 yX9_copyDown yX9_copyDown, Cond.code yX9_copyDown cX9_copyDown 3 none, Cond.methodLink RX9 77 arraycopyName, Cond.native arraycopyName, Cond.static arraycopyName, Cond.initialized "java/lang/System", Cond.methodLink RX9 67 yX9_turnsOf, Cond.instanceMethod yX9_turnsOf]
def wsL_law_r20 : List Cond := [Cond.selects RX9 yX9_turnsOf yX9_turnsOf, Cond.code yX9_turnsOf cX9_turnsOf 2 (some .int), Cond.methodLink RX9 70 yX9_advance, Cond.instanceMethod yX9_advance, Cond.selects RX9 yX9_advance yX9_advance, Cond.code yX9_advance cX9_advance 5 none, Cond.fieldLink RX9 83 "StageCube$Feature" "next" "[I", Cond.methodLink RX9 47 yX9_turnsToGoal, Cond.instanceMethod yX9_turnsToGoal, Cond.selects RX9 yX9_turnsToGoal yX9_turnsToGoal, Cond.code yX9_turnsToGoal cX9_turnsToGoal 3 (some .int), Cond.methodLink RX9 50 yX9_dive, Cond.instanceMethod yX9_dive, Cond.selects RX9 yX9_dive yX9_dive, Cond.code yX9_dive cX9_dive 6 (some .boolean), Cond.methodLink RX9 59 yX9_isNeedless, Cond.static yX9_isNeedless, Cond.code yX9_isNeedless cX9_isNeedless 2 (some .boolean), Cond.methodLink RX9 74 yX9_firstTurnOf, Cond.instanceMethod yX9_firstTurnOf, Cond.selects RX9 yX9_firstTurnOf yX9_firstTurnOf, Cond.code yX9_firstTurnOf cX9_firstTurnOf 2 (some .int), Cond.methodLink RL 48 yX11_solve, Cond.instanceMethod yX11_solve]
def wsL_law_r21 : List Cond := [Cond.selects RX11 yX11_solve yX11_solve, Cond.code yX11_solve cX11_solve 3 (some .int), Cond.fieldLink RX11 199 "StageCubeModel" "hasWay" "Z", Cond.fieldLink RX11 196 "StageCubeModel" "steps" "I", Cond.methodLink RX11 202 yX11_lawful, Cond.methodLink RX11 206 yX11_make, Cond.instanceMethod yX11_make, Cond.selects RX11 yX11_make yX11_make, Cond.code yX11_make cX11_make 1 none, Cond.fieldLink RX11 140 "StageCubeModel" "made" "Z", Cond.methodLink RX11 144 yX11_makeFirst, Cond.instanceMethod yX11_makeFirst, Cond.selects RX11 yX11_makeFirst yX11_makeFirst, Cond.code yX11_makeFirst cX11_makeFirst 7 none, Cond.methodLink RX11 147 yX11_makeNumbers, Cond.instanceMethod yX11_makeNumbers, Cond.selects RX11 yX11_makeNumbers yX11_makeNumbers, Cond.code yX11_makeNumbers cX11_makeNumbers 3 none, Cond.methodLink RX11 162 yX11_ones, Cond.static yX11_ones, Cond.code yX11_ones cX11_ones 3 (some .int), Cond.methodLink RX11 150 yX11_makeSecond, Cond.instanceMethod yX11_makeSecond, Cond.selects RX11 yX11_makeSecond yX11_makeSecond]
def wsL_law_r22 : List Cond := [Cond.code yX11_makeSecond cX11_makeSecond 7 none, Cond.methodLink RX11 166 yX11_maskBy, Cond.instanceMethod yX11_maskBy, Cond.selects RX11 yX11_maskBy yX11_maskBy, Cond.code yX11_maskBy cX11_maskBy 6 (some .int), Cond.methodLink RX11 170 yX11_spread2, Cond.instanceMethod yX11_spread2, Cond.selects RX11 yX11_spread2 yX11_spread2, Cond.code yX11_spread2 cX11_spread2 6 (some .boolean), Cond.methodLink RX11 174 yX11_may, Cond.static yX11_may, Cond.code yX11_may cX11_may 4 (some .boolean), Cond.methodLink RX11 153 yX11_makeKinds, Cond.instanceMethod yX11_makeKinds, Cond.selects RX11 yX11_makeKinds yX11_makeKinds, Cond.code yX11_makeKinds cX11_makeKinds 5 none, Cond.methodLink RX11 177 yX11_unrank, Cond.instanceMethod yX11_unrank, Cond.selects RX11 yX11_unrank yX11_unrank, Cond.code yX11_unrank cX11_unrank 6 none, Cond.methodLink RX11 181 yX11_turnRow, Cond.instanceMethod yX11_turnRow, Cond.selects RX11 yX11_turnRow yX11_turnRow, Cond.code yX11_turnRow cX11_turnRow 3 none]
def wsL_law_r23 : List Cond := [Cond.methodLink RX11 184 yX11_rank, Cond.instanceMethod yX11_rank, Cond.selects RX11 yX11_rank yX11_rank, Cond.code yX11_rank cX11_rank 6 (some .int), Cond.methodLink RX11 187 yX11_nameKind, Cond.instanceMethod yX11_nameKind, Cond.selects RX11 yX11_nameKind yX11_nameKind, Cond.code yX11_nameKind cX11_nameKind 6 none, Cond.methodLink RX11 156 yX11_makeThird, Cond.instanceMethod yX11_makeThird, Cond.selects RX11 yX11_makeThird yX11_makeThird, Cond.code yX11_makeThird cX11_makeThird 7 none, Cond.methodLink RX11 159 yX11_makeFourth, Cond.instanceMethod yX11_makeFourth, Cond.selects RX11 yX11_makeFourth yX11_makeFourth, Cond.code yX11_makeFourth cX11_makeFourth 5 none, Cond.methodLink RX11 190 yX11_spread4, Cond.instanceMethod yX11_spread4, Cond.selects RX11 yX11_spread4 yX11_spread4, Cond.code yX11_spread4 cX11_spread4 10 (some .boolean), Cond.methodLink RX11 209 yX11_walk, Cond.instanceMethod yX11_walk, Cond.selects RX11 yX11_walk yX11_walk, Cond.code yX11_walk cX11_walk 5 none]
def wsL_law_r24 : List Cond := [Cond.methodLink RX11 193 yX11_far, Cond.instanceMethod yX11_far, Cond.selects RX11 yX11_far yX11_far, Cond.code yX11_far cX11_far 6 (some .int), Cond.methodLink RL 49 yX10_stage, Cond.instanceMethod yX10_stage, Cond.selects RX10 yX10_stage yX10_stage, Cond.code yX10_stage cX10_stage 2 (some .int), Cond.methodLink RL 52 yX11_stage, Cond.instanceMethod yX11_stage, Cond.selects RX11 yX11_stage yX11_stage, Cond.code yX11_stage cX11_stage 2 (some .int), Cond.methodLink RL 53 yX10_step, Cond.instanceMethod yX10_step, Cond.selects RX10 yX10_step yX10_step, Cond.code yX10_step cX10_step 2 (some .int), Cond.methodLink RL 56 yX11_step, Cond.instanceMethod yX11_step, Cond.selects RX11 yX11_step yX11_step, Cond.code yX11_step cX11_step 2 (some .int), Cond.methodLink RL 57 yX10_flips, Cond.instanceMethod yX10_flips, Cond.selects RX10 yX10_flips yX10_flips, Cond.code yX10_flips cX10_flips 2 (some .int)]
def wsL_law_r25 : List Cond := [Cond.methodLink RL 60 yX11_flips, Cond.instanceMethod yX11_flips, Cond.selects RX11 yX11_flips yX11_flips, Cond.code yX11_flips cX11_flips 2 (some .int)]
def wsL_law : List Cond := (wsL_law_r1 ++ (wsL_law_r2 ++ (wsL_law_r3 ++ (wsL_law_r4 ++ (wsL_law_r5 ++ (wsL_law_r6 ++ (wsL_law_r7 ++ (wsL_law_r8 ++ (wsL_law_r9 ++ (wsL_law_r10 ++ (wsL_law_r11 ++ (wsL_law_r12 ++ (wsL_law_r13 ++ (wsL_law_r14 ++ (wsL_law_r15 ++ (wsL_law_r16 ++ (wsL_law_r17 ++ (wsL_law_r18 ++ (wsL_law_r19 ++ (wsL_law_r20 ++ (wsL_law_r21 ++ (wsL_law_r22 ++ (wsL_law_r23 ++ (wsL_law_r24 ++ wsL_law_r25)))))))))))))))))))))))) ++ wsX100 ++ wsX110 ++ wsX10 ++ wsX70 ++ wsX90 ++ wsX30 ++ wsX80 ++ wsX60 ++ wsX00 ++ wsX50 ++ ([] : List Cond)
end
section
theorem inlX0 : ∀ w ∈ wsX00, w ∈ wsL_law := fun _ h => List.mem_append_left _ (List.mem_append_left _ (List.mem_append_right _ h))
theorem inlX1 : ∀ w ∈ wsX10, w ∈ wsL_law := fun _ h => List.mem_append_left _ (List.mem_append_left _ (List.mem_append_left _ (List.mem_append_left _ (List.mem_append_left _ (List.mem_append_left _ (List.mem_append_left _ (List.mem_append_left _ (List.mem_append_right _ h))))))))
theorem inX2 : ∀ w ∈ wsX20, w ∈ lw_tbl := by decide +kernel
theorem inlX3 : ∀ w ∈ wsX30, w ∈ wsL_law := fun _ h => List.mem_append_left _ (List.mem_append_left _ (List.mem_append_left _ (List.mem_append_left _ (List.mem_append_left _ (List.mem_append_right _ h)))))
theorem inX4 : ∀ w ∈ wsX40, w ∈ lw_tbl := by decide +kernel
theorem inlX5 : ∀ w ∈ wsX50, w ∈ wsL_law := fun _ h => List.mem_append_left _ (List.mem_append_right _ h)
theorem inlX6 : ∀ w ∈ wsX60, w ∈ wsL_law := fun _ h => List.mem_append_left _ (List.mem_append_left _ (List.mem_append_left _ (List.mem_append_right _ h)))
theorem inlX7 : ∀ w ∈ wsX70, w ∈ wsL_law := fun _ h => List.mem_append_left _ (List.mem_append_left _ (List.mem_append_left _ (List.mem_append_left _ (List.mem_append_left _ (List.mem_append_left _ (List.mem_append_left _ (List.mem_append_right _ h)))))))
theorem inlX8 : ∀ w ∈ wsX80, w ∈ wsL_law := fun _ h => List.mem_append_left _ (List.mem_append_left _ (List.mem_append_left _ (List.mem_append_left _ (List.mem_append_right _ h))))
theorem inlX9 : ∀ w ∈ wsX90, w ∈ wsL_law := fun _ h => List.mem_append_left _ (List.mem_append_left _ (List.mem_append_left _ (List.mem_append_left _ (List.mem_append_left _ (List.mem_append_left _ (List.mem_append_right _ h))))))
theorem inlX10 : ∀ w ∈ wsX100, w ∈ wsL_law := fun _ h => List.mem_append_left _ (List.mem_append_left _ (List.mem_append_left _ (List.mem_append_left _ (List.mem_append_left _ (List.mem_append_left _ (List.mem_append_left _ (List.mem_append_left _ (List.mem_append_left _ (List.mem_append_left _ (List.mem_append_right _ h))))))))))
theorem inlX11 : ∀ w ∈ wsX110, w ∈ wsL_law := fun _ h => List.mem_append_left _ (List.mem_append_left _ (List.mem_append_left _ (List.mem_append_left _ (List.mem_append_left _ (List.mem_append_left _ (List.mem_append_left _ (List.mem_append_left _ (List.mem_append_left _ (List.mem_append_right _ h)))))))))
theorem inJ6 : ∀ w ∈ wsJ60, w ∈ lw_tbl := by decide +kernel
theorem inJ10 : ∀ w ∈ wsJ100, w ∈ lw_tbl := by decide +kernel
set_option maxRecDepth 20000 in
theorem ggX0_init_X2_init : GoodIn wsX0_init wsX2_init := goodIn_r _ [6, 7, 8, 9, 10, 11, 12, 13, 14, 15, 16, 17, 18, 19, 20, 21, 22, 23, 24, 25, 26, 27, 28, 29, 30, 31, 32, 33, 34] (by decide +kernel) (by decide +kernel)
set_option maxRecDepth 20000 in
theorem gX0_init_X2_init : GoodIn wsX0_init (wsX2_init) := ggX0_init_X2_init
theorem dX0_init_0 : decode cX0_init 0 = .ok (.aload_n 0, 1) := by decide +kernel
theorem dX0_init_1 : decode cX0_init 1 = .ok (.iconst 1, 1) := by decide +kernel
theorem dX0_init_2 : decode cX0_init 2 = .ok (.bipush 96, 2) := by decide +kernel
theorem dX0_init_4 : decode cX0_init 4 = .ok (.invokespecial 3, 3) := by decide +kernel
theorem dX0_init_7 : decode cX0_init 7 = .ok (.aload_n 0, 1) := by decide +kernel
theorem dX0_init_8 : decode cX0_init 8 = .ok (.iconst 4, 1) := by decide +kernel
theorem dX0_init_9 : decode cX0_init 9 = .ok (.newarray .int, 2) := by decide +kernel
theorem dX0_init_11 : decode cX0_init 11 = .ok (.putfield 9, 3) := by decide +kernel
theorem dX0_init_14 : decode cX0_init 14 = .ok (.return_, 1) := by decide +kernel
set_option maxRecDepth 20000 in
theorem ggX0_read_X4_ofOrder : GoodIn wsX0_read wsX4_ofOrder := goodIn_r _ [5] (by decide +kernel) (by decide +kernel)
set_option maxRecDepth 20000 in
theorem gX0_read_X4_ofOrder : GoodIn wsX0_read (va_wsS RX0 20 yX4_ofOrder wsX4_ofOrder) := goodIn_app (goodIn_of _ (by decide +kernel)) ggX0_read_X4_ofOrder
theorem dX0_read_0 : decode cX0_read 0 = .ok (.aload_n 1, 1) := by decide +kernel
theorem dX0_read_1 : decode cX0_read 1 = .ok (.getfield 15, 3) := by decide +kernel
theorem dX0_read_4 : decode cX0_read 4 = .ok (.astore_n 2, 1) := by decide +kernel
theorem dX0_read_5 : decode cX0_read 5 = .ok (.aload_n 2, 1) := by decide +kernel
theorem dX0_read_6 : decode cX0_read 6 = .ok (.iconst 0, 1) := by decide +kernel
theorem dX0_read_7 : decode cX0_read 7 = .ok (.iaload, 1) := by decide +kernel
theorem dX0_read_8 : decode cX0_read 8 = .ok (.iconst 1, 1) := by decide +kernel
theorem dX0_read_9 : decode cX0_read 9 = .ok (.ishr, 1) := by decide +kernel
theorem dX0_read_10 : decode cX0_read 10 = .ok (.aload_n 2, 1) := by decide +kernel
theorem dX0_read_11 : decode cX0_read 11 = .ok (.iconst 3, 1) := by decide +kernel
theorem dX0_read_12 : decode cX0_read 12 = .ok (.iaload, 1) := by decide +kernel
theorem dX0_read_13 : decode cX0_read 13 = .ok (.iconst 1, 1) := by decide +kernel
theorem dX0_read_14 : decode cX0_read 14 = .ok (.ishr, 1) := by decide +kernel
theorem dX0_read_15 : decode cX0_read 15 = .ok (.aload_n 2, 1) := by decide +kernel
theorem dX0_read_16 : decode cX0_read 16 = .ok (.iconst 5, 1) := by decide +kernel
theorem dX0_read_17 : decode cX0_read 17 = .ok (.iaload, 1) := by decide +kernel
theorem dX0_read_18 : decode cX0_read 18 = .ok (.iconst 1, 1) := by decide +kernel
theorem dX0_read_19 : decode cX0_read 19 = .ok (.ishr, 1) := by decide +kernel
theorem dX0_read_20 : decode cX0_read 20 = .ok (.aload_n 2, 1) := by decide +kernel
theorem dX0_read_21 : decode cX0_read 21 = .ok (.bipush 6, 2) := by decide +kernel
theorem dX0_read_23 : decode cX0_read 23 = .ok (.iaload, 1) := by decide +kernel
theorem dX0_read_24 : decode cX0_read 24 = .ok (.iconst 1, 1) := by decide +kernel
theorem dX0_read_25 : decode cX0_read 25 = .ok (.ishr, 1) := by decide +kernel
theorem dX0_read_26 : decode cX0_read 26 = .ok (.invokestatic 20, 3) := by decide +kernel
theorem dX0_read_29 : decode cX0_read 29 = .ok (.istore_n 3, 1) := by decide +kernel
theorem dX0_read_30 : decode cX0_read 30 = .ok (.iload_n 3, 1) := by decide +kernel
theorem dX0_read_31 : decode cX0_read 31 = .ok (.iconst 4, 1) := by decide +kernel
theorem dX0_read_32 : decode cX0_read 32 = .ok (.imul, 1) := by decide +kernel
theorem dX0_read_33 : decode cX0_read 33 = .ok (.aload_n 2, 1) := by decide +kernel
theorem dX0_read_34 : decode cX0_read 34 = .ok (.iconst 1, 1) := by decide +kernel
theorem dX0_read_35 : decode cX0_read 35 = .ok (.iaload, 1) := by decide +kernel
theorem dX0_read_36 : decode cX0_read 36 = .ok (.iconst 1, 1) := by decide +kernel
theorem dX0_read_37 : decode cX0_read 37 = .ok (.ishr, 1) := by decide +kernel
theorem dX0_read_38 : decode cX0_read 38 = .ok (.iadd, 1) := by decide +kernel
theorem dX0_read_39 : decode cX0_read 39 = .ok (.ireturn, 1) := by decide +kernel
set_option maxRecDepth 20000 in
theorem ggX0_show_X4_toOrder : GoodIn wsX0_show wsX4_toOrder := goodIn_r _ [7] (by decide +kernel) (by decide +kernel)
set_option maxRecDepth 20000 in
theorem gX0_show_X4_toOrder : GoodIn wsX0_show (va_wsS RX0 24 yX4_toOrder wsX4_toOrder) := goodIn_app (goodIn_of _ (by decide +kernel)) ggX0_show_X4_toOrder
theorem dX0_show_0 : decode cX0_show 0 = .ok (.iload_n 1, 1) := by decide +kernel
theorem dX0_show_1 : decode cX0_show 1 = .ok (.iconst 4, 1) := by decide +kernel
theorem dX0_show_2 : decode cX0_show 2 = .ok (.idiv, 1) := by decide +kernel
theorem dX0_show_3 : decode cX0_show 3 = .ok (.aload_n 0, 1) := by decide +kernel
theorem dX0_show_4 : decode cX0_show 4 = .ok (.getfield 9, 3) := by decide +kernel
theorem dX0_show_7 : decode cX0_show 7 = .ok (.invokestatic 24, 3) := by decide +kernel
theorem dX0_show_10 : decode cX0_show 10 = .ok (.getstatic 28, 3) := by decide +kernel
theorem dX0_show_13 : decode cX0_show 13 = .ok (.aload_n 0, 1) := by decide +kernel
theorem dX0_show_14 : decode cX0_show 14 = .ok (.getfield 9, 3) := by decide +kernel
theorem dX0_show_17 : decode cX0_show 17 = .ok (.iconst 0, 1) := by decide +kernel
theorem dX0_show_18 : decode cX0_show 18 = .ok (.iaload, 1) := by decide +kernel
theorem dX0_show_19 : decode cX0_show 19 = .ok (.iaload, 1) := by decide +kernel
theorem dX0_show_20 : decode cX0_show 20 = .ok (.getstatic 28, 3) := by decide +kernel
theorem dX0_show_23 : decode cX0_show 23 = .ok (.iload_n 1, 1) := by decide +kernel
theorem dX0_show_24 : decode cX0_show 24 = .ok (.iconst 4, 1) := by decide +kernel
theorem dX0_show_25 : decode cX0_show 25 = .ok (.irem, 1) := by decide +kernel
theorem dX0_show_26 : decode cX0_show 26 = .ok (.iaload, 1) := by decide +kernel
theorem dX0_show_27 : decode cX0_show 27 = .ok (.ixor, 1) := by decide +kernel
theorem dX0_show_28 : decode cX0_show 28 = .ok (.iconst 1, 1) := by decide +kernel
theorem dX0_show_29 : decode cX0_show 29 = .ok (.ixor, 1) := by decide +kernel
theorem dX0_show_30 : decode cX0_show 30 = .ok (.istore_n 3, 1) := by decide +kernel
theorem dX0_show_31 : decode cX0_show 31 = .ok (.iconst 0, 1) := by decide +kernel
theorem dX0_show_32 : decode cX0_show 32 = .ok (.istore 4, 2) := by decide +kernel
theorem dX0_show_34 : decode cX0_show 34 = .ok (.iload 4, 2) := by decide +kernel
theorem dX0_show_36 : decode cX0_show 36 = .ok (.iconst 4, 1) := by decide +kernel
theorem dX0_show_37 : decode cX0_show 37 = .ok (.if_icmp .ge 52, 3) := by decide +kernel
theorem dX0_show_40 : decode cX0_show 40 = .ok (.getstatic 28, 3) := by decide +kernel
theorem dX0_show_43 : decode cX0_show 43 = .ok (.iload 4, 2) := by decide +kernel
theorem dX0_show_45 : decode cX0_show 45 = .ok (.iaload, 1) := by decide +kernel
theorem dX0_show_46 : decode cX0_show 46 = .ok (.istore 5, 2) := by decide +kernel
theorem dX0_show_48 : decode cX0_show 48 = .ok (.getstatic 28, 3) := by decide +kernel
theorem dX0_show_51 : decode cX0_show 51 = .ok (.aload_n 0, 1) := by decide +kernel
theorem dX0_show_52 : decode cX0_show 52 = .ok (.getfield 9, 3) := by decide +kernel
theorem dX0_show_55 : decode cX0_show 55 = .ok (.iload 4, 2) := by decide +kernel
theorem dX0_show_57 : decode cX0_show 57 = .ok (.iaload, 1) := by decide +kernel
theorem dX0_show_58 : decode cX0_show 58 = .ok (.iaload, 1) := by decide +kernel
theorem dX0_show_59 : decode cX0_show 59 = .ok (.istore 6, 2) := by decide +kernel
theorem dX0_show_61 : decode cX0_show 61 = .ok (.aload_n 2, 1) := by decide +kernel
theorem dX0_show_62 : decode cX0_show 62 = .ok (.getfield 15, 3) := by decide +kernel
theorem dX0_show_65 : decode cX0_show 65 = .ok (.iload 5, 2) := by decide +kernel
theorem dX0_show_67 : decode cX0_show 67 = .ok (.iload 6, 2) := by decide +kernel
theorem dX0_show_69 : decode cX0_show 69 = .ok (.iastore, 1) := by decide +kernel
theorem dX0_show_70 : decode cX0_show 70 = .ok (.aload_n 2, 1) := by decide +kernel
theorem dX0_show_71 : decode cX0_show 71 = .ok (.getfield 15, 3) := by decide +kernel
theorem dX0_show_74 : decode cX0_show 74 = .ok (.iload 5, 2) := by decide +kernel
theorem dX0_show_76 : decode cX0_show 76 = .ok (.iconst 1, 1) := by decide +kernel
theorem dX0_show_77 : decode cX0_show 77 = .ok (.ixor, 1) := by decide +kernel
theorem dX0_show_78 : decode cX0_show 78 = .ok (.iload 6, 2) := by decide +kernel
theorem dX0_show_80 : decode cX0_show 80 = .ok (.iload_n 3, 1) := by decide +kernel
theorem dX0_show_81 : decode cX0_show 81 = .ok (.ixor, 1) := by decide +kernel
theorem dX0_show_82 : decode cX0_show 82 = .ok (.iastore, 1) := by decide +kernel
theorem dX0_show_83 : decode cX0_show 83 = .ok (.iinc 4 1, 3) := by decide +kernel
theorem dX0_show_86 : decode cX0_show 86 = .ok (.goto (-52), 3) := by decide +kernel
theorem dX0_show_89 : decode cX0_show 89 = .ok (.return_, 1) := by decide +kernel
set_option maxRecDepth 20000 in
theorem ggX1_init_X7_init : GoodIn wsX1_init wsX7_init := goodIn_r _ [11, 12, 2, 3, 13, 14, 15, 16, 17, 18, 19, 20, 21, 22, 23, 24, 25, 26, 6, 27, 28, 29, 30, 31, 32, 33] (by decide +kernel) (by decide +kernel)
set_option maxRecDepth 20000 in
theorem gX1_init_X7_init : GoodIn wsX1_init (wsX7_init) := ggX1_init_X7_init
theorem dX1_init_0 : decode cX1_init 0 = .ok (.aload_n 0, 1) := by decide +kernel
theorem dX1_init_1 : decode cX1_init 1 = .ok (.invokespecial 1, 3) := by decide +kernel
theorem dX1_init_4 : decode cX1_init 4 = .ok (.aload_n 0, 1) := by decide +kernel
theorem dX1_init_5 : decode cX1_init 5 = .ok (.new 7, 3) := by decide +kernel
theorem dX1_init_8 : decode cX1_init 8 = .ok (.dup, 1) := by decide +kernel
theorem dX1_init_9 : decode cX1_init 9 = .ok (.iconst 1, 1) := by decide +kernel
theorem dX1_init_10 : decode cX1_init 10 = .ok (.invokespecial 9, 3) := by decide +kernel
theorem dX1_init_13 : decode cX1_init 13 = .ok (.putfield 12, 3) := by decide +kernel
theorem dX1_init_16 : decode cX1_init 16 = .ok (.aload_n 0, 1) := by decide +kernel
theorem dX1_init_17 : decode cX1_init 17 = .ok (.new 7, 3) := by decide +kernel
theorem dX1_init_20 : decode cX1_init 20 = .ok (.dup, 1) := by decide +kernel
theorem dX1_init_21 : decode cX1_init 21 = .ok (.iconst 0, 1) := by decide +kernel
theorem dX1_init_22 : decode cX1_init 22 = .ok (.invokespecial 9, 3) := by decide +kernel
theorem dX1_init_25 : decode cX1_init 25 = .ok (.putfield 18, 3) := by decide +kernel
theorem dX1_init_28 : decode cX1_init 28 = .ok (.return_, 1) := by decide +kernel
set_option maxRecDepth 20000 in
theorem ggX1_reset_X7_reset : GoodIn wsX1_reset wsX7_reset := goodIn_r _ [7, 8, 9, 10, 13, 14, 15, 16, 17, 18] (by decide +kernel) (by decide +kernel)
set_option maxRecDepth 20000 in
theorem gX1_reset_X7_reset : GoodIn wsX1_reset (wsV RX1 21 RX7 yX7_reset wsX7_reset) := goodIn_app (goodIn_of _ (by decide +kernel)) ggX1_reset_X7_reset
theorem dX1_reset_0 : decode cX1_reset 0 = .ok (.aload_n 0, 1) := by decide +kernel
theorem dX1_reset_1 : decode cX1_reset 1 = .ok (.getfield 12, 3) := by decide +kernel
theorem dX1_reset_4 : decode cX1_reset 4 = .ok (.invokevirtual 21, 3) := by decide +kernel
theorem dX1_reset_7 : decode cX1_reset 7 = .ok (.aload_n 0, 1) := by decide +kernel
theorem dX1_reset_8 : decode cX1_reset 8 = .ok (.getfield 18, 3) := by decide +kernel
theorem dX1_reset_11 : decode cX1_reset 11 = .ok (.invokevirtual 21, 3) := by decide +kernel
theorem dX1_reset_14 : decode cX1_reset 14 = .ok (.return_, 1) := by decide +kernel
set_option maxRecDepth 20000 in
theorem ggX1_copyFrom_X7_copyFrom : GoodIn wsX1_copyFrom wsX7_copyFrom := goodIn_r _ [7, 8, 9, 10, 13, 14, 15, 16, 17, 18] (by decide +kernel) (by decide +kernel)
set_option maxRecDepth 20000 in
theorem gX1_copyFrom_X7_copyFrom : GoodIn wsX1_copyFrom (wsV RX1 24 RX7 yX7_copyFrom wsX7_copyFrom) := goodIn_app (goodIn_of _ (by decide +kernel)) ggX1_copyFrom_X7_copyFrom
theorem dX1_copyFrom_0 : decode cX1_copyFrom 0 = .ok (.aload_n 0, 1) := by decide +kernel
theorem dX1_copyFrom_1 : decode cX1_copyFrom 1 = .ok (.getfield 12, 3) := by decide +kernel
theorem dX1_copyFrom_4 : decode cX1_copyFrom 4 = .ok (.aload_n 1, 1) := by decide +kernel
theorem dX1_copyFrom_5 : decode cX1_copyFrom 5 = .ok (.getfield 12, 3) := by decide +kernel
theorem dX1_copyFrom_8 : decode cX1_copyFrom 8 = .ok (.invokevirtual 24, 3) := by decide +kernel
theorem dX1_copyFrom_11 : decode cX1_copyFrom 11 = .ok (.aload_n 0, 1) := by decide +kernel
theorem dX1_copyFrom_12 : decode cX1_copyFrom 12 = .ok (.getfield 18, 3) := by decide +kernel
theorem dX1_copyFrom_15 : decode cX1_copyFrom 15 = .ok (.aload_n 1, 1) := by decide +kernel
theorem dX1_copyFrom_16 : decode cX1_copyFrom 16 = .ok (.getfield 18, 3) := by decide +kernel
theorem dX1_copyFrom_19 : decode cX1_copyFrom 19 = .ok (.invokevirtual 24, 3) := by decide +kernel
theorem dX1_copyFrom_22 : decode cX1_copyFrom 22 = .ok (.return_, 1) := by decide +kernel
set_option maxRecDepth 20000 in
theorem ggX1_make_X7_quarter : GoodIn wsX1_make wsX7_quarter := goodIn_r _ [7, 8, 9, 10, 11, 12, 15, 16, 17, 18, 19, 20] (by decide +kernel) (by decide +kernel)
set_option maxRecDepth 20000 in
theorem gX1_make_X7_quarter : GoodIn wsX1_make (wsV RX1 28 RX7 yX7_quarter wsX7_quarter) := goodIn_app (goodIn_of _ (by decide +kernel)) ggX1_make_X7_quarter
theorem dX1_make_0 : decode cX1_make 0 = .ok (.iload_n 1, 1) := by decide +kernel
theorem dX1_make_1 : decode cX1_make 1 = .ok (.iconst 3, 1) := by decide +kernel
theorem dX1_make_2 : decode cX1_make 2 = .ok (.idiv, 1) := by decide +kernel
theorem dX1_make_3 : decode cX1_make 3 = .ok (.istore_n 2, 1) := by decide +kernel
theorem dX1_make_4 : decode cX1_make 4 = .ok (.iload_n 1, 1) := by decide +kernel
theorem dX1_make_5 : decode cX1_make 5 = .ok (.iconst 3, 1) := by decide +kernel
theorem dX1_make_6 : decode cX1_make 6 = .ok (.irem, 1) := by decide +kernel
theorem dX1_make_7 : decode cX1_make 7 = .ok (.iconst 1, 1) := by decide +kernel
theorem dX1_make_8 : decode cX1_make 8 = .ok (.iadd, 1) := by decide +kernel
theorem dX1_make_9 : decode cX1_make 9 = .ok (.istore_n 3, 1) := by decide +kernel
theorem dX1_make_10 : decode cX1_make 10 = .ok (.iconst 0, 1) := by decide +kernel
theorem dX1_make_11 : decode cX1_make 11 = .ok (.istore 4, 2) := by decide +kernel
theorem dX1_make_13 : decode cX1_make 13 = .ok (.iload 4, 2) := by decide +kernel
theorem dX1_make_15 : decode cX1_make 15 = .ok (.iload_n 3, 1) := by decide +kernel
theorem dX1_make_16 : decode cX1_make 16 = .ok (.if_icmp .ge 25, 3) := by decide +kernel
theorem dX1_make_19 : decode cX1_make 19 = .ok (.aload_n 0, 1) := by decide +kernel
theorem dX1_make_20 : decode cX1_make 20 = .ok (.getfield 12, 3) := by decide +kernel
theorem dX1_make_23 : decode cX1_make 23 = .ok (.iload_n 2, 1) := by decide +kernel
theorem dX1_make_24 : decode cX1_make 24 = .ok (.invokevirtual 28, 3) := by decide +kernel
theorem dX1_make_27 : decode cX1_make 27 = .ok (.aload_n 0, 1) := by decide +kernel
theorem dX1_make_28 : decode cX1_make 28 = .ok (.getfield 18, 3) := by decide +kernel
theorem dX1_make_31 : decode cX1_make 31 = .ok (.iload_n 2, 1) := by decide +kernel
theorem dX1_make_32 : decode cX1_make 32 = .ok (.invokevirtual 28, 3) := by decide +kernel
theorem dX1_make_35 : decode cX1_make 35 = .ok (.iinc 4 1, 3) := by decide +kernel
theorem dX1_make_38 : decode cX1_make 38 = .ok (.goto (-25), 3) := by decide +kernel
theorem dX1_make_41 : decode cX1_make 41 = .ok (.return_, 1) := by decide +kernel
theorem dX2_init_0 : decode cX2_init 0 = .ok (.aload_n 0, 1) := by decide +kernel
theorem dX2_init_1 : decode cX2_init 1 = .ok (.invokespecial 3, 3) := by decide +kernel
theorem dX2_init_4 : decode cX2_init 4 = .ok (.aload_n 0, 1) := by decide +kernel
theorem dX2_init_5 : decode cX2_init 5 = .ok (.iload_n 1, 1) := by decide +kernel
theorem dX2_init_6 : decode cX2_init 6 = .ok (.putfield 9, 3) := by decide +kernel
theorem dX2_init_9 : decode cX2_init 9 = .ok (.aload_n 0, 1) := by decide +kernel
theorem dX2_init_10 : decode cX2_init 10 = .ok (.iload_n 2, 1) := by decide +kernel
theorem dX2_init_11 : decode cX2_init 11 = .ok (.putfield 15, 3) := by decide +kernel
theorem dX2_init_14 : decode cX2_init 14 = .ok (.return_, 1) := by decide +kernel
set_option maxRecDepth 20000 in
theorem ggX2_readFrom_X0_read : GoodIn wsX2_readFrom wsX0_read := goodIn_r _ [9, 10, 11, 12, 13, 14, 90, 91, 92, 93, 94, 95] (by decide +kernel) (by decide +kernel)
set_option maxRecDepth 20000 in
theorem gX2_readFrom_X0_read_u28X0 : GoodIn wsX2_readFrom (va_wsU RX2 28 RX0 "StageCube$Feature" ⟨"StageCube$Feature", "read", "(LStageCube$Pieces;)I"⟩ yX0_read wsX0_read) := goodIn_app (goodIn_of _ (by decide +kernel)) ggX2_readFrom_X0_read
set_option maxRecDepth 20000 in
theorem ggX2_readFrom_X3_read : GoodIn wsX2_readFrom wsX3_read := goodIn_r _ [18, 19, 20, 21, 90, 91, 92, 93, 94, 95] (by decide +kernel) (by decide +kernel)
set_option maxRecDepth 20000 in
theorem gX2_readFrom_X3_read_u28X3 : GoodIn wsX2_readFrom (va_wsU RX2 28 RX3 "StageCube$Feature" ⟨"StageCube$Feature", "read", "(LStageCube$Pieces;)I"⟩ yX3_read wsX3_read) := goodIn_app (goodIn_of _ (by decide +kernel)) ggX2_readFrom_X3_read
set_option maxRecDepth 20000 in
theorem ggX2_readFrom_X5_read : GoodIn wsX2_readFrom wsX5_read := goodIn_r _ [25, 26, 27, 28, 12, 13, 14, 90, 91, 92, 93, 94, 95, 72, 73, 74, 75, 76] (by decide +kernel) (by decide +kernel)
set_option maxRecDepth 20000 in
theorem gX2_readFrom_X5_read_u28X5 : GoodIn wsX2_readFrom (va_wsU RX2 28 RX5 "StageCube$Feature" ⟨"StageCube$Feature", "read", "(LStageCube$Pieces;)I"⟩ yX5_read wsX5_read) := goodIn_app (goodIn_of _ (by decide +kernel)) ggX2_readFrom_X5_read
set_option maxRecDepth 20000 in
theorem ggX2_readFrom_X6_read : GoodIn wsX2_readFrom wsX6_read := goodIn_r _ [32, 33, 34, 35, 36, 37, 38, 39, 40, 41, 42, 43, 44, 45, 46, 31, 47, 48, 12, 13, 14, 49, 50, 51, 52, 90, 91, 92, 93, 94, 95, 77, 78, 79, 80, 81, 82] (by decide +kernel) (by decide +kernel)
set_option maxRecDepth 20000 in
theorem gX2_readFrom_X6_read_u28X6 : GoodIn wsX2_readFrom (va_wsU RX2 28 RX6 "StageCube$Feature" ⟨"StageCube$Feature", "read", "(LStageCube$Pieces;)I"⟩ yX6_read wsX6_read) := goodIn_app (goodIn_of _ (by decide +kernel)) ggX2_readFrom_X6_read
set_option maxRecDepth 20000 in
theorem ggX2_readFrom_X8_read : GoodIn wsX2_readFrom wsX8_read := goodIn_r _ [56, 57, 58, 59, 60, 61, 62, 55, 63, 64, 50, 13, 51, 52, 83, 84, 85, 86, 87, 90, 91, 92, 93, 94, 95] (by decide +kernel) (by decide +kernel)
set_option maxRecDepth 20000 in
theorem gX2_readFrom_X8_read_u28X8 : GoodIn wsX2_readFrom (va_wsU RX2 28 RX8 "StageCube$Feature" ⟨"StageCube$Feature", "read", "(LStageCube$Pieces;)I"⟩ yX8_read wsX8_read) := goodIn_app (goodIn_of _ (by decide +kernel)) ggX2_readFrom_X8_read
theorem dX2_readFrom_0 : decode cX2_readFrom 0 = .ok (.aload_n 0, 1) := by decide +kernel
theorem dX2_readFrom_1 : decode cX2_readFrom 1 = .ok (.aload_n 0, 1) := by decide +kernel
theorem dX2_readFrom_2 : decode cX2_readFrom 2 = .ok (.getfield 9, 3) := by decide +kernel
theorem dX2_readFrom_5 : decode cX2_readFrom 5 = .ok (.ifCond .eq 10, 3) := by decide +kernel
theorem dX2_readFrom_8 : decode cX2_readFrom 8 = .ok (.aload_n 1, 1) := by decide +kernel
theorem dX2_readFrom_9 : decode cX2_readFrom 9 = .ok (.getfield 19, 3) := by decide +kernel
theorem dX2_readFrom_12 : decode cX2_readFrom 12 = .ok (.goto 7, 3) := by decide +kernel
theorem dX2_readFrom_15 : decode cX2_readFrom 15 = .ok (.aload_n 1, 1) := by decide +kernel
theorem dX2_readFrom_16 : decode cX2_readFrom 16 = .ok (.getfield 25, 3) := by decide +kernel
theorem dX2_readFrom_19 : decode cX2_readFrom 19 = .ok (.invokevirtual 28, 3) := by decide +kernel
theorem dX2_readFrom_22 : decode cX2_readFrom 22 = .ok (.ireturn, 1) := by decide +kernel
set_option maxRecDepth 20000 in
theorem ggX2_learn_X7_init : GoodIn wsX2_learn wsX7_init := goodIn_r _ [10, 11, 12, 13, 14, 15, 16, 17, 18, 19, 20, 21, 6, 22, 23, 24, 25, 26, 3, 27, 124, 125, 126, 127, 128, 129] (by decide +kernel) (by decide +kernel)
set_option maxRecDepth 20000 in
theorem gX2_learn_X7_init : GoodIn wsX2_learn (wsX7_init) := ggX2_learn_X7_init
set_option maxRecDepth 20000 in
theorem ggX2_learn_X0_show : GoodIn wsX2_learn wsX0_show := goodIn_r _ [33, 34, 35, 36, 37, 38, 39, 40, 130, 131, 132, 133, 124, 125, 126, 127, 128, 129] (by decide +kernel) (by decide +kernel)
set_option maxRecDepth 20000 in
theorem gX2_learn_X0_show_u41X0 : GoodIn wsX2_learn (va_wsU RX2 41 RX0 "StageCube$Feature" ⟨"StageCube$Feature", "show", "(ILStageCube$Pieces;)V"⟩ yX0_show wsX0_show) := goodIn_app (goodIn_of _ (by decide +kernel)) ggX2_learn_X0_show
set_option maxRecDepth 20000 in
theorem ggX2_learn_X3_show : GoodIn wsX2_learn wsX3_show := goodIn_r _ [44, 45, 46, 47, 124, 125, 126, 127, 128, 129] (by decide +kernel) (by decide +kernel)
set_option maxRecDepth 20000 in
theorem gX2_learn_X3_show_u41X3 : GoodIn wsX2_learn (va_wsU RX2 41 RX3 "StageCube$Feature" ⟨"StageCube$Feature", "show", "(ILStageCube$Pieces;)V"⟩ yX3_show wsX3_show) := goodIn_app (goodIn_of _ (by decide +kernel)) ggX2_learn_X3_show
set_option maxRecDepth 20000 in
theorem ggX2_learn_X5_show : GoodIn wsX2_learn wsX5_show := goodIn_r _ [51, 52, 53, 54, 55, 38, 39, 40, 137, 138, 139, 140, 141, 124, 125, 126, 127, 128, 129] (by decide +kernel) (by decide +kernel)
set_option maxRecDepth 20000 in
theorem gX2_learn_X5_show_u41X5 : GoodIn wsX2_learn (va_wsU RX2 41 RX5 "StageCube$Feature" ⟨"StageCube$Feature", "show", "(ILStageCube$Pieces;)V"⟩ yX5_show wsX5_show) := goodIn_app (goodIn_of _ (by decide +kernel)) ggX2_learn_X5_show
set_option maxRecDepth 20000 in
theorem ggX2_learn_X6_show : GoodIn wsX2_learn wsX6_show := goodIn_r _ [59, 60, 61, 62, 63, 64, 65, 39, 66, 67, 68, 38, 40, 142, 143, 144, 145, 146, 147, 124, 125, 126, 127, 128, 129] (by decide +kernel) (by decide +kernel)
set_option maxRecDepth 20000 in
theorem gX2_learn_X6_show_u41X6 : GoodIn wsX2_learn (va_wsU RX2 41 RX6 "StageCube$Feature" ⟨"StageCube$Feature", "show", "(ILStageCube$Pieces;)V"⟩ yX6_show wsX6_show) := goodIn_app (goodIn_of _ (by decide +kernel)) ggX2_learn_X6_show
set_option maxRecDepth 20000 in
theorem ggX2_learn_X8_show : GoodIn wsX2_learn wsX8_show := goodIn_r _ [72, 73, 74, 75, 76, 65, 39, 66, 67, 77, 78, 79, 71, 80, 148, 149, 150, 151, 152, 124, 125, 126, 127, 128, 129] (by decide +kernel) (by decide +kernel)
set_option maxRecDepth 20000 in
theorem gX2_learn_X8_show_u41X8 : GoodIn wsX2_learn (va_wsU RX2 41 RX8 "StageCube$Feature" ⟨"StageCube$Feature", "show", "(ILStageCube$Pieces;)V"⟩ yX8_show wsX8_show) := goodIn_app (goodIn_of _ (by decide +kernel)) ggX2_learn_X8_show
set_option maxRecDepth 20000 in
theorem ggX2_learn_X7_quarter : GoodIn wsX2_learn wsX7_quarter := goodIn_r _ [84, 22, 18, 23, 21, 15, 124, 125, 126, 127, 128, 129] (by decide +kernel) (by decide +kernel)
set_option maxRecDepth 20000 in
theorem gX2_learn_X7_quarter : GoodIn wsX2_learn (wsV RX2 45 RX7 yX7_quarter wsX7_quarter) := goodIn_app (goodIn_of _ (by decide +kernel)) ggX2_learn_X7_quarter
set_option maxRecDepth 20000 in
theorem ggX2_learn_X0_read : GoodIn wsX2_learn wsX0_read := goodIn_r _ [89, 36, 90, 91, 39, 92, 124, 125, 126, 127, 128, 129] (by decide +kernel) (by decide +kernel)
set_option maxRecDepth 20000 in
theorem gX2_learn_X0_read_u28X0 : GoodIn wsX2_learn (va_wsU RX2 28 RX0 "StageCube$Feature" ⟨"StageCube$Feature", "read", "(LStageCube$Pieces;)I"⟩ yX0_read wsX0_read) := goodIn_app (goodIn_of _ (by decide +kernel)) ggX2_learn_X0_read
set_option maxRecDepth 20000 in
theorem ggX2_learn_X3_read : GoodIn wsX2_learn wsX3_read := goodIn_r _ [95, 45, 46, 47, 124, 125, 126, 127, 128, 129] (by decide +kernel) (by decide +kernel)
set_option maxRecDepth 20000 in
theorem gX2_learn_X3_read_u28X3 : GoodIn wsX2_learn (va_wsU RX2 28 RX3 "StageCube$Feature" ⟨"StageCube$Feature", "read", "(LStageCube$Pieces;)I"⟩ yX3_read wsX3_read) := goodIn_app (goodIn_of _ (by decide +kernel)) ggX2_learn_X3_read
set_option maxRecDepth 20000 in
theorem ggX2_learn_X5_read : GoodIn wsX2_learn wsX5_read := goodIn_r _ [98, 53, 54, 99, 91, 39, 92, 124, 125, 126, 127, 128, 129, 137, 138, 139, 140, 141] (by decide +kernel) (by decide +kernel)
set_option maxRecDepth 20000 in
theorem gX2_learn_X5_read_u28X5 : GoodIn wsX2_learn (va_wsU RX2 28 RX5 "StageCube$Feature" ⟨"StageCube$Feature", "read", "(LStageCube$Pieces;)I"⟩ yX5_read wsX5_read) := goodIn_app (goodIn_of _ (by decide +kernel)) ggX2_learn_X5_read
set_option maxRecDepth 20000 in
theorem ggX2_learn_X6_read : GoodIn wsX2_learn wsX6_read := goodIn_r _ [102, 61, 62, 103, 104, 105, 106, 107, 108, 109, 110, 111, 112, 113, 114, 58, 115, 116, 91, 39, 92, 117, 118, 119, 67, 124, 125, 126, 127, 128, 129, 142, 143, 144, 145, 146, 147] (by decide +kernel) (by decide +kernel)
set_option maxRecDepth 20000 in
theorem gX2_learn_X6_read_u28X6 : GoodIn wsX2_learn (va_wsU RX2 28 RX6 "StageCube$Feature" ⟨"StageCube$Feature", "read", "(LStageCube$Pieces;)I"⟩ yX6_read wsX6_read) := goodIn_app (goodIn_of _ (by decide +kernel)) ggX2_learn_X6_read
set_option maxRecDepth 20000 in
theorem ggX2_learn_X8_read : GoodIn wsX2_learn wsX8_read := goodIn_r _ [122, 73, 75, 74, 77, 78, 79, 71, 80, 123, 118, 39, 119, 67, 148, 149, 150, 151, 152, 124, 125, 126, 127, 128, 129] (by decide +kernel) (by decide +kernel)
set_option maxRecDepth 20000 in
theorem gX2_learn_X8_read_u28X8 : GoodIn wsX2_learn (va_wsU RX2 28 RX8 "StageCube$Feature" ⟨"StageCube$Feature", "read", "(LStageCube$Pieces;)I"⟩ yX8_read wsX8_read) := goodIn_app (goodIn_of _ (by decide +kernel)) ggX2_learn_X8_read
theorem dX2_learn_0 : decode cX2_learn 0 = .ok (.new 32, 3) := by decide +kernel
theorem dX2_learn_3 : decode cX2_learn 3 = .ok (.dup, 1) := by decide +kernel
theorem dX2_learn_4 : decode cX2_learn 4 = .ok (.aload_n 0, 1) := by decide +kernel
theorem dX2_learn_5 : decode cX2_learn 5 = .ok (.getfield 9, 3) := by decide +kernel
theorem dX2_learn_8 : decode cX2_learn 8 = .ok (.invokespecial 34, 3) := by decide +kernel
theorem dX2_learn_11 : decode cX2_learn 11 = .ok (.astore_n 2, 1) := by decide +kernel
theorem dX2_learn_12 : decode cX2_learn 12 = .ok (.aload_n 0, 1) := by decide +kernel
theorem dX2_learn_13 : decode cX2_learn 13 = .ok (.bipush 6, 2) := by decide +kernel
theorem dX2_learn_15 : decode cX2_learn 15 = .ok (.aload_n 0, 1) := by decide +kernel
theorem dX2_learn_16 : decode cX2_learn 16 = .ok (.getfield 15, 3) := by decide +kernel
theorem dX2_learn_19 : decode cX2_learn 19 = .ok (.imul, 1) := by decide +kernel
theorem dX2_learn_20 : decode cX2_learn 20 = .ok (.newarray .int, 2) := by decide +kernel
theorem dX2_learn_22 : decode cX2_learn 22 = .ok (.putfield 37, 3) := by decide +kernel
theorem dX2_learn_25 : decode cX2_learn 25 = .ok (.iconst 0, 1) := by decide +kernel
theorem dX2_learn_26 : decode cX2_learn 26 = .ok (.istore_n 3, 1) := by decide +kernel
theorem dX2_learn_27 : decode cX2_learn 27 = .ok (.iload_n 3, 1) := by decide +kernel
theorem dX2_learn_28 : decode cX2_learn 28 = .ok (.aload_n 0, 1) := by decide +kernel
theorem dX2_learn_29 : decode cX2_learn 29 = .ok (.getfield 15, 3) := by decide +kernel
theorem dX2_learn_32 : decode cX2_learn 32 = .ok (.if_icmp .ge 66, 3) := by decide +kernel
theorem dX2_learn_35 : decode cX2_learn 35 = .ok (.iconst 0, 1) := by decide +kernel
theorem dX2_learn_36 : decode cX2_learn 36 = .ok (.istore 4, 2) := by decide +kernel
theorem dX2_learn_38 : decode cX2_learn 38 = .ok (.iload 4, 2) := by decide +kernel
theorem dX2_learn_40 : decode cX2_learn 40 = .ok (.bipush 6, 2) := by decide +kernel
theorem dX2_learn_42 : decode cX2_learn 42 = .ok (.if_icmp .ge 50, 3) := by decide +kernel
theorem dX2_learn_45 : decode cX2_learn 45 = .ok (.aload_n 0, 1) := by decide +kernel
theorem dX2_learn_46 : decode cX2_learn 46 = .ok (.iload_n 3, 1) := by decide +kernel
theorem dX2_learn_47 : decode cX2_learn 47 = .ok (.aload_n 2, 1) := by decide +kernel
theorem dX2_learn_48 : decode cX2_learn 48 = .ok (.invokevirtual 41, 3) := by decide +kernel
theorem dX2_learn_51 : decode cX2_learn 51 = .ok (.aload_n 2, 1) := by decide +kernel
theorem dX2_learn_52 : decode cX2_learn 52 = .ok (.iload 4, 2) := by decide +kernel
theorem dX2_learn_54 : decode cX2_learn 54 = .ok (.invokevirtual 45, 3) := by decide +kernel
theorem dX2_learn_57 : decode cX2_learn 57 = .ok (.iload 4, 2) := by decide +kernel
theorem dX2_learn_59 : decode cX2_learn 59 = .ok (.iload_n 1, 1) := by decide +kernel
theorem dX2_learn_60 : decode cX2_learn 60 = .ok (.if_icmp .lt 9, 3) := by decide +kernel
theorem dX2_learn_63 : decode cX2_learn 63 = .ok (.aload_n 2, 1) := by decide +kernel
theorem dX2_learn_64 : decode cX2_learn 64 = .ok (.iload 4, 2) := by decide +kernel
theorem dX2_learn_66 : decode cX2_learn 66 = .ok (.invokevirtual 45, 3) := by decide +kernel
theorem dX2_learn_69 : decode cX2_learn 69 = .ok (.aload_n 0, 1) := by decide +kernel
theorem dX2_learn_70 : decode cX2_learn 70 = .ok (.getfield 37, 3) := by decide +kernel
theorem dX2_learn_73 : decode cX2_learn 73 = .ok (.bipush 6, 2) := by decide +kernel
theorem dX2_learn_75 : decode cX2_learn 75 = .ok (.iload_n 3, 1) := by decide +kernel
theorem dX2_learn_76 : decode cX2_learn 76 = .ok (.imul, 1) := by decide +kernel
theorem dX2_learn_77 : decode cX2_learn 77 = .ok (.iload 4, 2) := by decide +kernel
theorem dX2_learn_79 : decode cX2_learn 79 = .ok (.iadd, 1) := by decide +kernel
theorem dX2_learn_80 : decode cX2_learn 80 = .ok (.aload_n 0, 1) := by decide +kernel
theorem dX2_learn_81 : decode cX2_learn 81 = .ok (.aload_n 2, 1) := by decide +kernel
theorem dX2_learn_82 : decode cX2_learn 82 = .ok (.invokevirtual 28, 3) := by decide +kernel
theorem dX2_learn_85 : decode cX2_learn 85 = .ok (.iastore, 1) := by decide +kernel
theorem dX2_learn_86 : decode cX2_learn 86 = .ok (.iinc 4 1, 3) := by decide +kernel
theorem dX2_learn_89 : decode cX2_learn 89 = .ok (.goto (-51), 3) := by decide +kernel
theorem dX2_learn_92 : decode cX2_learn 92 = .ok (.iinc 3 1, 3) := by decide +kernel
theorem dX2_learn_95 : decode cX2_learn 95 = .ok (.goto (-68), 3) := by decide +kernel
theorem dX2_learn_98 : decode cX2_learn 98 = .ok (.return_, 1) := by decide +kernel
set_option maxRecDepth 20000 in
theorem ggX3_init_X2_init : GoodIn wsX3_init wsX2_init := goodIn_r _ [4, 5, 6, 7, 8, 9, 10, 11, 12, 13, 14, 15, 16, 17, 18, 19, 20, 21, 22, 23, 24, 25, 26, 27, 28, 29, 30, 31, 32] (by decide +kernel) (by decide +kernel)
set_option maxRecDepth 20000 in
theorem gX3_init_X2_init : GoodIn wsX3_init (wsX2_init) := ggX3_init_X2_init
theorem dX3_init_0 : decode cX3_init 0 = .ok (.aload_n 0, 1) := by decide +kernel
theorem dX3_init_1 : decode cX3_init 1 = .ok (.iload_n 1, 1) := by decide +kernel
theorem dX3_init_2 : decode cX3_init 2 = .ok (.iload_n 1, 1) := by decide +kernel
theorem dX3_init_3 : decode cX3_init 3 = .ok (.ifCond .eq 9, 3) := by decide +kernel
theorem dX3_init_6 : decode cX3_init 6 = .ok (.sipush 2187, 3) := by decide +kernel
theorem dX3_init_9 : decode cX3_init 9 = .ok (.goto 6, 3) := by decide +kernel
theorem dX3_init_12 : decode cX3_init 12 = .ok (.sipush 2048, 3) := by decide +kernel
theorem dX3_init_15 : decode cX3_init 15 = .ok (.invokespecial 1, 3) := by decide +kernel
theorem dX3_init_18 : decode cX3_init 18 = .ok (.return_, 1) := by decide +kernel
theorem dX3_read_0 : decode cX3_read 0 = .ok (.iconst 0, 1) := by decide +kernel
theorem dX3_read_1 : decode cX3_read 1 = .ok (.istore_n 2, 1) := by decide +kernel
theorem dX3_read_2 : decode cX3_read 2 = .ok (.iconst 0, 1) := by decide +kernel
theorem dX3_read_3 : decode cX3_read 3 = .ok (.istore_n 3, 1) := by decide +kernel
theorem dX3_read_4 : decode cX3_read 4 = .ok (.iload_n 3, 1) := by decide +kernel
theorem dX3_read_5 : decode cX3_read 5 = .ok (.aload_n 1, 1) := by decide +kernel
theorem dX3_read_6 : decode cX3_read 6 = .ok (.getfield 7, 3) := by decide +kernel
theorem dX3_read_9 : decode cX3_read 9 = .ok (.iconst 1, 1) := by decide +kernel
theorem dX3_read_10 : decode cX3_read 10 = .ok (.isub, 1) := by decide +kernel
theorem dX3_read_11 : decode cX3_read 11 = .ok (.if_icmp .ge 23, 3) := by decide +kernel
theorem dX3_read_14 : decode cX3_read 14 = .ok (.iload_n 2, 1) := by decide +kernel
theorem dX3_read_15 : decode cX3_read 15 = .ok (.aload_n 1, 1) := by decide +kernel
theorem dX3_read_16 : decode cX3_read 16 = .ok (.getfield 13, 3) := by decide +kernel
theorem dX3_read_19 : decode cX3_read 19 = .ok (.imul, 1) := by decide +kernel
theorem dX3_read_20 : decode cX3_read 20 = .ok (.aload_n 1, 1) := by decide +kernel
theorem dX3_read_21 : decode cX3_read 21 = .ok (.getfield 16, 3) := by decide +kernel
theorem dX3_read_24 : decode cX3_read 24 = .ok (.iload_n 3, 1) := by decide +kernel
theorem dX3_read_25 : decode cX3_read 25 = .ok (.iaload, 1) := by decide +kernel
theorem dX3_read_26 : decode cX3_read 26 = .ok (.iadd, 1) := by decide +kernel
theorem dX3_read_27 : decode cX3_read 27 = .ok (.istore_n 2, 1) := by decide +kernel
theorem dX3_read_28 : decode cX3_read 28 = .ok (.iinc 3 1, 3) := by decide +kernel
theorem dX3_read_31 : decode cX3_read 31 = .ok (.goto (-27), 3) := by decide +kernel
theorem dX3_read_34 : decode cX3_read 34 = .ok (.iload_n 2, 1) := by decide +kernel
theorem dX3_read_35 : decode cX3_read 35 = .ok (.ireturn, 1) := by decide +kernel
theorem dX3_show_0 : decode cX3_show 0 = .ok (.iload_n 1, 1) := by decide +kernel
theorem dX3_show_1 : decode cX3_show 1 = .ok (.istore_n 3, 1) := by decide +kernel
theorem dX3_show_2 : decode cX3_show 2 = .ok (.iconst 0, 1) := by decide +kernel
theorem dX3_show_3 : decode cX3_show 3 = .ok (.istore 4, 2) := by decide +kernel
theorem dX3_show_5 : decode cX3_show 5 = .ok (.aload_n 2, 1) := by decide +kernel
theorem dX3_show_6 : decode cX3_show 6 = .ok (.getfield 7, 3) := by decide +kernel
theorem dX3_show_9 : decode cX3_show 9 = .ok (.iconst 2, 1) := by decide +kernel
theorem dX3_show_10 : decode cX3_show 10 = .ok (.isub, 1) := by decide +kernel
theorem dX3_show_11 : decode cX3_show 11 = .ok (.istore 5, 2) := by decide +kernel
theorem dX3_show_13 : decode cX3_show 13 = .ok (.iload 5, 2) := by decide +kernel
theorem dX3_show_15 : decode cX3_show 15 = .ok (.ifCond .lt 40, 3) := by decide +kernel
theorem dX3_show_18 : decode cX3_show 18 = .ok (.iload_n 3, 1) := by decide +kernel
theorem dX3_show_19 : decode cX3_show 19 = .ok (.aload_n 2, 1) := by decide +kernel
theorem dX3_show_20 : decode cX3_show 20 = .ok (.getfield 13, 3) := by decide +kernel
theorem dX3_show_23 : decode cX3_show 23 = .ok (.irem, 1) := by decide +kernel
theorem dX3_show_24 : decode cX3_show 24 = .ok (.istore 6, 2) := by decide +kernel
theorem dX3_show_26 : decode cX3_show 26 = .ok (.aload_n 2, 1) := by decide +kernel
theorem dX3_show_27 : decode cX3_show 27 = .ok (.getfield 16, 3) := by decide +kernel
theorem dX3_show_30 : decode cX3_show 30 = .ok (.iload 5, 2) := by decide +kernel
theorem dX3_show_32 : decode cX3_show 32 = .ok (.iload 6, 2) := by decide +kernel
theorem dX3_show_34 : decode cX3_show 34 = .ok (.iastore, 1) := by decide +kernel
theorem dX3_show_35 : decode cX3_show 35 = .ok (.iload 4, 2) := by decide +kernel
theorem dX3_show_37 : decode cX3_show 37 = .ok (.iload 6, 2) := by decide +kernel
theorem dX3_show_39 : decode cX3_show 39 = .ok (.iadd, 1) := by decide +kernel
theorem dX3_show_40 : decode cX3_show 40 = .ok (.istore 4, 2) := by decide +kernel
theorem dX3_show_42 : decode cX3_show 42 = .ok (.iload_n 3, 1) := by decide +kernel
theorem dX3_show_43 : decode cX3_show 43 = .ok (.aload_n 2, 1) := by decide +kernel
theorem dX3_show_44 : decode cX3_show 44 = .ok (.getfield 13, 3) := by decide +kernel
theorem dX3_show_47 : decode cX3_show 47 = .ok (.idiv, 1) := by decide +kernel
theorem dX3_show_48 : decode cX3_show 48 = .ok (.istore_n 3, 1) := by decide +kernel
theorem dX3_show_49 : decode cX3_show 49 = .ok (.iinc 5 (-1), 3) := by decide +kernel
theorem dX3_show_52 : decode cX3_show 52 = .ok (.goto (-39), 3) := by decide +kernel
theorem dX3_show_55 : decode cX3_show 55 = .ok (.aload_n 2, 1) := by decide +kernel
theorem dX3_show_56 : decode cX3_show 56 = .ok (.getfield 16, 3) := by decide +kernel
theorem dX3_show_59 : decode cX3_show 59 = .ok (.aload_n 2, 1) := by decide +kernel
theorem dX3_show_60 : decode cX3_show 60 = .ok (.getfield 7, 3) := by decide +kernel
theorem dX3_show_63 : decode cX3_show 63 = .ok (.iconst 1, 1) := by decide +kernel
theorem dX3_show_64 : decode cX3_show 64 = .ok (.isub, 1) := by decide +kernel
theorem dX3_show_65 : decode cX3_show 65 = .ok (.aload_n 2, 1) := by decide +kernel
theorem dX3_show_66 : decode cX3_show 66 = .ok (.getfield 13, 3) := by decide +kernel
theorem dX3_show_69 : decode cX3_show 69 = .ok (.iload 4, 2) := by decide +kernel
theorem dX3_show_71 : decode cX3_show 71 = .ok (.aload_n 2, 1) := by decide +kernel
theorem dX3_show_72 : decode cX3_show 72 = .ok (.getfield 13, 3) := by decide +kernel
theorem dX3_show_75 : decode cX3_show 75 = .ok (.irem, 1) := by decide +kernel
theorem dX3_show_76 : decode cX3_show 76 = .ok (.isub, 1) := by decide +kernel
theorem dX3_show_77 : decode cX3_show 77 = .ok (.aload_n 2, 1) := by decide +kernel
theorem dX3_show_78 : decode cX3_show 78 = .ok (.getfield 13, 3) := by decide +kernel
theorem dX3_show_81 : decode cX3_show 81 = .ok (.irem, 1) := by decide +kernel
theorem dX3_show_82 : decode cX3_show 82 = .ok (.iastore, 1) := by decide +kernel
theorem dX3_show_83 : decode cX3_show 83 = .ok (.return_, 1) := by decide +kernel
theorem dX4_ofSet_0 : decode cX4_ofSet 0 = .ok (.iconst 0, 1) := by decide +kernel
theorem dX4_ofSet_1 : decode cX4_ofSet 1 = .ok (.istore_n 2, 1) := by decide +kernel
theorem dX4_ofSet_2 : decode cX4_ofSet 2 = .ok (.iconst 0, 1) := by decide +kernel
theorem dX4_ofSet_3 : decode cX4_ofSet 3 = .ok (.istore_n 3, 1) := by decide +kernel
theorem dX4_ofSet_4 : decode cX4_ofSet 4 = .ok (.iconst 0, 1) := by decide +kernel
theorem dX4_ofSet_5 : decode cX4_ofSet 5 = .ok (.istore 4, 2) := by decide +kernel
theorem dX4_ofSet_7 : decode cX4_ofSet 7 = .ok (.iload 4, 2) := by decide +kernel
theorem dX4_ofSet_9 : decode cX4_ofSet 9 = .ok (.iload_n 1, 1) := by decide +kernel
theorem dX4_ofSet_10 : decode cX4_ofSet 10 = .ok (.if_icmp .ge 39, 3) := by decide +kernel
theorem dX4_ofSet_13 : decode cX4_ofSet 13 = .ok (.iload_n 3, 1) := by decide +kernel
theorem dX4_ofSet_14 : decode cX4_ofSet 14 = .ok (.iconst 4, 1) := by decide +kernel
theorem dX4_ofSet_15 : decode cX4_ofSet 15 = .ok (.if_icmp .ge 34, 3) := by decide +kernel
theorem dX4_ofSet_18 : decode cX4_ofSet 18 = .ok (.iload_n 0, 1) := by decide +kernel
theorem dX4_ofSet_19 : decode cX4_ofSet 19 = .ok (.iload 4, 2) := by decide +kernel
theorem dX4_ofSet_21 : decode cX4_ofSet 21 = .ok (.ishr, 1) := by decide +kernel
theorem dX4_ofSet_22 : decode cX4_ofSet 22 = .ok (.iconst 1, 1) := by decide +kernel
theorem dX4_ofSet_23 : decode cX4_ofSet 23 = .ok (.iand, 1) := by decide +kernel
theorem dX4_ofSet_24 : decode cX4_ofSet 24 = .ok (.ifCond .eq 19, 3) := by decide +kernel
theorem dX4_ofSet_27 : decode cX4_ofSet 27 = .ok (.iinc 3 1, 3) := by decide +kernel
theorem dX4_ofSet_30 : decode cX4_ofSet 30 = .ok (.iload_n 2, 1) := by decide +kernel
theorem dX4_ofSet_31 : decode cX4_ofSet 31 = .ok (.getstatic 7, 3) := by decide +kernel
theorem dX4_ofSet_34 : decode cX4_ofSet 34 = .ok (.iconst 5, 1) := by decide +kernel
theorem dX4_ofSet_35 : decode cX4_ofSet 35 = .ok (.iload 4, 2) := by decide +kernel
theorem dX4_ofSet_37 : decode cX4_ofSet 37 = .ok (.imul, 1) := by decide +kernel
theorem dX4_ofSet_38 : decode cX4_ofSet 38 = .ok (.iload_n 3, 1) := by decide +kernel
theorem dX4_ofSet_39 : decode cX4_ofSet 39 = .ok (.iadd, 1) := by decide +kernel
theorem dX4_ofSet_40 : decode cX4_ofSet 40 = .ok (.iaload, 1) := by decide +kernel
theorem dX4_ofSet_41 : decode cX4_ofSet 41 = .ok (.iadd, 1) := by decide +kernel
theorem dX4_ofSet_42 : decode cX4_ofSet 42 = .ok (.istore_n 2, 1) := by decide +kernel
theorem dX4_ofSet_43 : decode cX4_ofSet 43 = .ok (.iinc 4 1, 3) := by decide +kernel
theorem dX4_ofSet_46 : decode cX4_ofSet 46 = .ok (.goto (-39), 3) := by decide +kernel
theorem dX4_ofSet_49 : decode cX4_ofSet 49 = .ok (.iload_n 2, 1) := by decide +kernel
theorem dX4_ofSet_50 : decode cX4_ofSet 50 = .ok (.ireturn, 1) := by decide +kernel
theorem dX4_toSet_0 : decode cX4_toSet 0 = .ok (.iconst 0, 1) := by decide +kernel
theorem dX4_toSet_1 : decode cX4_toSet 1 = .ok (.istore_n 2, 1) := by decide +kernel
theorem dX4_toSet_2 : decode cX4_toSet 2 = .ok (.iload_n 0, 1) := by decide +kernel
theorem dX4_toSet_3 : decode cX4_toSet 3 = .ok (.istore_n 3, 1) := by decide +kernel
theorem dX4_toSet_4 : decode cX4_toSet 4 = .ok (.iconst 4, 1) := by decide +kernel
theorem dX4_toSet_5 : decode cX4_toSet 5 = .ok (.istore 4, 2) := by decide +kernel
theorem dX4_toSet_7 : decode cX4_toSet 7 = .ok (.iload_n 1, 1) := by decide +kernel
theorem dX4_toSet_8 : decode cX4_toSet 8 = .ok (.iconst 1, 1) := by decide +kernel
theorem dX4_toSet_9 : decode cX4_toSet 9 = .ok (.isub, 1) := by decide +kernel
theorem dX4_toSet_10 : decode cX4_toSet 10 = .ok (.istore 5, 2) := by decide +kernel
theorem dX4_toSet_12 : decode cX4_toSet 12 = .ok (.iload 5, 2) := by decide +kernel
theorem dX4_toSet_14 : decode cX4_toSet 14 = .ok (.ifCond .lt 48, 3) := by decide +kernel
theorem dX4_toSet_17 : decode cX4_toSet 17 = .ok (.iload 4, 2) := by decide +kernel
theorem dX4_toSet_19 : decode cX4_toSet 19 = .ok (.ifCond .le 43, 3) := by decide +kernel
theorem dX4_toSet_22 : decode cX4_toSet 22 = .ok (.getstatic 7, 3) := by decide +kernel
theorem dX4_toSet_25 : decode cX4_toSet 25 = .ok (.iconst 5, 1) := by decide +kernel
theorem dX4_toSet_26 : decode cX4_toSet 26 = .ok (.iload 5, 2) := by decide +kernel
theorem dX4_toSet_28 : decode cX4_toSet 28 = .ok (.imul, 1) := by decide +kernel
theorem dX4_toSet_29 : decode cX4_toSet 29 = .ok (.iload 4, 2) := by decide +kernel
theorem dX4_toSet_31 : decode cX4_toSet 31 = .ok (.iadd, 1) := by decide +kernel
theorem dX4_toSet_32 : decode cX4_toSet 32 = .ok (.iaload, 1) := by decide +kernel
theorem dX4_toSet_33 : decode cX4_toSet 33 = .ok (.istore 6, 2) := by decide +kernel
theorem dX4_toSet_35 : decode cX4_toSet 35 = .ok (.iload_n 3, 1) := by decide +kernel
theorem dX4_toSet_36 : decode cX4_toSet 36 = .ok (.iload 6, 2) := by decide +kernel
theorem dX4_toSet_38 : decode cX4_toSet 38 = .ok (.if_icmp .lt 18, 3) := by decide +kernel
theorem dX4_toSet_41 : decode cX4_toSet 41 = .ok (.iload_n 3, 1) := by decide +kernel
theorem dX4_toSet_42 : decode cX4_toSet 42 = .ok (.iload 6, 2) := by decide +kernel
theorem dX4_toSet_44 : decode cX4_toSet 44 = .ok (.isub, 1) := by decide +kernel
theorem dX4_toSet_45 : decode cX4_toSet 45 = .ok (.istore_n 3, 1) := by decide +kernel
theorem dX4_toSet_46 : decode cX4_toSet 46 = .ok (.iinc 4 (-1), 3) := by decide +kernel
theorem dX4_toSet_49 : decode cX4_toSet 49 = .ok (.iload_n 2, 1) := by decide +kernel
theorem dX4_toSet_50 : decode cX4_toSet 50 = .ok (.iconst 1, 1) := by decide +kernel
theorem dX4_toSet_51 : decode cX4_toSet 51 = .ok (.iload 5, 2) := by decide +kernel
theorem dX4_toSet_53 : decode cX4_toSet 53 = .ok (.ishl, 1) := by decide +kernel
theorem dX4_toSet_54 : decode cX4_toSet 54 = .ok (.ior, 1) := by decide +kernel
theorem dX4_toSet_55 : decode cX4_toSet 55 = .ok (.istore_n 2, 1) := by decide +kernel
theorem dX4_toSet_56 : decode cX4_toSet 56 = .ok (.iinc 5 (-1), 3) := by decide +kernel
theorem dX4_toSet_59 : decode cX4_toSet 59 = .ok (.goto (-47), 3) := by decide +kernel
theorem dX4_toSet_62 : decode cX4_toSet 62 = .ok (.iload_n 2, 1) := by decide +kernel
theorem dX4_toSet_63 : decode cX4_toSet 63 = .ok (.ireturn, 1) := by decide +kernel
theorem dX4_ofOrder_0 : decode cX4_ofOrder 0 = .ok (.iload_n 0, 1) := by decide +kernel
theorem dX4_ofOrder_1 : decode cX4_ofOrder 1 = .ok (.bipush 6, 2) := by decide +kernel
theorem dX4_ofOrder_3 : decode cX4_ofOrder 3 = .ok (.imul, 1) := by decide +kernel
theorem dX4_ofOrder_4 : decode cX4_ofOrder 4 = .ok (.iload_n 1, 1) := by decide +kernel
theorem dX4_ofOrder_5 : decode cX4_ofOrder 5 = .ok (.iload_n 0, 1) := by decide +kernel
theorem dX4_ofOrder_6 : decode cX4_ofOrder 6 = .ok (.if_icmp .le 9, 3) := by decide +kernel
theorem dX4_ofOrder_9 : decode cX4_ofOrder 9 = .ok (.iload_n 1, 1) := by decide +kernel
theorem dX4_ofOrder_10 : decode cX4_ofOrder 10 = .ok (.iconst 1, 1) := by decide +kernel
theorem dX4_ofOrder_11 : decode cX4_ofOrder 11 = .ok (.isub, 1) := by decide +kernel
theorem dX4_ofOrder_12 : decode cX4_ofOrder 12 = .ok (.goto 4, 3) := by decide +kernel
theorem dX4_ofOrder_15 : decode cX4_ofOrder 15 = .ok (.iload_n 1, 1) := by decide +kernel
theorem dX4_ofOrder_16 : decode cX4_ofOrder 16 = .ok (.iconst 2, 1) := by decide +kernel
theorem dX4_ofOrder_17 : decode cX4_ofOrder 17 = .ok (.imul, 1) := by decide +kernel
theorem dX4_ofOrder_18 : decode cX4_ofOrder 18 = .ok (.iadd, 1) := by decide +kernel
theorem dX4_ofOrder_19 : decode cX4_ofOrder 19 = .ok (.iload_n 2, 1) := by decide +kernel
theorem dX4_ofOrder_20 : decode cX4_ofOrder 20 = .ok (.iload_n 3, 1) := by decide +kernel
theorem dX4_ofOrder_21 : decode cX4_ofOrder 21 = .ok (.if_icmp .le 7, 3) := by decide +kernel
theorem dX4_ofOrder_24 : decode cX4_ofOrder 24 = .ok (.iconst 1, 1) := by decide +kernel
theorem dX4_ofOrder_25 : decode cX4_ofOrder 25 = .ok (.goto 4, 3) := by decide +kernel
theorem dX4_ofOrder_28 : decode cX4_ofOrder 28 = .ok (.iconst 0, 1) := by decide +kernel
theorem dX4_ofOrder_29 : decode cX4_ofOrder 29 = .ok (.iadd, 1) := by decide +kernel
theorem dX4_ofOrder_30 : decode cX4_ofOrder 30 = .ok (.ireturn, 1) := by decide +kernel
theorem dX4_toOrder_0 : decode cX4_toOrder 0 = .ok (.iload_n 0, 1) := by decide +kernel
theorem dX4_toOrder_1 : decode cX4_toOrder 1 = .ok (.bipush 6, 2) := by decide +kernel
theorem dX4_toOrder_3 : decode cX4_toOrder 3 = .ok (.idiv, 1) := by decide +kernel
theorem dX4_toOrder_4 : decode cX4_toOrder 4 = .ok (.istore_n 2, 1) := by decide +kernel
theorem dX4_toOrder_5 : decode cX4_toOrder 5 = .ok (.iload_n 0, 1) := by decide +kernel
theorem dX4_toOrder_6 : decode cX4_toOrder 6 = .ok (.iconst 2, 1) := by decide +kernel
theorem dX4_toOrder_7 : decode cX4_toOrder 7 = .ok (.idiv, 1) := by decide +kernel
theorem dX4_toOrder_8 : decode cX4_toOrder 8 = .ok (.iconst 3, 1) := by decide +kernel
theorem dX4_toOrder_9 : decode cX4_toOrder 9 = .ok (.irem, 1) := by decide +kernel
theorem dX4_toOrder_10 : decode cX4_toOrder 10 = .ok (.istore_n 3, 1) := by decide +kernel
theorem dX4_toOrder_11 : decode cX4_toOrder 11 = .ok (.iload_n 3, 1) := by decide +kernel
theorem dX4_toOrder_12 : decode cX4_toOrder 12 = .ok (.iload_n 2, 1) := by decide +kernel
theorem dX4_toOrder_13 : decode cX4_toOrder 13 = .ok (.if_icmp .lt 6, 3) := by decide +kernel
theorem dX4_toOrder_16 : decode cX4_toOrder 16 = .ok (.iinc 3 1, 3) := by decide +kernel
theorem dX4_toOrder_19 : decode cX4_toOrder 19 = .ok (.iload_n 2, 1) := by decide +kernel
theorem dX4_toOrder_20 : decode cX4_toOrder 20 = .ok (.ifCond .eq 11, 3) := by decide +kernel
theorem dX4_toOrder_23 : decode cX4_toOrder 23 = .ok (.iload_n 3, 1) := by decide +kernel
theorem dX4_toOrder_24 : decode cX4_toOrder 24 = .ok (.ifCond .eq 7, 3) := by decide +kernel
theorem dX4_toOrder_27 : decode cX4_toOrder 27 = .ok (.iconst 0, 1) := by decide +kernel
theorem dX4_toOrder_28 : decode cX4_toOrder 28 = .ok (.goto 18, 3) := by decide +kernel
theorem dX4_toOrder_31 : decode cX4_toOrder 31 = .ok (.iload_n 2, 1) := by decide +kernel
theorem dX4_toOrder_32 : decode cX4_toOrder 32 = .ok (.iconst 1, 1) := by decide +kernel
theorem dX4_toOrder_33 : decode cX4_toOrder 33 = .ok (.if_icmp .eq 12, 3) := by decide +kernel
theorem dX4_toOrder_36 : decode cX4_toOrder 36 = .ok (.iload_n 3, 1) := by decide +kernel
theorem dX4_toOrder_37 : decode cX4_toOrder 37 = .ok (.iconst 1, 1) := by decide +kernel
theorem dX4_toOrder_38 : decode cX4_toOrder 38 = .ok (.if_icmp .eq 7, 3) := by decide +kernel
theorem dX4_toOrder_41 : decode cX4_toOrder 41 = .ok (.iconst 1, 1) := by decide +kernel
theorem dX4_toOrder_42 : decode cX4_toOrder 42 = .ok (.goto 4, 3) := by decide +kernel
theorem dX4_toOrder_45 : decode cX4_toOrder 45 = .ok (.iconst 2, 1) := by decide +kernel
theorem dX4_toOrder_46 : decode cX4_toOrder 46 = .ok (.istore 4, 2) := by decide +kernel
theorem dX4_toOrder_48 : decode cX4_toOrder 48 = .ok (.bipush 6, 2) := by decide +kernel
theorem dX4_toOrder_50 : decode cX4_toOrder 50 = .ok (.iload_n 2, 1) := by decide +kernel
theorem dX4_toOrder_51 : decode cX4_toOrder 51 = .ok (.isub, 1) := by decide +kernel
theorem dX4_toOrder_52 : decode cX4_toOrder 52 = .ok (.iload_n 3, 1) := by decide +kernel
theorem dX4_toOrder_53 : decode cX4_toOrder 53 = .ok (.isub, 1) := by decide +kernel
theorem dX4_toOrder_54 : decode cX4_toOrder 54 = .ok (.iload 4, 2) := by decide +kernel
theorem dX4_toOrder_56 : decode cX4_toOrder 56 = .ok (.isub, 1) := by decide +kernel
theorem dX4_toOrder_57 : decode cX4_toOrder 57 = .ok (.istore 5, 2) := by decide +kernel
theorem dX4_toOrder_59 : decode cX4_toOrder 59 = .ok (.iload_n 0, 1) := by decide +kernel
theorem dX4_toOrder_60 : decode cX4_toOrder 60 = .ok (.iconst 2, 1) := by decide +kernel
theorem dX4_toOrder_61 : decode cX4_toOrder 61 = .ok (.irem, 1) := by decide +kernel
theorem dX4_toOrder_62 : decode cX4_toOrder 62 = .ok (.ifCond .ne 7, 3) := by decide +kernel
theorem dX4_toOrder_65 : decode cX4_toOrder 65 = .ok (.iconst 1, 1) := by decide +kernel
theorem dX4_toOrder_66 : decode cX4_toOrder 66 = .ok (.goto 4, 3) := by decide +kernel
theorem dX4_toOrder_69 : decode cX4_toOrder 69 = .ok (.iconst 0, 1) := by decide +kernel
theorem dX4_toOrder_70 : decode cX4_toOrder 70 = .ok (.istore 6, 2) := by decide +kernel
theorem dX4_toOrder_72 : decode cX4_toOrder 72 = .ok (.aload_n 1, 1) := by decide +kernel
theorem dX4_toOrder_73 : decode cX4_toOrder 73 = .ok (.iconst 0, 1) := by decide +kernel
theorem dX4_toOrder_74 : decode cX4_toOrder 74 = .ok (.iload_n 2, 1) := by decide +kernel
theorem dX4_toOrder_75 : decode cX4_toOrder 75 = .ok (.iastore, 1) := by decide +kernel
theorem dX4_toOrder_76 : decode cX4_toOrder 76 = .ok (.aload_n 1, 1) := by decide +kernel
theorem dX4_toOrder_77 : decode cX4_toOrder 77 = .ok (.iconst 1, 1) := by decide +kernel
theorem dX4_toOrder_78 : decode cX4_toOrder 78 = .ok (.iload_n 3, 1) := by decide +kernel
theorem dX4_toOrder_79 : decode cX4_toOrder 79 = .ok (.iastore, 1) := by decide +kernel
theorem dX4_toOrder_80 : decode cX4_toOrder 80 = .ok (.aload_n 1, 1) := by decide +kernel
theorem dX4_toOrder_81 : decode cX4_toOrder 81 = .ok (.iconst 2, 1) := by decide +kernel
theorem dX4_toOrder_82 : decode cX4_toOrder 82 = .ok (.iload 6, 2) := by decide +kernel
theorem dX4_toOrder_84 : decode cX4_toOrder 84 = .ok (.ifCond .eq 8, 3) := by decide +kernel
theorem dX4_toOrder_87 : decode cX4_toOrder 87 = .ok (.iload 4, 2) := by decide +kernel
theorem dX4_toOrder_89 : decode cX4_toOrder 89 = .ok (.goto 5, 3) := by decide +kernel
theorem dX4_toOrder_92 : decode cX4_toOrder 92 = .ok (.iload 5, 2) := by decide +kernel
theorem dX4_toOrder_94 : decode cX4_toOrder 94 = .ok (.iastore, 1) := by decide +kernel
theorem dX4_toOrder_95 : decode cX4_toOrder 95 = .ok (.aload_n 1, 1) := by decide +kernel
theorem dX4_toOrder_96 : decode cX4_toOrder 96 = .ok (.iconst 3, 1) := by decide +kernel
theorem dX4_toOrder_97 : decode cX4_toOrder 97 = .ok (.iload 6, 2) := by decide +kernel
theorem dX4_toOrder_99 : decode cX4_toOrder 99 = .ok (.ifCond .eq 8, 3) := by decide +kernel
theorem dX4_toOrder_102 : decode cX4_toOrder 102 = .ok (.iload 5, 2) := by decide +kernel
theorem dX4_toOrder_104 : decode cX4_toOrder 104 = .ok (.goto 5, 3) := by decide +kernel
theorem dX4_toOrder_107 : decode cX4_toOrder 107 = .ok (.iload 4, 2) := by decide +kernel
theorem dX4_toOrder_109 : decode cX4_toOrder 109 = .ok (.iastore, 1) := by decide +kernel
theorem dX4_toOrder_110 : decode cX4_toOrder 110 = .ok (.return_, 1) := by decide +kernel
set_option maxRecDepth 20000 in
theorem ggX5_init_X2_init : GoodIn wsX5_init wsX2_init := goodIn_r _ [7, 8, 9, 10, 11, 12, 18, 19, 20, 21, 22, 23, 24, 13, 14, 15, 16, 17, 25, 26, 27, 28, 29, 30, 31, 32, 33, 34, 35] (by decide +kernel) (by decide +kernel)
set_option maxRecDepth 20000 in
theorem gX5_init_X2_init : GoodIn wsX5_init (wsX2_init) := ggX5_init_X2_init
theorem dX5_init_0 : decode cX5_init 0 = .ok (.aload_n 0, 1) := by decide +kernel
theorem dX5_init_1 : decode cX5_init 1 = .ok (.iconst 0, 1) := by decide +kernel
theorem dX5_init_2 : decode cX5_init 2 = .ok (.bipush 24, 2) := by decide +kernel
theorem dX5_init_4 : decode cX5_init 4 = .ok (.invokespecial 3, 3) := by decide +kernel
theorem dX5_init_7 : decode cX5_init 7 = .ok (.aload_n 0, 1) := by decide +kernel
theorem dX5_init_8 : decode cX5_init 8 = .ok (.iconst 4, 1) := by decide +kernel
theorem dX5_init_9 : decode cX5_init 9 = .ok (.iload_n 1, 1) := by decide +kernel
theorem dX5_init_10 : decode cX5_init 10 = .ok (.imul, 1) := by decide +kernel
theorem dX5_init_11 : decode cX5_init 11 = .ok (.putfield 9, 3) := by decide +kernel
theorem dX5_init_14 : decode cX5_init 14 = .ok (.aload_n 0, 1) := by decide +kernel
theorem dX5_init_15 : decode cX5_init 15 = .ok (.iconst 4, 1) := by decide +kernel
theorem dX5_init_16 : decode cX5_init 16 = .ok (.newarray .int, 2) := by decide +kernel
theorem dX5_init_18 : decode cX5_init 18 = .ok (.putfield 15, 3) := by decide +kernel
theorem dX5_init_21 : decode cX5_init 21 = .ok (.return_, 1) := by decide +kernel
set_option maxRecDepth 20000 in
theorem ggX5_read_X4_ofOrder : GoodIn wsX5_read wsX4_ofOrder := goodIn_r _ [6] (by decide +kernel) (by decide +kernel)
set_option maxRecDepth 20000 in
theorem gX5_read_X4_ofOrder : GoodIn wsX5_read (va_wsS RX5 24 yX4_ofOrder wsX4_ofOrder) := goodIn_app (goodIn_of _ (by decide +kernel)) ggX5_read_X4_ofOrder
theorem dX5_read_0 : decode cX5_read 0 = .ok (.aload_n 1, 1) := by decide +kernel
theorem dX5_read_1 : decode cX5_read 1 = .ok (.getfield 19, 3) := by decide +kernel
theorem dX5_read_4 : decode cX5_read 4 = .ok (.astore_n 2, 1) := by decide +kernel
theorem dX5_read_5 : decode cX5_read 5 = .ok (.aload_n 2, 1) := by decide +kernel
theorem dX5_read_6 : decode cX5_read 6 = .ok (.aload_n 0, 1) := by decide +kernel
theorem dX5_read_7 : decode cX5_read 7 = .ok (.getfield 9, 3) := by decide +kernel
theorem dX5_read_10 : decode cX5_read 10 = .ok (.iaload, 1) := by decide +kernel
theorem dX5_read_11 : decode cX5_read 11 = .ok (.iconst 3, 1) := by decide +kernel
theorem dX5_read_12 : decode cX5_read 12 = .ok (.iand, 1) := by decide +kernel
theorem dX5_read_13 : decode cX5_read 13 = .ok (.aload_n 2, 1) := by decide +kernel
theorem dX5_read_14 : decode cX5_read 14 = .ok (.aload_n 0, 1) := by decide +kernel
theorem dX5_read_15 : decode cX5_read 15 = .ok (.getfield 9, 3) := by decide +kernel
theorem dX5_read_18 : decode cX5_read 18 = .ok (.iconst 1, 1) := by decide +kernel
theorem dX5_read_19 : decode cX5_read 19 = .ok (.iadd, 1) := by decide +kernel
theorem dX5_read_20 : decode cX5_read 20 = .ok (.iaload, 1) := by decide +kernel
theorem dX5_read_21 : decode cX5_read 21 = .ok (.iconst 3, 1) := by decide +kernel
theorem dX5_read_22 : decode cX5_read 22 = .ok (.iand, 1) := by decide +kernel
theorem dX5_read_23 : decode cX5_read 23 = .ok (.aload_n 2, 1) := by decide +kernel
theorem dX5_read_24 : decode cX5_read 24 = .ok (.aload_n 0, 1) := by decide +kernel
theorem dX5_read_25 : decode cX5_read 25 = .ok (.getfield 9, 3) := by decide +kernel
theorem dX5_read_28 : decode cX5_read 28 = .ok (.iconst 2, 1) := by decide +kernel
theorem dX5_read_29 : decode cX5_read 29 = .ok (.iadd, 1) := by decide +kernel
theorem dX5_read_30 : decode cX5_read 30 = .ok (.iaload, 1) := by decide +kernel
theorem dX5_read_31 : decode cX5_read 31 = .ok (.iconst 3, 1) := by decide +kernel
theorem dX5_read_32 : decode cX5_read 32 = .ok (.iand, 1) := by decide +kernel
theorem dX5_read_33 : decode cX5_read 33 = .ok (.aload_n 2, 1) := by decide +kernel
theorem dX5_read_34 : decode cX5_read 34 = .ok (.aload_n 0, 1) := by decide +kernel
theorem dX5_read_35 : decode cX5_read 35 = .ok (.getfield 9, 3) := by decide +kernel
theorem dX5_read_38 : decode cX5_read 38 = .ok (.iconst 3, 1) := by decide +kernel
theorem dX5_read_39 : decode cX5_read 39 = .ok (.iadd, 1) := by decide +kernel
theorem dX5_read_40 : decode cX5_read 40 = .ok (.iaload, 1) := by decide +kernel
theorem dX5_read_41 : decode cX5_read 41 = .ok (.iconst 3, 1) := by decide +kernel
theorem dX5_read_42 : decode cX5_read 42 = .ok (.iand, 1) := by decide +kernel
theorem dX5_read_43 : decode cX5_read 43 = .ok (.invokestatic 24, 3) := by decide +kernel
theorem dX5_read_46 : decode cX5_read 46 = .ok (.ireturn, 1) := by decide +kernel
set_option maxRecDepth 20000 in
theorem ggX5_show_X4_toOrder : GoodIn wsX5_show wsX4_toOrder := goodIn_r _ [7] (by decide +kernel) (by decide +kernel)
set_option maxRecDepth 20000 in
theorem gX5_show_X4_toOrder : GoodIn wsX5_show (va_wsS RX5 28 yX4_toOrder wsX4_toOrder) := goodIn_app (goodIn_of _ (by decide +kernel)) ggX5_show_X4_toOrder
theorem dX5_show_0 : decode cX5_show 0 = .ok (.iload_n 1, 1) := by decide +kernel
theorem dX5_show_1 : decode cX5_show 1 = .ok (.aload_n 0, 1) := by decide +kernel
theorem dX5_show_2 : decode cX5_show 2 = .ok (.getfield 15, 3) := by decide +kernel
theorem dX5_show_5 : decode cX5_show 5 = .ok (.invokestatic 28, 3) := by decide +kernel
theorem dX5_show_8 : decode cX5_show 8 = .ok (.iconst 0, 1) := by decide +kernel
theorem dX5_show_9 : decode cX5_show 9 = .ok (.istore_n 3, 1) := by decide +kernel
theorem dX5_show_10 : decode cX5_show 10 = .ok (.iload_n 3, 1) := by decide +kernel
theorem dX5_show_11 : decode cX5_show 11 = .ok (.iconst 4, 1) := by decide +kernel
theorem dX5_show_12 : decode cX5_show 12 = .ok (.if_icmp .ge 31, 3) := by decide +kernel
theorem dX5_show_15 : decode cX5_show 15 = .ok (.aload_n 2, 1) := by decide +kernel
theorem dX5_show_16 : decode cX5_show 16 = .ok (.getfield 19, 3) := by decide +kernel
theorem dX5_show_19 : decode cX5_show 19 = .ok (.aload_n 0, 1) := by decide +kernel
theorem dX5_show_20 : decode cX5_show 20 = .ok (.getfield 9, 3) := by decide +kernel
theorem dX5_show_23 : decode cX5_show 23 = .ok (.iload_n 3, 1) := by decide +kernel
theorem dX5_show_24 : decode cX5_show 24 = .ok (.iadd, 1) := by decide +kernel
theorem dX5_show_25 : decode cX5_show 25 = .ok (.aload_n 0, 1) := by decide +kernel
theorem dX5_show_26 : decode cX5_show 26 = .ok (.getfield 9, 3) := by decide +kernel
theorem dX5_show_29 : decode cX5_show 29 = .ok (.aload_n 0, 1) := by decide +kernel
theorem dX5_show_30 : decode cX5_show 30 = .ok (.getfield 15, 3) := by decide +kernel
theorem dX5_show_33 : decode cX5_show 33 = .ok (.iload_n 3, 1) := by decide +kernel
theorem dX5_show_34 : decode cX5_show 34 = .ok (.iaload, 1) := by decide +kernel
theorem dX5_show_35 : decode cX5_show 35 = .ok (.iadd, 1) := by decide +kernel
theorem dX5_show_36 : decode cX5_show 36 = .ok (.iastore, 1) := by decide +kernel
theorem dX5_show_37 : decode cX5_show 37 = .ok (.iinc 3 1, 3) := by decide +kernel
theorem dX5_show_40 : decode cX5_show 40 = .ok (.goto (-30), 3) := by decide +kernel
theorem dX5_show_43 : decode cX5_show 43 = .ok (.return_, 1) := by decide +kernel
set_option maxRecDepth 20000 in
theorem ggX6_init_X2_init : GoodIn wsX6_init wsX2_init := goodIn_r _ [8, 9, 10, 11, 12, 13, 20, 21, 22, 23, 24, 25, 26, 27, 28, 29, 30, 31, 14, 15, 16, 17, 18, 19, 32, 33, 34, 35, 36] (by decide +kernel) (by decide +kernel)
set_option maxRecDepth 20000 in
theorem gX6_init_X2_init : GoodIn wsX6_init (wsX2_init) := ggX6_init_X2_init
theorem dX6_init_0 : decode cX6_init 0 = .ok (.aload_n 0, 1) := by decide +kernel
theorem dX6_init_1 : decode cX6_init 1 = .ok (.iconst 1, 1) := by decide +kernel
theorem dX6_init_2 : decode cX6_init 2 = .ok (.sipush 420, 3) := by decide +kernel
theorem dX6_init_5 : decode cX6_init 5 = .ok (.invokespecial 5, 3) := by decide +kernel
theorem dX6_init_8 : decode cX6_init 8 = .ok (.aload_n 0, 1) := by decide +kernel
theorem dX6_init_9 : decode cX6_init 9 = .ok (.bipush 8, 2) := by decide +kernel
theorem dX6_init_11 : decode cX6_init 11 = .ok (.newarray .int, 2) := by decide +kernel
theorem dX6_init_13 : decode cX6_init 13 = .ok (.putfield 11, 3) := by decide +kernel
theorem dX6_init_16 : decode cX6_init 16 = .ok (.aload_n 0, 1) := by decide +kernel
theorem dX6_init_17 : decode cX6_init 17 = .ok (.bipush 8, 2) := by decide +kernel
theorem dX6_init_19 : decode cX6_init 19 = .ok (.newarray .int, 2) := by decide +kernel
theorem dX6_init_21 : decode cX6_init 21 = .ok (.putfield 17, 3) := by decide +kernel
theorem dX6_init_24 : decode cX6_init 24 = .ok (.aload_n 0, 1) := by decide +kernel
theorem dX6_init_25 : decode cX6_init 25 = .ok (.iconst 4, 1) := by decide +kernel
theorem dX6_init_26 : decode cX6_init 26 = .ok (.newarray .int, 2) := by decide +kernel
theorem dX6_init_28 : decode cX6_init 28 = .ok (.putfield 20, 3) := by decide +kernel
theorem dX6_init_31 : decode cX6_init 31 = .ok (.return_, 1) := by decide +kernel
set_option maxRecDepth 20000 in
theorem ggX6_read_J6_bitCount_0f7a4 : GoodIn wsX6_read wsJ6_bitCount_0f7a4 := goodIn_r _ [8, 9, 10, 11] (by decide +kernel) (by decide +kernel)
set_option maxRecDepth 20000 in
theorem gX6_read_J6_bitCount_0f7a4 : GoodIn wsX6_read (va_wsS RX6 31 yJ6_bitCount_0f7a4 wsJ6_bitCount_0f7a4) := goodIn_app (goodIn_of _ (by decide +kernel)) ggX6_read_J6_bitCount_0f7a4
set_option maxRecDepth 20000 in
theorem ggX6_read_X6_partner : GoodIn wsX6_read wsX6_partner := goodIn_r _ [16, 4, 3, 31, 32, 33, 34, 35, 36] (by decide +kernel) (by decide +kernel)
set_option maxRecDepth 20000 in
theorem gX6_read_X6_partner : GoodIn wsX6_read (wsV RX6 37 RX6 yX6_partner wsX6_partner) := goodIn_app (goodIn_of _ (by decide +kernel)) ggX6_read_X6_partner
set_option maxRecDepth 20000 in
theorem ggX6_read_X4_ofOrder : GoodIn wsX6_read wsX4_ofOrder := goodIn_r _ [20] (by decide +kernel) (by decide +kernel)
set_option maxRecDepth 20000 in
theorem gX6_read_X4_ofOrder : GoodIn wsX6_read (va_wsS RX6 40 yX4_ofOrder wsX4_ofOrder) := goodIn_app (goodIn_of _ (by decide +kernel)) ggX6_read_X4_ofOrder
set_option maxRecDepth 20000 in
theorem ggX6_read_X4_ofSet : GoodIn wsX6_read wsX4_ofSet := goodIn_r _ [23, 24] (by decide +kernel) (by decide +kernel)
set_option maxRecDepth 20000 in
theorem gX6_read_X4_ofSet : GoodIn wsX6_read (va_wsS RX6 44 yX4_ofSet wsX4_ofSet) := goodIn_app (goodIn_of _ (by decide +kernel)) ggX6_read_X4_ofSet
theorem dX6_read_0 : decode cX6_read 0 = .ok (.iconst 0, 1) := by decide +kernel
theorem dX6_read_1 : decode cX6_read 1 = .ok (.istore_n 2, 1) := by decide +kernel
theorem dX6_read_2 : decode cX6_read 2 = .ok (.iconst 0, 1) := by decide +kernel
theorem dX6_read_3 : decode cX6_read 3 = .ok (.istore_n 3, 1) := by decide +kernel
theorem dX6_read_4 : decode cX6_read 4 = .ok (.iconst 0, 1) := by decide +kernel
theorem dX6_read_5 : decode cX6_read 5 = .ok (.istore 4, 2) := by decide +kernel
theorem dX6_read_7 : decode cX6_read 7 = .ok (.iload 4, 2) := by decide +kernel
theorem dX6_read_9 : decode cX6_read 9 = .ok (.bipush 8, 2) := by decide +kernel
theorem dX6_read_11 : decode cX6_read 11 = .ok (.if_icmp .ge 64, 3) := by decide +kernel
theorem dX6_read_14 : decode cX6_read 14 = .ok (.aload_n 1, 1) := by decide +kernel
theorem dX6_read_15 : decode cX6_read 15 = .ok (.getfield 23, 3) := by decide +kernel
theorem dX6_read_18 : decode cX6_read 18 = .ok (.getstatic 28, 3) := by decide +kernel
theorem dX6_read_21 : decode cX6_read 21 = .ok (.iload 4, 2) := by decide +kernel
theorem dX6_read_23 : decode cX6_read 23 = .ok (.iaload, 1) := by decide +kernel
theorem dX6_read_24 : decode cX6_read 24 = .ok (.iaload, 1) := by decide +kernel
theorem dX6_read_25 : decode cX6_read 25 = .ok (.istore 5, 2) := by decide +kernel
theorem dX6_read_27 : decode cX6_read 27 = .ok (.iload 5, 2) := by decide +kernel
theorem dX6_read_29 : decode cX6_read 29 = .ok (.invokestatic 31, 3) := by decide +kernel
theorem dX6_read_32 : decode cX6_read 32 = .ok (.iconst 2, 1) := by decide +kernel
theorem dX6_read_33 : decode cX6_read 33 = .ok (.irem, 1) := by decide +kernel
theorem dX6_read_34 : decode cX6_read 34 = .ok (.ifCond .ne 24, 3) := by decide +kernel
theorem dX6_read_37 : decode cX6_read 37 = .ok (.iload_n 2, 1) := by decide +kernel
theorem dX6_read_38 : decode cX6_read 38 = .ok (.iconst 1, 1) := by decide +kernel
theorem dX6_read_39 : decode cX6_read 39 = .ok (.iload 4, 2) := by decide +kernel
theorem dX6_read_41 : decode cX6_read 41 = .ok (.ishl, 1) := by decide +kernel
theorem dX6_read_42 : decode cX6_read 42 = .ok (.ior, 1) := by decide +kernel
theorem dX6_read_43 : decode cX6_read 43 = .ok (.istore_n 2, 1) := by decide +kernel
theorem dX6_read_44 : decode cX6_read 44 = .ok (.aload_n 0, 1) := by decide +kernel
theorem dX6_read_45 : decode cX6_read 45 = .ok (.getfield 11, 3) := by decide +kernel
theorem dX6_read_48 : decode cX6_read 48 = .ok (.iload_n 3, 1) := by decide +kernel
theorem dX6_read_49 : decode cX6_read 49 = .ok (.iload 5, 2) := by decide +kernel
theorem dX6_read_51 : decode cX6_read 51 = .ok (.iastore, 1) := by decide +kernel
theorem dX6_read_52 : decode cX6_read 52 = .ok (.iinc 3 1, 3) := by decide +kernel
theorem dX6_read_55 : decode cX6_read 55 = .ok (.goto 14, 3) := by decide +kernel
theorem dX6_read_58 : decode cX6_read 58 = .ok (.aload_n 0, 1) := by decide +kernel
theorem dX6_read_59 : decode cX6_read 59 = .ok (.getfield 17, 3) := by decide +kernel
theorem dX6_read_62 : decode cX6_read 62 = .ok (.iload 4, 2) := by decide +kernel
theorem dX6_read_64 : decode cX6_read 64 = .ok (.iload_n 3, 1) := by decide +kernel
theorem dX6_read_65 : decode cX6_read 65 = .ok (.isub, 1) := by decide +kernel
theorem dX6_read_66 : decode cX6_read 66 = .ok (.iload 5, 2) := by decide +kernel
theorem dX6_read_68 : decode cX6_read 68 = .ok (.iastore, 1) := by decide +kernel
theorem dX6_read_69 : decode cX6_read 69 = .ok (.iinc 4 1, 3) := by decide +kernel
theorem dX6_read_72 : decode cX6_read 72 = .ok (.goto (-65), 3) := by decide +kernel
theorem dX6_read_75 : decode cX6_read 75 = .ok (.iconst 0, 1) := by decide +kernel
theorem dX6_read_76 : decode cX6_read 76 = .ok (.aload_n 0, 1) := by decide +kernel
theorem dX6_read_77 : decode cX6_read 77 = .ok (.iconst 1, 1) := by decide +kernel
theorem dX6_read_78 : decode cX6_read 78 = .ok (.invokevirtual 37, 3) := by decide +kernel
theorem dX6_read_81 : decode cX6_read 81 = .ok (.aload_n 0, 1) := by decide +kernel
theorem dX6_read_82 : decode cX6_read 82 = .ok (.iconst 2, 1) := by decide +kernel
theorem dX6_read_83 : decode cX6_read 83 = .ok (.invokevirtual 37, 3) := by decide +kernel
theorem dX6_read_86 : decode cX6_read 86 = .ok (.aload_n 0, 1) := by decide +kernel
theorem dX6_read_87 : decode cX6_read 87 = .ok (.iconst 3, 1) := by decide +kernel
theorem dX6_read_88 : decode cX6_read 88 = .ok (.invokevirtual 37, 3) := by decide +kernel
theorem dX6_read_91 : decode cX6_read 91 = .ok (.invokestatic 40, 3) := by decide +kernel
theorem dX6_read_94 : decode cX6_read 94 = .ok (.istore 4, 2) := by decide +kernel
theorem dX6_read_96 : decode cX6_read 96 = .ok (.iload_n 2, 1) := by decide +kernel
theorem dX6_read_97 : decode cX6_read 97 = .ok (.bipush 8, 2) := by decide +kernel
theorem dX6_read_99 : decode cX6_read 99 = .ok (.invokestatic 44, 3) := by decide +kernel
theorem dX6_read_102 : decode cX6_read 102 = .ok (.bipush 6, 2) := by decide +kernel
theorem dX6_read_104 : decode cX6_read 104 = .ok (.imul, 1) := by decide +kernel
theorem dX6_read_105 : decode cX6_read 105 = .ok (.iload 4, 2) := by decide +kernel
theorem dX6_read_107 : decode cX6_read 107 = .ok (.iadd, 1) := by decide +kernel
theorem dX6_read_108 : decode cX6_read 108 = .ok (.ireturn, 1) := by decide +kernel
theorem dX6_partner_0 : decode cX6_partner 0 = .ok (.aload_n 0, 1) := by decide +kernel
theorem dX6_partner_1 : decode cX6_partner 1 = .ok (.getfield 17, 3) := by decide +kernel
theorem dX6_partner_4 : decode cX6_partner 4 = .ok (.iconst 0, 1) := by decide +kernel
theorem dX6_partner_5 : decode cX6_partner 5 = .ok (.iaload, 1) := by decide +kernel
theorem dX6_partner_6 : decode cX6_partner 6 = .ok (.aload_n 0, 1) := by decide +kernel
theorem dX6_partner_7 : decode cX6_partner 7 = .ok (.getfield 17, 3) := by decide +kernel
theorem dX6_partner_10 : decode cX6_partner 10 = .ok (.iload_n 1, 1) := by decide +kernel
theorem dX6_partner_11 : decode cX6_partner 11 = .ok (.iaload, 1) := by decide +kernel
theorem dX6_partner_12 : decode cX6_partner 12 = .ok (.ixor, 1) := by decide +kernel
theorem dX6_partner_13 : decode cX6_partner 13 = .ok (.istore_n 2, 1) := by decide +kernel
theorem dX6_partner_14 : decode cX6_partner 14 = .ok (.aload_n 0, 1) := by decide +kernel
theorem dX6_partner_15 : decode cX6_partner 15 = .ok (.getfield 11, 3) := by decide +kernel
theorem dX6_partner_18 : decode cX6_partner 18 = .ok (.iconst 0, 1) := by decide +kernel
theorem dX6_partner_19 : decode cX6_partner 19 = .ok (.iaload, 1) := by decide +kernel
theorem dX6_partner_20 : decode cX6_partner 20 = .ok (.aload_n 0, 1) := by decide +kernel
theorem dX6_partner_21 : decode cX6_partner 21 = .ok (.getfield 11, 3) := by decide +kernel
theorem dX6_partner_24 : decode cX6_partner 24 = .ok (.iconst 1, 1) := by decide +kernel
theorem dX6_partner_25 : decode cX6_partner 25 = .ok (.iaload, 1) := by decide +kernel
theorem dX6_partner_26 : decode cX6_partner 26 = .ok (.ixor, 1) := by decide +kernel
theorem dX6_partner_27 : decode cX6_partner 27 = .ok (.iload_n 2, 1) := by decide +kernel
theorem dX6_partner_28 : decode cX6_partner 28 = .ok (.if_icmp .ne 7, 3) := by decide +kernel
theorem dX6_partner_31 : decode cX6_partner 31 = .ok (.iconst 1, 1) := by decide +kernel
theorem dX6_partner_32 : decode cX6_partner 32 = .ok (.goto 25, 3) := by decide +kernel
theorem dX6_partner_35 : decode cX6_partner 35 = .ok (.aload_n 0, 1) := by decide +kernel
theorem dX6_partner_36 : decode cX6_partner 36 = .ok (.getfield 11, 3) := by decide +kernel
theorem dX6_partner_39 : decode cX6_partner 39 = .ok (.iconst 0, 1) := by decide +kernel
theorem dX6_partner_40 : decode cX6_partner 40 = .ok (.iaload, 1) := by decide +kernel
theorem dX6_partner_41 : decode cX6_partner 41 = .ok (.aload_n 0, 1) := by decide +kernel
theorem dX6_partner_42 : decode cX6_partner 42 = .ok (.getfield 11, 3) := by decide +kernel
theorem dX6_partner_45 : decode cX6_partner 45 = .ok (.iconst 2, 1) := by decide +kernel
theorem dX6_partner_46 : decode cX6_partner 46 = .ok (.iaload, 1) := by decide +kernel
theorem dX6_partner_47 : decode cX6_partner 47 = .ok (.ixor, 1) := by decide +kernel
theorem dX6_partner_48 : decode cX6_partner 48 = .ok (.iload_n 2, 1) := by decide +kernel
theorem dX6_partner_49 : decode cX6_partner 49 = .ok (.if_icmp .ne 7, 3) := by decide +kernel
theorem dX6_partner_52 : decode cX6_partner 52 = .ok (.iconst 2, 1) := by decide +kernel
theorem dX6_partner_53 : decode cX6_partner 53 = .ok (.goto 4, 3) := by decide +kernel
theorem dX6_partner_56 : decode cX6_partner 56 = .ok (.iconst 3, 1) := by decide +kernel
theorem dX6_partner_57 : decode cX6_partner 57 = .ok (.ireturn, 1) := by decide +kernel
set_option maxRecDepth 20000 in
theorem ggX6_show_X4_toSet : GoodIn wsX6_show wsX4_toSet := goodIn_r _ [8, 9] (by decide +kernel) (by decide +kernel)
set_option maxRecDepth 20000 in
theorem gX6_show_X4_toSet : GoodIn wsX6_show (va_wsS RX6 48 yX4_toSet wsX4_toSet) := goodIn_app (goodIn_of _ (by decide +kernel)) ggX6_show_X4_toSet
set_option maxRecDepth 20000 in
theorem ggX6_show_X4_toOrder : GoodIn wsX6_show wsX4_toOrder := goodIn_r _ [12] (by decide +kernel) (by decide +kernel)
set_option maxRecDepth 20000 in
theorem gX6_show_X4_toOrder : GoodIn wsX6_show (va_wsS RX6 51 yX4_toOrder wsX4_toOrder) := goodIn_app (goodIn_of _ (by decide +kernel)) ggX6_show_X4_toOrder
theorem dX6_show_0 : decode cX6_show 0 = .ok (.iload_n 1, 1) := by decide +kernel
theorem dX6_show_1 : decode cX6_show 1 = .ok (.bipush 6, 2) := by decide +kernel
theorem dX6_show_3 : decode cX6_show 3 = .ok (.idiv, 1) := by decide +kernel
theorem dX6_show_4 : decode cX6_show 4 = .ok (.bipush 8, 2) := by decide +kernel
theorem dX6_show_6 : decode cX6_show 6 = .ok (.invokestatic 48, 3) := by decide +kernel
theorem dX6_show_9 : decode cX6_show 9 = .ok (.istore_n 3, 1) := by decide +kernel
theorem dX6_show_10 : decode cX6_show 10 = .ok (.iload_n 1, 1) := by decide +kernel
theorem dX6_show_11 : decode cX6_show 11 = .ok (.bipush 6, 2) := by decide +kernel
theorem dX6_show_13 : decode cX6_show 13 = .ok (.irem, 1) := by decide +kernel
theorem dX6_show_14 : decode cX6_show 14 = .ok (.aload_n 0, 1) := by decide +kernel
theorem dX6_show_15 : decode cX6_show 15 = .ok (.getfield 20, 3) := by decide +kernel
theorem dX6_show_18 : decode cX6_show 18 = .ok (.invokestatic 51, 3) := by decide +kernel
theorem dX6_show_21 : decode cX6_show 21 = .ok (.iconst 0, 1) := by decide +kernel
theorem dX6_show_22 : decode cX6_show 22 = .ok (.istore 4, 2) := by decide +kernel
theorem dX6_show_24 : decode cX6_show 24 = .ok (.iconst 0, 1) := by decide +kernel
theorem dX6_show_25 : decode cX6_show 25 = .ok (.istore 5, 2) := by decide +kernel
theorem dX6_show_27 : decode cX6_show 27 = .ok (.iload 5, 2) := by decide +kernel
theorem dX6_show_29 : decode cX6_show 29 = .ok (.bipush 8, 2) := by decide +kernel
theorem dX6_show_31 : decode cX6_show 31 = .ok (.if_icmp .ge 72, 3) := by decide +kernel
theorem dX6_show_34 : decode cX6_show 34 = .ok (.iload_n 3, 1) := by decide +kernel
theorem dX6_show_35 : decode cX6_show 35 = .ok (.iload 5, 2) := by decide +kernel
theorem dX6_show_37 : decode cX6_show 37 = .ok (.ishr, 1) := by decide +kernel
theorem dX6_show_38 : decode cX6_show 38 = .ok (.iconst 1, 1) := by decide +kernel
theorem dX6_show_39 : decode cX6_show 39 = .ok (.iand, 1) := by decide +kernel
theorem dX6_show_40 : decode cX6_show 40 = .ok (.ifCond .eq 28, 3) := by decide +kernel
theorem dX6_show_43 : decode cX6_show 43 = .ok (.aload_n 2, 1) := by decide +kernel
theorem dX6_show_44 : decode cX6_show 44 = .ok (.getfield 23, 3) := by decide +kernel
theorem dX6_show_47 : decode cX6_show 47 = .ok (.getstatic 28, 3) := by decide +kernel
theorem dX6_show_50 : decode cX6_show 50 = .ok (.iload 5, 2) := by decide +kernel
theorem dX6_show_52 : decode cX6_show 52 = .ok (.iaload, 1) := by decide +kernel
theorem dX6_show_53 : decode cX6_show 53 = .ok (.getstatic 55, 3) := by decide +kernel
theorem dX6_show_56 : decode cX6_show 56 = .ok (.iload 4, 2) := by decide +kernel
theorem dX6_show_58 : decode cX6_show 58 = .ok (.iconst 3, 1) := by decide +kernel
theorem dX6_show_59 : decode cX6_show 59 = .ok (.iand, 1) := by decide +kernel
theorem dX6_show_60 : decode cX6_show 60 = .ok (.iaload, 1) := by decide +kernel
theorem dX6_show_61 : decode cX6_show 61 = .ok (.iastore, 1) := by decide +kernel
theorem dX6_show_62 : decode cX6_show 62 = .ok (.iinc 4 1, 3) := by decide +kernel
theorem dX6_show_65 : decode cX6_show 65 = .ok (.goto 32, 3) := by decide +kernel
theorem dX6_show_68 : decode cX6_show 68 = .ok (.aload_n 2, 1) := by decide +kernel
theorem dX6_show_69 : decode cX6_show 69 = .ok (.getfield 23, 3) := by decide +kernel
theorem dX6_show_72 : decode cX6_show 72 = .ok (.getstatic 28, 3) := by decide +kernel
theorem dX6_show_75 : decode cX6_show 75 = .ok (.iload 5, 2) := by decide +kernel
theorem dX6_show_77 : decode cX6_show 77 = .ok (.iaload, 1) := by decide +kernel
theorem dX6_show_78 : decode cX6_show 78 = .ok (.getstatic 55, 3) := by decide +kernel
theorem dX6_show_81 : decode cX6_show 81 = .ok (.aload_n 0, 1) := by decide +kernel
theorem dX6_show_82 : decode cX6_show 82 = .ok (.getfield 20, 3) := by decide +kernel
theorem dX6_show_85 : decode cX6_show 85 = .ok (.iload 5, 2) := by decide +kernel
theorem dX6_show_87 : decode cX6_show 87 = .ok (.iload 4, 2) := by decide +kernel
theorem dX6_show_89 : decode cX6_show 89 = .ok (.isub, 1) := by decide +kernel
theorem dX6_show_90 : decode cX6_show 90 = .ok (.iconst 3, 1) := by decide +kernel
theorem dX6_show_91 : decode cX6_show 91 = .ok (.iand, 1) := by decide +kernel
theorem dX6_show_92 : decode cX6_show 92 = .ok (.iaload, 1) := by decide +kernel
theorem dX6_show_93 : decode cX6_show 93 = .ok (.iaload, 1) := by decide +kernel
theorem dX6_show_94 : decode cX6_show 94 = .ok (.iconst 1, 1) := by decide +kernel
theorem dX6_show_95 : decode cX6_show 95 = .ok (.ixor, 1) := by decide +kernel
theorem dX6_show_96 : decode cX6_show 96 = .ok (.iastore, 1) := by decide +kernel
theorem dX6_show_97 : decode cX6_show 97 = .ok (.iinc 5 1, 3) := by decide +kernel
theorem dX6_show_100 : decode cX6_show 100 = .ok (.goto (-73), 3) := by decide +kernel
theorem dX6_show_103 : decode cX6_show 103 = .ok (.return_, 1) := by decide +kernel
set_option maxRecDepth 20000 in
theorem ggX7_init_X7_reset : GoodIn wsX7_init wsX7_reset := goodIn_r _ [19, 4, 13, 14, 20, 21, 22, 23, 24, 25] (by decide +kernel) (by decide +kernel)
set_option maxRecDepth 20000 in
theorem gX7_init_X7_reset : GoodIn wsX7_init (wsV RX7 43 RX7 yX7_reset wsX7_reset) := goodIn_app (goodIn_of _ (by decide +kernel)) ggX7_init_X7_reset
theorem dX7_init_0 : decode cX7_init 0 = .ok (.aload_n 0, 1) := by decide +kernel
theorem dX7_init_1 : decode cX7_init 1 = .ok (.invokespecial 3, 3) := by decide +kernel
theorem dX7_init_4 : decode cX7_init 4 = .ok (.aload_n 0, 1) := by decide +kernel
theorem dX7_init_5 : decode cX7_init 5 = .ok (.iload_n 1, 1) := by decide +kernel
theorem dX7_init_6 : decode cX7_init 6 = .ok (.ifCond .eq 8, 3) := by decide +kernel
theorem dX7_init_9 : decode cX7_init 9 = .ok (.bipush 8, 2) := by decide +kernel
theorem dX7_init_11 : decode cX7_init 11 = .ok (.goto 5, 3) := by decide +kernel
theorem dX7_init_14 : decode cX7_init 14 = .ok (.bipush 12, 2) := by decide +kernel
theorem dX7_init_16 : decode cX7_init 16 = .ok (.putfield 9, 3) := by decide +kernel
theorem dX7_init_19 : decode cX7_init 19 = .ok (.aload_n 0, 1) := by decide +kernel
theorem dX7_init_20 : decode cX7_init 20 = .ok (.iload_n 1, 1) := by decide +kernel
theorem dX7_init_21 : decode cX7_init 21 = .ok (.ifCond .eq 7, 3) := by decide +kernel
theorem dX7_init_24 : decode cX7_init 24 = .ok (.iconst 3, 1) := by decide +kernel
theorem dX7_init_25 : decode cX7_init 25 = .ok (.goto 4, 3) := by decide +kernel
theorem dX7_init_28 : decode cX7_init 28 = .ok (.iconst 2, 1) := by decide +kernel
theorem dX7_init_29 : decode cX7_init 29 = .ok (.putfield 15, 3) := by decide +kernel
theorem dX7_init_32 : decode cX7_init 32 = .ok (.aload_n 0, 1) := by decide +kernel
theorem dX7_init_33 : decode cX7_init 33 = .ok (.iload_n 1, 1) := by decide +kernel
theorem dX7_init_34 : decode cX7_init 34 = .ok (.ifCond .eq 9, 3) := by decide +kernel
theorem dX7_init_37 : decode cX7_init 37 = .ok (.getstatic 18, 3) := by decide +kernel
theorem dX7_init_40 : decode cX7_init 40 = .ok (.goto 6, 3) := by decide +kernel
theorem dX7_init_43 : decode cX7_init 43 = .ok (.getstatic 22, 3) := by decide +kernel
theorem dX7_init_46 : decode cX7_init 46 = .ok (.putfield 25, 3) := by decide +kernel
theorem dX7_init_49 : decode cX7_init 49 = .ok (.aload_n 0, 1) := by decide +kernel
theorem dX7_init_50 : decode cX7_init 50 = .ok (.iload_n 1, 1) := by decide +kernel
theorem dX7_init_51 : decode cX7_init 51 = .ok (.ifCond .eq 9, 3) := by decide +kernel
theorem dX7_init_54 : decode cX7_init 54 = .ok (.getstatic 28, 3) := by decide +kernel
theorem dX7_init_57 : decode cX7_init 57 = .ok (.goto 6, 3) := by decide +kernel
theorem dX7_init_60 : decode cX7_init 60 = .ok (.getstatic 31, 3) := by decide +kernel
theorem dX7_init_63 : decode cX7_init 63 = .ok (.putfield 34, 3) := by decide +kernel
theorem dX7_init_66 : decode cX7_init 66 = .ok (.aload_n 0, 1) := by decide +kernel
theorem dX7_init_67 : decode cX7_init 67 = .ok (.aload_n 0, 1) := by decide +kernel
theorem dX7_init_68 : decode cX7_init 68 = .ok (.getfield 9, 3) := by decide +kernel
theorem dX7_init_71 : decode cX7_init 71 = .ok (.newarray .int, 2) := by decide +kernel
theorem dX7_init_73 : decode cX7_init 73 = .ok (.putfield 37, 3) := by decide +kernel
theorem dX7_init_76 : decode cX7_init 76 = .ok (.aload_n 0, 1) := by decide +kernel
theorem dX7_init_77 : decode cX7_init 77 = .ok (.aload_n 0, 1) := by decide +kernel
theorem dX7_init_78 : decode cX7_init 78 = .ok (.getfield 9, 3) := by decide +kernel
theorem dX7_init_81 : decode cX7_init 81 = .ok (.newarray .int, 2) := by decide +kernel
theorem dX7_init_83 : decode cX7_init 83 = .ok (.putfield 40, 3) := by decide +kernel
theorem dX7_init_86 : decode cX7_init 86 = .ok (.aload_n 0, 1) := by decide +kernel
theorem dX7_init_87 : decode cX7_init 87 = .ok (.invokevirtual 43, 3) := by decide +kernel
theorem dX7_init_90 : decode cX7_init 90 = .ok (.return_, 1) := by decide +kernel
theorem dX7_reset_0 : decode cX7_reset 0 = .ok (.iconst 0, 1) := by decide +kernel
theorem dX7_reset_1 : decode cX7_reset 1 = .ok (.istore_n 1, 1) := by decide +kernel
theorem dX7_reset_2 : decode cX7_reset 2 = .ok (.iload_n 1, 1) := by decide +kernel
theorem dX7_reset_3 : decode cX7_reset 3 = .ok (.aload_n 0, 1) := by decide +kernel
theorem dX7_reset_4 : decode cX7_reset 4 = .ok (.getfield 9, 3) := by decide +kernel
theorem dX7_reset_7 : decode cX7_reset 7 = .ok (.if_icmp .ge 23, 3) := by decide +kernel
theorem dX7_reset_10 : decode cX7_reset 10 = .ok (.aload_n 0, 1) := by decide +kernel
theorem dX7_reset_11 : decode cX7_reset 11 = .ok (.getfield 37, 3) := by decide +kernel
theorem dX7_reset_14 : decode cX7_reset 14 = .ok (.iload_n 1, 1) := by decide +kernel
theorem dX7_reset_15 : decode cX7_reset 15 = .ok (.iload_n 1, 1) := by decide +kernel
theorem dX7_reset_16 : decode cX7_reset 16 = .ok (.iastore, 1) := by decide +kernel
theorem dX7_reset_17 : decode cX7_reset 17 = .ok (.aload_n 0, 1) := by decide +kernel
theorem dX7_reset_18 : decode cX7_reset 18 = .ok (.getfield 40, 3) := by decide +kernel
theorem dX7_reset_21 : decode cX7_reset 21 = .ok (.iload_n 1, 1) := by decide +kernel
theorem dX7_reset_22 : decode cX7_reset 22 = .ok (.iconst 0, 1) := by decide +kernel
theorem dX7_reset_23 : decode cX7_reset 23 = .ok (.iastore, 1) := by decide +kernel
theorem dX7_reset_24 : decode cX7_reset 24 = .ok (.iinc 1 1, 3) := by decide +kernel
theorem dX7_reset_27 : decode cX7_reset 27 = .ok (.goto (-25), 3) := by decide +kernel
theorem dX7_reset_30 : decode cX7_reset 30 = .ok (.return_, 1) := by decide +kernel
theorem dX7_copyFrom_0 : decode cX7_copyFrom 0 = .ok (.iconst 0, 1) := by decide +kernel
theorem dX7_copyFrom_1 : decode cX7_copyFrom 1 = .ok (.istore_n 2, 1) := by decide +kernel
theorem dX7_copyFrom_2 : decode cX7_copyFrom 2 = .ok (.iload_n 2, 1) := by decide +kernel
theorem dX7_copyFrom_3 : decode cX7_copyFrom 3 = .ok (.aload_n 0, 1) := by decide +kernel
theorem dX7_copyFrom_4 : decode cX7_copyFrom 4 = .ok (.getfield 9, 3) := by decide +kernel
theorem dX7_copyFrom_7 : decode cX7_copyFrom 7 = .ok (.if_icmp .ge 41, 3) := by decide +kernel
theorem dX7_copyFrom_10 : decode cX7_copyFrom 10 = .ok (.iload_n 2, 1) := by decide +kernel
theorem dX7_copyFrom_11 : decode cX7_copyFrom 11 = .ok (.aload_n 1, 1) := by decide +kernel
theorem dX7_copyFrom_12 : decode cX7_copyFrom 12 = .ok (.getfield 9, 3) := by decide +kernel
theorem dX7_copyFrom_15 : decode cX7_copyFrom 15 = .ok (.if_icmp .ge 33, 3) := by decide +kernel
theorem dX7_copyFrom_18 : decode cX7_copyFrom 18 = .ok (.aload_n 0, 1) := by decide +kernel
theorem dX7_copyFrom_19 : decode cX7_copyFrom 19 = .ok (.getfield 37, 3) := by decide +kernel
theorem dX7_copyFrom_22 : decode cX7_copyFrom 22 = .ok (.iload_n 2, 1) := by decide +kernel
theorem dX7_copyFrom_23 : decode cX7_copyFrom 23 = .ok (.aload_n 1, 1) := by decide +kernel
theorem dX7_copyFrom_24 : decode cX7_copyFrom 24 = .ok (.getfield 37, 3) := by decide +kernel
theorem dX7_copyFrom_27 : decode cX7_copyFrom 27 = .ok (.iload_n 2, 1) := by decide +kernel
theorem dX7_copyFrom_28 : decode cX7_copyFrom 28 = .ok (.iaload, 1) := by decide +kernel
theorem dX7_copyFrom_29 : decode cX7_copyFrom 29 = .ok (.iastore, 1) := by decide +kernel
theorem dX7_copyFrom_30 : decode cX7_copyFrom 30 = .ok (.aload_n 0, 1) := by decide +kernel
theorem dX7_copyFrom_31 : decode cX7_copyFrom 31 = .ok (.getfield 40, 3) := by decide +kernel
theorem dX7_copyFrom_34 : decode cX7_copyFrom 34 = .ok (.iload_n 2, 1) := by decide +kernel
theorem dX7_copyFrom_35 : decode cX7_copyFrom 35 = .ok (.aload_n 1, 1) := by decide +kernel
theorem dX7_copyFrom_36 : decode cX7_copyFrom 36 = .ok (.getfield 40, 3) := by decide +kernel
theorem dX7_copyFrom_39 : decode cX7_copyFrom 39 = .ok (.iload_n 2, 1) := by decide +kernel
theorem dX7_copyFrom_40 : decode cX7_copyFrom 40 = .ok (.iaload, 1) := by decide +kernel
theorem dX7_copyFrom_41 : decode cX7_copyFrom 41 = .ok (.iastore, 1) := by decide +kernel
theorem dX7_copyFrom_42 : decode cX7_copyFrom 42 = .ok (.iinc 2 1, 3) := by decide +kernel
theorem dX7_copyFrom_45 : decode cX7_copyFrom 45 = .ok (.goto (-43), 3) := by decide +kernel
theorem dX7_copyFrom_48 : decode cX7_copyFrom 48 = .ok (.return_, 1) := by decide +kernel
set_option maxRecDepth 20000 in
theorem ggX7_put_X7_isNumber : GoodIn wsX7_put wsX7_isNumber := goodIn_r _ [8] (by decide +kernel) (by decide +kernel)
set_option maxRecDepth 20000 in
theorem gX7_put_X7_isNumber : GoodIn wsX7_put (va_wsS RX7 46 yX7_isNumber wsX7_isNumber) := goodIn_app (goodIn_of _ (by decide +kernel)) ggX7_put_X7_isNumber
theorem dX7_put_0 : decode cX7_put 0 = .ok (.iload_n 1, 1) := by decide +kernel
theorem dX7_put_1 : decode cX7_put 1 = .ok (.aload_n 0, 1) := by decide +kernel
theorem dX7_put_2 : decode cX7_put 2 = .ok (.getfield 9, 3) := by decide +kernel
theorem dX7_put_5 : decode cX7_put 5 = .ok (.invokestatic 46, 3) := by decide +kernel
theorem dX7_put_8 : decode cX7_put 8 = .ok (.ifCond .eq 25, 3) := by decide +kernel
theorem dX7_put_11 : decode cX7_put 11 = .ok (.iload_n 2, 1) := by decide +kernel
theorem dX7_put_12 : decode cX7_put 12 = .ok (.aload_n 0, 1) := by decide +kernel
theorem dX7_put_13 : decode cX7_put 13 = .ok (.getfield 9, 3) := by decide +kernel
theorem dX7_put_16 : decode cX7_put 16 = .ok (.invokestatic 46, 3) := by decide +kernel
theorem dX7_put_19 : decode cX7_put 19 = .ok (.ifCond .eq 14, 3) := by decide +kernel
theorem dX7_put_22 : decode cX7_put 22 = .ok (.iload_n 3, 1) := by decide +kernel
theorem dX7_put_23 : decode cX7_put 23 = .ok (.aload_n 0, 1) := by decide +kernel
theorem dX7_put_24 : decode cX7_put 24 = .ok (.getfield 15, 3) := by decide +kernel
theorem dX7_put_27 : decode cX7_put 27 = .ok (.invokestatic 46, 3) := by decide +kernel
theorem dX7_put_30 : decode cX7_put 30 = .ok (.ifCond .ne 5, 3) := by decide +kernel
theorem dX7_put_33 : decode cX7_put 33 = .ok (.iconst 0, 1) := by decide +kernel
theorem dX7_put_34 : decode cX7_put 34 = .ok (.ireturn, 1) := by decide +kernel
theorem dX7_put_35 : decode cX7_put 35 = .ok (.aload_n 0, 1) := by decide +kernel
theorem dX7_put_36 : decode cX7_put 36 = .ok (.getfield 37, 3) := by decide +kernel
theorem dX7_put_39 : decode cX7_put 39 = .ok (.iload_n 1, 1) := by decide +kernel
theorem dX7_put_40 : decode cX7_put 40 = .ok (.iload_n 2, 1) := by decide +kernel
theorem dX7_put_41 : decode cX7_put 41 = .ok (.iastore, 1) := by decide +kernel
theorem dX7_put_42 : decode cX7_put 42 = .ok (.aload_n 0, 1) := by decide +kernel
theorem dX7_put_43 : decode cX7_put 43 = .ok (.getfield 40, 3) := by decide +kernel
theorem dX7_put_46 : decode cX7_put 46 = .ok (.iload_n 1, 1) := by decide +kernel
theorem dX7_put_47 : decode cX7_put 47 = .ok (.iload_n 3, 1) := by decide +kernel
theorem dX7_put_48 : decode cX7_put 48 = .ok (.iastore, 1) := by decide +kernel
theorem dX7_put_49 : decode cX7_put 49 = .ok (.iconst 1, 1) := by decide +kernel
theorem dX7_put_50 : decode cX7_put 50 = .ok (.ireturn, 1) := by decide +kernel
set_option maxRecDepth 20000 in
theorem ggX7_describe_X7_isNumber : GoodIn wsX7_describe wsX7_isNumber := goodIn_r _ [8] (by decide +kernel) (by decide +kernel)
set_option maxRecDepth 20000 in
theorem gX7_describe_X7_isNumber : GoodIn wsX7_describe (va_wsS RX7 46 yX7_isNumber wsX7_isNumber) := goodIn_app (goodIn_of _ (by decide +kernel)) ggX7_describe_X7_isNumber
theorem dX7_describe_0 : decode cX7_describe 0 = .ok (.iload_n 1, 1) := by decide +kernel
theorem dX7_describe_1 : decode cX7_describe 1 = .ok (.aload_n 0, 1) := by decide +kernel
theorem dX7_describe_2 : decode cX7_describe 2 = .ok (.getfield 9, 3) := by decide +kernel
theorem dX7_describe_5 : decode cX7_describe 5 = .ok (.invokestatic 46, 3) := by decide +kernel
theorem dX7_describe_8 : decode cX7_describe 8 = .ok (.ifCond .eq 24, 3) := by decide +kernel
theorem dX7_describe_11 : decode cX7_describe 11 = .ok (.aload_n 0, 1) := by decide +kernel
theorem dX7_describe_12 : decode cX7_describe 12 = .ok (.getfield 15, 3) := by decide +kernel
theorem dX7_describe_15 : decode cX7_describe 15 = .ok (.aload_n 0, 1) := by decide +kernel
theorem dX7_describe_16 : decode cX7_describe 16 = .ok (.getfield 37, 3) := by decide +kernel
theorem dX7_describe_19 : decode cX7_describe 19 = .ok (.iload_n 1, 1) := by decide +kernel
theorem dX7_describe_20 : decode cX7_describe 20 = .ok (.iaload, 1) := by decide +kernel
theorem dX7_describe_21 : decode cX7_describe 21 = .ok (.imul, 1) := by decide +kernel
theorem dX7_describe_22 : decode cX7_describe 22 = .ok (.aload_n 0, 1) := by decide +kernel
theorem dX7_describe_23 : decode cX7_describe 23 = .ok (.getfield 40, 3) := by decide +kernel
theorem dX7_describe_26 : decode cX7_describe 26 = .ok (.iload_n 1, 1) := by decide +kernel
theorem dX7_describe_27 : decode cX7_describe 27 = .ok (.iaload, 1) := by decide +kernel
theorem dX7_describe_28 : decode cX7_describe 28 = .ok (.iadd, 1) := by decide +kernel
theorem dX7_describe_29 : decode cX7_describe 29 = .ok (.goto 4, 3) := by decide +kernel
theorem dX7_describe_32 : decode cX7_describe 32 = .ok (.iconst (-1), 1) := by decide +kernel
theorem dX7_describe_33 : decode cX7_describe 33 = .ok (.ireturn, 1) := by decide +kernel
theorem dX7_isNumber_0 : decode cX7_isNumber 0 = .ok (.iload_n 0, 1) := by decide +kernel
theorem dX7_isNumber_1 : decode cX7_isNumber 1 = .ok (.ifCond .lt 12, 3) := by decide +kernel
theorem dX7_isNumber_4 : decode cX7_isNumber 4 = .ok (.iload_n 0, 1) := by decide +kernel
theorem dX7_isNumber_5 : decode cX7_isNumber 5 = .ok (.iload_n 1, 1) := by decide +kernel
theorem dX7_isNumber_6 : decode cX7_isNumber 6 = .ok (.if_icmp .ge 7, 3) := by decide +kernel
theorem dX7_isNumber_9 : decode cX7_isNumber 9 = .ok (.iconst 1, 1) := by decide +kernel
theorem dX7_isNumber_10 : decode cX7_isNumber 10 = .ok (.goto 4, 3) := by decide +kernel
theorem dX7_isNumber_13 : decode cX7_isNumber 13 = .ok (.iconst 0, 1) := by decide +kernel
theorem dX7_isNumber_14 : decode cX7_isNumber 14 = .ok (.ireturn, 1) := by decide +kernel
theorem dX7_quarter_0 : decode cX7_quarter 0 = .ok (.iconst 4, 1) := by decide +kernel
theorem dX7_quarter_1 : decode cX7_quarter 1 = .ok (.iload_n 1, 1) := by decide +kernel
theorem dX7_quarter_2 : decode cX7_quarter 2 = .ok (.imul, 1) := by decide +kernel
theorem dX7_quarter_3 : decode cX7_quarter 3 = .ok (.istore_n 2, 1) := by decide +kernel
theorem dX7_quarter_4 : decode cX7_quarter 4 = .ok (.iload_n 2, 1) := by decide +kernel
theorem dX7_quarter_5 : decode cX7_quarter 5 = .ok (.iconst 3, 1) := by decide +kernel
theorem dX7_quarter_6 : decode cX7_quarter 6 = .ok (.iadd, 1) := by decide +kernel
theorem dX7_quarter_7 : decode cX7_quarter 7 = .ok (.istore_n 3, 1) := by decide +kernel
theorem dX7_quarter_8 : decode cX7_quarter 8 = .ok (.aload_n 0, 1) := by decide +kernel
theorem dX7_quarter_9 : decode cX7_quarter 9 = .ok (.getfield 37, 3) := by decide +kernel
theorem dX7_quarter_12 : decode cX7_quarter 12 = .ok (.aload_n 0, 1) := by decide +kernel
theorem dX7_quarter_13 : decode cX7_quarter 13 = .ok (.getfield 25, 3) := by decide +kernel
theorem dX7_quarter_16 : decode cX7_quarter 16 = .ok (.iload_n 3, 1) := by decide +kernel
theorem dX7_quarter_17 : decode cX7_quarter 17 = .ok (.iaload, 1) := by decide +kernel
theorem dX7_quarter_18 : decode cX7_quarter 18 = .ok (.iaload, 1) := by decide +kernel
theorem dX7_quarter_19 : decode cX7_quarter 19 = .ok (.istore 4, 2) := by decide +kernel
theorem dX7_quarter_21 : decode cX7_quarter 21 = .ok (.aload_n 0, 1) := by decide +kernel
theorem dX7_quarter_22 : decode cX7_quarter 22 = .ok (.getfield 40, 3) := by decide +kernel
theorem dX7_quarter_25 : decode cX7_quarter 25 = .ok (.aload_n 0, 1) := by decide +kernel
theorem dX7_quarter_26 : decode cX7_quarter 26 = .ok (.getfield 25, 3) := by decide +kernel
theorem dX7_quarter_29 : decode cX7_quarter 29 = .ok (.iload_n 3, 1) := by decide +kernel
theorem dX7_quarter_30 : decode cX7_quarter 30 = .ok (.iaload, 1) := by decide +kernel
theorem dX7_quarter_31 : decode cX7_quarter 31 = .ok (.iaload, 1) := by decide +kernel
theorem dX7_quarter_32 : decode cX7_quarter 32 = .ok (.istore 5, 2) := by decide +kernel
theorem dX7_quarter_34 : decode cX7_quarter 34 = .ok (.iload_n 3, 1) := by decide +kernel
theorem dX7_quarter_35 : decode cX7_quarter 35 = .ok (.istore 6, 2) := by decide +kernel
theorem dX7_quarter_37 : decode cX7_quarter 37 = .ok (.iload 6, 2) := by decide +kernel
theorem dX7_quarter_39 : decode cX7_quarter 39 = .ok (.iload_n 2, 1) := by decide +kernel
theorem dX7_quarter_40 : decode cX7_quarter 40 = .ok (.if_icmp .le 76, 3) := by decide +kernel
theorem dX7_quarter_43 : decode cX7_quarter 43 = .ok (.aload_n 0, 1) := by decide +kernel
theorem dX7_quarter_44 : decode cX7_quarter 44 = .ok (.getfield 37, 3) := by decide +kernel
theorem dX7_quarter_47 : decode cX7_quarter 47 = .ok (.aload_n 0, 1) := by decide +kernel
theorem dX7_quarter_48 : decode cX7_quarter 48 = .ok (.getfield 25, 3) := by decide +kernel
theorem dX7_quarter_51 : decode cX7_quarter 51 = .ok (.iload 6, 2) := by decide +kernel
theorem dX7_quarter_53 : decode cX7_quarter 53 = .ok (.iaload, 1) := by decide +kernel
theorem dX7_quarter_54 : decode cX7_quarter 54 = .ok (.aload_n 0, 1) := by decide +kernel
theorem dX7_quarter_55 : decode cX7_quarter 55 = .ok (.getfield 37, 3) := by decide +kernel
theorem dX7_quarter_58 : decode cX7_quarter 58 = .ok (.aload_n 0, 1) := by decide +kernel
theorem dX7_quarter_59 : decode cX7_quarter 59 = .ok (.getfield 25, 3) := by decide +kernel
theorem dX7_quarter_62 : decode cX7_quarter 62 = .ok (.iload 6, 2) := by decide +kernel
theorem dX7_quarter_64 : decode cX7_quarter 64 = .ok (.iconst 1, 1) := by decide +kernel
theorem dX7_quarter_65 : decode cX7_quarter 65 = .ok (.isub, 1) := by decide +kernel
theorem dX7_quarter_66 : decode cX7_quarter 66 = .ok (.iaload, 1) := by decide +kernel
theorem dX7_quarter_67 : decode cX7_quarter 67 = .ok (.iaload, 1) := by decide +kernel
theorem dX7_quarter_68 : decode cX7_quarter 68 = .ok (.iastore, 1) := by decide +kernel
theorem dX7_quarter_69 : decode cX7_quarter 69 = .ok (.aload_n 0, 1) := by decide +kernel
theorem dX7_quarter_70 : decode cX7_quarter 70 = .ok (.getfield 40, 3) := by decide +kernel
theorem dX7_quarter_73 : decode cX7_quarter 73 = .ok (.aload_n 0, 1) := by decide +kernel
theorem dX7_quarter_74 : decode cX7_quarter 74 = .ok (.getfield 25, 3) := by decide +kernel
theorem dX7_quarter_77 : decode cX7_quarter 77 = .ok (.iload 6, 2) := by decide +kernel
theorem dX7_quarter_79 : decode cX7_quarter 79 = .ok (.iaload, 1) := by decide +kernel
theorem dX7_quarter_80 : decode cX7_quarter 80 = .ok (.aload_n 0, 1) := by decide +kernel
theorem dX7_quarter_81 : decode cX7_quarter 81 = .ok (.getfield 40, 3) := by decide +kernel
theorem dX7_quarter_84 : decode cX7_quarter 84 = .ok (.aload_n 0, 1) := by decide +kernel
theorem dX7_quarter_85 : decode cX7_quarter 85 = .ok (.getfield 25, 3) := by decide +kernel
theorem dX7_quarter_88 : decode cX7_quarter 88 = .ok (.iload 6, 2) := by decide +kernel
theorem dX7_quarter_90 : decode cX7_quarter 90 = .ok (.iconst 1, 1) := by decide +kernel
theorem dX7_quarter_91 : decode cX7_quarter 91 = .ok (.isub, 1) := by decide +kernel
theorem dX7_quarter_92 : decode cX7_quarter 92 = .ok (.iaload, 1) := by decide +kernel
theorem dX7_quarter_93 : decode cX7_quarter 93 = .ok (.iaload, 1) := by decide +kernel
theorem dX7_quarter_94 : decode cX7_quarter 94 = .ok (.aload_n 0, 1) := by decide +kernel
theorem dX7_quarter_95 : decode cX7_quarter 95 = .ok (.getfield 34, 3) := by decide +kernel
theorem dX7_quarter_98 : decode cX7_quarter 98 = .ok (.iload 6, 2) := by decide +kernel
theorem dX7_quarter_100 : decode cX7_quarter 100 = .ok (.iconst 1, 1) := by decide +kernel
theorem dX7_quarter_101 : decode cX7_quarter 101 = .ok (.isub, 1) := by decide +kernel
theorem dX7_quarter_102 : decode cX7_quarter 102 = .ok (.iaload, 1) := by decide +kernel
theorem dX7_quarter_103 : decode cX7_quarter 103 = .ok (.iadd, 1) := by decide +kernel
theorem dX7_quarter_104 : decode cX7_quarter 104 = .ok (.aload_n 0, 1) := by decide +kernel
theorem dX7_quarter_105 : decode cX7_quarter 105 = .ok (.getfield 15, 3) := by decide +kernel
theorem dX7_quarter_108 : decode cX7_quarter 108 = .ok (.irem, 1) := by decide +kernel
theorem dX7_quarter_109 : decode cX7_quarter 109 = .ok (.iastore, 1) := by decide +kernel
theorem dX7_quarter_110 : decode cX7_quarter 110 = .ok (.iinc 6 (-1), 3) := by decide +kernel
theorem dX7_quarter_113 : decode cX7_quarter 113 = .ok (.goto (-76), 3) := by decide +kernel
theorem dX7_quarter_116 : decode cX7_quarter 116 = .ok (.aload_n 0, 1) := by decide +kernel
theorem dX7_quarter_117 : decode cX7_quarter 117 = .ok (.getfield 37, 3) := by decide +kernel
theorem dX7_quarter_120 : decode cX7_quarter 120 = .ok (.aload_n 0, 1) := by decide +kernel
theorem dX7_quarter_121 : decode cX7_quarter 121 = .ok (.getfield 25, 3) := by decide +kernel
theorem dX7_quarter_124 : decode cX7_quarter 124 = .ok (.iload_n 2, 1) := by decide +kernel
theorem dX7_quarter_125 : decode cX7_quarter 125 = .ok (.iaload, 1) := by decide +kernel
theorem dX7_quarter_126 : decode cX7_quarter 126 = .ok (.iload 4, 2) := by decide +kernel
theorem dX7_quarter_128 : decode cX7_quarter 128 = .ok (.iastore, 1) := by decide +kernel
theorem dX7_quarter_129 : decode cX7_quarter 129 = .ok (.aload_n 0, 1) := by decide +kernel
theorem dX7_quarter_130 : decode cX7_quarter 130 = .ok (.getfield 40, 3) := by decide +kernel
theorem dX7_quarter_133 : decode cX7_quarter 133 = .ok (.aload_n 0, 1) := by decide +kernel
theorem dX7_quarter_134 : decode cX7_quarter 134 = .ok (.getfield 25, 3) := by decide +kernel
theorem dX7_quarter_137 : decode cX7_quarter 137 = .ok (.iload_n 2, 1) := by decide +kernel
theorem dX7_quarter_138 : decode cX7_quarter 138 = .ok (.iaload, 1) := by decide +kernel
theorem dX7_quarter_139 : decode cX7_quarter 139 = .ok (.iload 5, 2) := by decide +kernel
theorem dX7_quarter_141 : decode cX7_quarter 141 = .ok (.aload_n 0, 1) := by decide +kernel
theorem dX7_quarter_142 : decode cX7_quarter 142 = .ok (.getfield 34, 3) := by decide +kernel
theorem dX7_quarter_145 : decode cX7_quarter 145 = .ok (.iload_n 3, 1) := by decide +kernel
theorem dX7_quarter_146 : decode cX7_quarter 146 = .ok (.iaload, 1) := by decide +kernel
end
section
theorem dX7_quarter_147 : decode cX7_quarter 147 = .ok (.iadd, 1) := by decide +kernel
theorem dX7_quarter_148 : decode cX7_quarter 148 = .ok (.aload_n 0, 1) := by decide +kernel
theorem dX7_quarter_149 : decode cX7_quarter 149 = .ok (.getfield 15, 3) := by decide +kernel
theorem dX7_quarter_152 : decode cX7_quarter 152 = .ok (.irem, 1) := by decide +kernel
theorem dX7_quarter_153 : decode cX7_quarter 153 = .ok (.iastore, 1) := by decide +kernel
theorem dX7_quarter_154 : decode cX7_quarter 154 = .ok (.return_, 1) := by decide +kernel
theorem dX7_atHome_0 : decode cX7_atHome 0 = .ok (.iconst 0, 1) := by decide +kernel
theorem dX7_atHome_1 : decode cX7_atHome 1 = .ok (.istore_n 1, 1) := by decide +kernel
theorem dX7_atHome_2 : decode cX7_atHome 2 = .ok (.iload_n 1, 1) := by decide +kernel
theorem dX7_atHome_3 : decode cX7_atHome 3 = .ok (.aload_n 0, 1) := by decide +kernel
theorem dX7_atHome_4 : decode cX7_atHome 4 = .ok (.getfield 9, 3) := by decide +kernel
theorem dX7_atHome_7 : decode cX7_atHome 7 = .ok (.if_icmp .ge 30, 3) := by decide +kernel
theorem dX7_atHome_10 : decode cX7_atHome 10 = .ok (.aload_n 0, 1) := by decide +kernel
theorem dX7_atHome_11 : decode cX7_atHome 11 = .ok (.getfield 37, 3) := by decide +kernel
theorem dX7_atHome_14 : decode cX7_atHome 14 = .ok (.iload_n 1, 1) := by decide +kernel
theorem dX7_atHome_15 : decode cX7_atHome 15 = .ok (.iaload, 1) := by decide +kernel
theorem dX7_atHome_16 : decode cX7_atHome 16 = .ok (.iload_n 1, 1) := by decide +kernel
theorem dX7_atHome_17 : decode cX7_atHome 17 = .ok (.if_icmp .ne 12, 3) := by decide +kernel
theorem dX7_atHome_20 : decode cX7_atHome 20 = .ok (.aload_n 0, 1) := by decide +kernel
theorem dX7_atHome_21 : decode cX7_atHome 21 = .ok (.getfield 40, 3) := by decide +kernel
theorem dX7_atHome_24 : decode cX7_atHome 24 = .ok (.iload_n 1, 1) := by decide +kernel
theorem dX7_atHome_25 : decode cX7_atHome 25 = .ok (.iaload, 1) := by decide +kernel
theorem dX7_atHome_26 : decode cX7_atHome 26 = .ok (.ifCond .eq 5, 3) := by decide +kernel
theorem dX7_atHome_29 : decode cX7_atHome 29 = .ok (.iconst 0, 1) := by decide +kernel
theorem dX7_atHome_30 : decode cX7_atHome 30 = .ok (.ireturn, 1) := by decide +kernel
theorem dX7_atHome_31 : decode cX7_atHome 31 = .ok (.iinc 1 1, 3) := by decide +kernel
theorem dX7_atHome_34 : decode cX7_atHome 34 = .ok (.goto (-32), 3) := by decide +kernel
theorem dX7_atHome_37 : decode cX7_atHome 37 = .ok (.iconst 1, 1) := by decide +kernel
theorem dX7_atHome_38 : decode cX7_atHome 38 = .ok (.ireturn, 1) := by decide +kernel
theorem dX7_allThere_0 : decode cX7_allThere 0 = .ok (.iconst 0, 1) := by decide +kernel
theorem dX7_allThere_1 : decode cX7_allThere 1 = .ok (.istore_n 1, 1) := by decide +kernel
theorem dX7_allThere_2 : decode cX7_allThere 2 = .ok (.iconst 0, 1) := by decide +kernel
theorem dX7_allThere_3 : decode cX7_allThere 3 = .ok (.istore_n 2, 1) := by decide +kernel
theorem dX7_allThere_4 : decode cX7_allThere 4 = .ok (.iload_n 2, 1) := by decide +kernel
theorem dX7_allThere_5 : decode cX7_allThere 5 = .ok (.aload_n 0, 1) := by decide +kernel
theorem dX7_allThere_6 : decode cX7_allThere 6 = .ok (.getfield 9, 3) := by decide +kernel
theorem dX7_allThere_9 : decode cX7_allThere 9 = .ok (.if_icmp .ge 20, 3) := by decide +kernel
theorem dX7_allThere_12 : decode cX7_allThere 12 = .ok (.iload_n 1, 1) := by decide +kernel
theorem dX7_allThere_13 : decode cX7_allThere 13 = .ok (.iconst 1, 1) := by decide +kernel
theorem dX7_allThere_14 : decode cX7_allThere 14 = .ok (.aload_n 0, 1) := by decide +kernel
theorem dX7_allThere_15 : decode cX7_allThere 15 = .ok (.getfield 37, 3) := by decide +kernel
theorem dX7_allThere_18 : decode cX7_allThere 18 = .ok (.iload_n 2, 1) := by decide +kernel
theorem dX7_allThere_19 : decode cX7_allThere 19 = .ok (.iaload, 1) := by decide +kernel
theorem dX7_allThere_20 : decode cX7_allThere 20 = .ok (.ishl, 1) := by decide +kernel
theorem dX7_allThere_21 : decode cX7_allThere 21 = .ok (.ior, 1) := by decide +kernel
theorem dX7_allThere_22 : decode cX7_allThere 22 = .ok (.istore_n 1, 1) := by decide +kernel
theorem dX7_allThere_23 : decode cX7_allThere 23 = .ok (.iinc 2 1, 3) := by decide +kernel
theorem dX7_allThere_26 : decode cX7_allThere 26 = .ok (.goto (-22), 3) := by decide +kernel
theorem dX7_allThere_29 : decode cX7_allThere 29 = .ok (.iload_n 1, 1) := by decide +kernel
theorem dX7_allThere_30 : decode cX7_allThere 30 = .ok (.iconst 1, 1) := by decide +kernel
theorem dX7_allThere_31 : decode cX7_allThere 31 = .ok (.aload_n 0, 1) := by decide +kernel
theorem dX7_allThere_32 : decode cX7_allThere 32 = .ok (.getfield 9, 3) := by decide +kernel
theorem dX7_allThere_35 : decode cX7_allThere 35 = .ok (.ishl, 1) := by decide +kernel
theorem dX7_allThere_36 : decode cX7_allThere 36 = .ok (.iconst 1, 1) := by decide +kernel
theorem dX7_allThere_37 : decode cX7_allThere 37 = .ok (.isub, 1) := by decide +kernel
theorem dX7_allThere_38 : decode cX7_allThere 38 = .ok (.if_icmp .ne 7, 3) := by decide +kernel
theorem dX7_allThere_41 : decode cX7_allThere 41 = .ok (.iconst 1, 1) := by decide +kernel
theorem dX7_allThere_42 : decode cX7_allThere 42 = .ok (.goto 4, 3) := by decide +kernel
theorem dX7_allThere_45 : decode cX7_allThere 45 = .ok (.iconst 0, 1) := by decide +kernel
theorem dX7_allThere_46 : decode cX7_allThere 46 = .ok (.ireturn, 1) := by decide +kernel
theorem dX7_marksCancel_0 : decode cX7_marksCancel 0 = .ok (.iconst 0, 1) := by decide +kernel
theorem dX7_marksCancel_1 : decode cX7_marksCancel 1 = .ok (.istore_n 1, 1) := by decide +kernel
theorem dX7_marksCancel_2 : decode cX7_marksCancel 2 = .ok (.iconst 0, 1) := by decide +kernel
theorem dX7_marksCancel_3 : decode cX7_marksCancel 3 = .ok (.istore_n 2, 1) := by decide +kernel
theorem dX7_marksCancel_4 : decode cX7_marksCancel 4 = .ok (.iload_n 2, 1) := by decide +kernel
theorem dX7_marksCancel_5 : decode cX7_marksCancel 5 = .ok (.aload_n 0, 1) := by decide +kernel
theorem dX7_marksCancel_6 : decode cX7_marksCancel 6 = .ok (.getfield 9, 3) := by decide +kernel
theorem dX7_marksCancel_9 : decode cX7_marksCancel 9 = .ok (.if_icmp .ge 18, 3) := by decide +kernel
theorem dX7_marksCancel_12 : decode cX7_marksCancel 12 = .ok (.iload_n 1, 1) := by decide +kernel
theorem dX7_marksCancel_13 : decode cX7_marksCancel 13 = .ok (.aload_n 0, 1) := by decide +kernel
theorem dX7_marksCancel_14 : decode cX7_marksCancel 14 = .ok (.getfield 40, 3) := by decide +kernel
theorem dX7_marksCancel_17 : decode cX7_marksCancel 17 = .ok (.iload_n 2, 1) := by decide +kernel
theorem dX7_marksCancel_18 : decode cX7_marksCancel 18 = .ok (.iaload, 1) := by decide +kernel
theorem dX7_marksCancel_19 : decode cX7_marksCancel 19 = .ok (.iadd, 1) := by decide +kernel
theorem dX7_marksCancel_20 : decode cX7_marksCancel 20 = .ok (.istore_n 1, 1) := by decide +kernel
theorem dX7_marksCancel_21 : decode cX7_marksCancel 21 = .ok (.iinc 2 1, 3) := by decide +kernel
theorem dX7_marksCancel_24 : decode cX7_marksCancel 24 = .ok (.goto (-20), 3) := by decide +kernel
theorem dX7_marksCancel_27 : decode cX7_marksCancel 27 = .ok (.iload_n 1, 1) := by decide +kernel
theorem dX7_marksCancel_28 : decode cX7_marksCancel 28 = .ok (.aload_n 0, 1) := by decide +kernel
theorem dX7_marksCancel_29 : decode cX7_marksCancel 29 = .ok (.getfield 15, 3) := by decide +kernel
theorem dX7_marksCancel_32 : decode cX7_marksCancel 32 = .ok (.irem, 1) := by decide +kernel
theorem dX7_marksCancel_33 : decode cX7_marksCancel 33 = .ok (.ifCond .ne 7, 3) := by decide +kernel
theorem dX7_marksCancel_36 : decode cX7_marksCancel 36 = .ok (.iconst 1, 1) := by decide +kernel
theorem dX7_marksCancel_37 : decode cX7_marksCancel 37 = .ok (.goto 4, 3) := by decide +kernel
theorem dX7_marksCancel_40 : decode cX7_marksCancel 40 = .ok (.iconst 0, 1) := by decide +kernel
theorem dX7_marksCancel_41 : decode cX7_marksCancel 41 = .ok (.ireturn, 1) := by decide +kernel
theorem dX7_oddlySwapped_0 : decode cX7_oddlySwapped 0 = .ok (.iconst 0, 1) := by decide +kernel
theorem dX7_oddlySwapped_1 : decode cX7_oddlySwapped 1 = .ok (.istore_n 1, 1) := by decide +kernel
theorem dX7_oddlySwapped_2 : decode cX7_oddlySwapped 2 = .ok (.iconst 0, 1) := by decide +kernel
theorem dX7_oddlySwapped_3 : decode cX7_oddlySwapped 3 = .ok (.istore_n 2, 1) := by decide +kernel
theorem dX7_oddlySwapped_4 : decode cX7_oddlySwapped 4 = .ok (.iload_n 2, 1) := by decide +kernel
theorem dX7_oddlySwapped_5 : decode cX7_oddlySwapped 5 = .ok (.aload_n 0, 1) := by decide +kernel
theorem dX7_oddlySwapped_6 : decode cX7_oddlySwapped 6 = .ok (.getfield 9, 3) := by decide +kernel
theorem dX7_oddlySwapped_9 : decode cX7_oddlySwapped 9 = .ok (.if_icmp .ge 52, 3) := by decide +kernel
theorem dX7_oddlySwapped_12 : decode cX7_oddlySwapped 12 = .ok (.iload_n 2, 1) := by decide +kernel
theorem dX7_oddlySwapped_13 : decode cX7_oddlySwapped 13 = .ok (.iconst 1, 1) := by decide +kernel
theorem dX7_oddlySwapped_14 : decode cX7_oddlySwapped 14 = .ok (.iadd, 1) := by decide +kernel
theorem dX7_oddlySwapped_15 : decode cX7_oddlySwapped 15 = .ok (.istore_n 3, 1) := by decide +kernel
theorem dX7_oddlySwapped_16 : decode cX7_oddlySwapped 16 = .ok (.iload_n 3, 1) := by decide +kernel
theorem dX7_oddlySwapped_17 : decode cX7_oddlySwapped 17 = .ok (.aload_n 0, 1) := by decide +kernel
theorem dX7_oddlySwapped_18 : decode cX7_oddlySwapped 18 = .ok (.getfield 9, 3) := by decide +kernel
theorem dX7_oddlySwapped_21 : decode cX7_oddlySwapped 21 = .ok (.if_icmp .ge 34, 3) := by decide +kernel
theorem dX7_oddlySwapped_24 : decode cX7_oddlySwapped 24 = .ok (.aload_n 0, 1) := by decide +kernel
theorem dX7_oddlySwapped_25 : decode cX7_oddlySwapped 25 = .ok (.getfield 37, 3) := by decide +kernel
theorem dX7_oddlySwapped_28 : decode cX7_oddlySwapped 28 = .ok (.iload_n 2, 1) := by decide +kernel
theorem dX7_oddlySwapped_29 : decode cX7_oddlySwapped 29 = .ok (.iaload, 1) := by decide +kernel
theorem dX7_oddlySwapped_30 : decode cX7_oddlySwapped 30 = .ok (.aload_n 0, 1) := by decide +kernel
theorem dX7_oddlySwapped_31 : decode cX7_oddlySwapped 31 = .ok (.getfield 37, 3) := by decide +kernel
theorem dX7_oddlySwapped_34 : decode cX7_oddlySwapped 34 = .ok (.iload_n 3, 1) := by decide +kernel
theorem dX7_oddlySwapped_35 : decode cX7_oddlySwapped 35 = .ok (.iaload, 1) := by decide +kernel
theorem dX7_oddlySwapped_36 : decode cX7_oddlySwapped 36 = .ok (.if_icmp .le 13, 3) := by decide +kernel
theorem dX7_oddlySwapped_39 : decode cX7_oddlySwapped 39 = .ok (.iload_n 1, 1) := by decide +kernel
theorem dX7_oddlySwapped_40 : decode cX7_oddlySwapped 40 = .ok (.ifCond .ne 7, 3) := by decide +kernel
theorem dX7_oddlySwapped_43 : decode cX7_oddlySwapped 43 = .ok (.iconst 1, 1) := by decide +kernel
theorem dX7_oddlySwapped_44 : decode cX7_oddlySwapped 44 = .ok (.goto 4, 3) := by decide +kernel
theorem dX7_oddlySwapped_47 : decode cX7_oddlySwapped 47 = .ok (.iconst 0, 1) := by decide +kernel
theorem dX7_oddlySwapped_48 : decode cX7_oddlySwapped 48 = .ok (.istore_n 1, 1) := by decide +kernel
theorem dX7_oddlySwapped_49 : decode cX7_oddlySwapped 49 = .ok (.iinc 3 1, 3) := by decide +kernel
theorem dX7_oddlySwapped_52 : decode cX7_oddlySwapped 52 = .ok (.goto (-36), 3) := by decide +kernel
theorem dX7_oddlySwapped_55 : decode cX7_oddlySwapped 55 = .ok (.iinc 2 1, 3) := by decide +kernel
theorem dX7_oddlySwapped_58 : decode cX7_oddlySwapped 58 = .ok (.goto (-54), 3) := by decide +kernel
theorem dX7_oddlySwapped_61 : decode cX7_oddlySwapped 61 = .ok (.iload_n 1, 1) := by decide +kernel
theorem dX7_oddlySwapped_62 : decode cX7_oddlySwapped 62 = .ok (.ireturn, 1) := by decide +kernel
set_option maxRecDepth 20000 in
theorem ggX8_init_X2_init : GoodIn wsX8_init wsX2_init := goodIn_r _ [6, 7, 8, 9, 10, 11, 17, 18, 19, 20, 21, 22, 23, 24, 25, 26, 27, 28, 29, 30, 31, 32, 33, 34, 12, 13, 14, 15, 16] (by decide +kernel) (by decide +kernel)
set_option maxRecDepth 20000 in
theorem gX8_init_X2_init : GoodIn wsX8_init (wsX2_init) := ggX8_init_X2_init
theorem dX8_init_0 : decode cX8_init 0 = .ok (.aload_n 0, 1) := by decide +kernel
theorem dX8_init_1 : decode cX8_init 1 = .ok (.iconst 0, 1) := by decide +kernel
theorem dX8_init_2 : decode cX8_init 2 = .ok (.iload_n 2, 1) := by decide +kernel
theorem dX8_init_3 : decode cX8_init 3 = .ok (.bipush 12, 2) := by decide +kernel
theorem dX8_init_5 : decode cX8_init 5 = .ok (.if_icmp .ne 9, 3) := by decide +kernel
theorem dX8_init_8 : decode cX8_init 8 = .ok (.sipush 495, 3) := by decide +kernel
theorem dX8_init_11 : decode cX8_init 11 = .ok (.goto 5, 3) := by decide +kernel
theorem dX8_init_14 : decode cX8_init 14 = .ok (.bipush 70, 2) := by decide +kernel
theorem dX8_init_16 : decode cX8_init 16 = .ok (.invokespecial 5, 3) := by decide +kernel
theorem dX8_init_19 : decode cX8_init 19 = .ok (.aload_n 0, 1) := by decide +kernel
theorem dX8_init_20 : decode cX8_init 20 = .ok (.iload_n 1, 1) := by decide +kernel
theorem dX8_init_21 : decode cX8_init 21 = .ok (.putfield 11, 3) := by decide +kernel
theorem dX8_init_24 : decode cX8_init 24 = .ok (.aload_n 0, 1) := by decide +kernel
theorem dX8_init_25 : decode cX8_init 25 = .ok (.iload_n 2, 1) := by decide +kernel
theorem dX8_init_26 : decode cX8_init 26 = .ok (.putfield 17, 3) := by decide +kernel
theorem dX8_init_29 : decode cX8_init 29 = .ok (.return_, 1) := by decide +kernel
set_option maxRecDepth 20000 in
theorem ggX8_read_X8_position : GoodIn wsX8_read wsX8_position := goodIn_r _ [8, 3, 1, 14, 15, 16, 17, 18] (by decide +kernel) (by decide +kernel)
set_option maxRecDepth 20000 in
theorem gX8_read_X8_position : GoodIn wsX8_read (wsV RX8 26 RX8 yX8_position wsX8_position) := goodIn_app (goodIn_of _ (by decide +kernel)) ggX8_read_X8_position
set_option maxRecDepth 20000 in
theorem ggX8_read_X4_ofSet : GoodIn wsX8_read wsX4_ofSet := goodIn_r _ [12, 13] (by decide +kernel) (by decide +kernel)
set_option maxRecDepth 20000 in
theorem gX8_read_X4_ofSet : GoodIn wsX8_read (va_wsS RX8 30 yX4_ofSet wsX4_ofSet) := goodIn_app (goodIn_of _ (by decide +kernel)) ggX8_read_X4_ofSet
theorem dX8_read_0 : decode cX8_read 0 = .ok (.iconst 0, 1) := by decide +kernel
theorem dX8_read_1 : decode cX8_read 1 = .ok (.istore_n 2, 1) := by decide +kernel
theorem dX8_read_2 : decode cX8_read 2 = .ok (.iconst 0, 1) := by decide +kernel
theorem dX8_read_3 : decode cX8_read 3 = .ok (.istore_n 3, 1) := by decide +kernel
theorem dX8_read_4 : decode cX8_read 4 = .ok (.iload_n 3, 1) := by decide +kernel
theorem dX8_read_5 : decode cX8_read 5 = .ok (.aload_n 0, 1) := by decide +kernel
theorem dX8_read_6 : decode cX8_read 6 = .ok (.getfield 17, 3) := by decide +kernel
theorem dX8_read_9 : decode cX8_read 9 = .ok (.if_icmp .ge 34, 3) := by decide +kernel
theorem dX8_read_12 : decode cX8_read 12 = .ok (.aload_n 1, 1) := by decide +kernel
theorem dX8_read_13 : decode cX8_read 13 = .ok (.getfield 20, 3) := by decide +kernel
theorem dX8_read_16 : decode cX8_read 16 = .ok (.aload_n 0, 1) := by decide +kernel
theorem dX8_read_17 : decode cX8_read 17 = .ok (.iload_n 3, 1) := by decide +kernel
theorem dX8_read_18 : decode cX8_read 18 = .ok (.invokevirtual 26, 3) := by decide +kernel
theorem dX8_read_21 : decode cX8_read 21 = .ok (.iaload, 1) := by decide +kernel
theorem dX8_read_22 : decode cX8_read 22 = .ok (.iconst 4, 1) := by decide +kernel
theorem dX8_read_23 : decode cX8_read 23 = .ok (.idiv, 1) := by decide +kernel
theorem dX8_read_24 : decode cX8_read 24 = .ok (.aload_n 0, 1) := by decide +kernel
theorem dX8_read_25 : decode cX8_read 25 = .ok (.getfield 11, 3) := by decide +kernel
theorem dX8_read_28 : decode cX8_read 28 = .ok (.if_icmp .ne 9, 3) := by decide +kernel
theorem dX8_read_31 : decode cX8_read 31 = .ok (.iload_n 2, 1) := by decide +kernel
theorem dX8_read_32 : decode cX8_read 32 = .ok (.iconst 1, 1) := by decide +kernel
theorem dX8_read_33 : decode cX8_read 33 = .ok (.iload_n 3, 1) := by decide +kernel
theorem dX8_read_34 : decode cX8_read 34 = .ok (.ishl, 1) := by decide +kernel
theorem dX8_read_35 : decode cX8_read 35 = .ok (.ior, 1) := by decide +kernel
theorem dX8_read_36 : decode cX8_read 36 = .ok (.istore_n 2, 1) := by decide +kernel
theorem dX8_read_37 : decode cX8_read 37 = .ok (.iinc 3 1, 3) := by decide +kernel
theorem dX8_read_40 : decode cX8_read 40 = .ok (.goto (-36), 3) := by decide +kernel
theorem dX8_read_43 : decode cX8_read 43 = .ok (.iload_n 2, 1) := by decide +kernel
theorem dX8_read_44 : decode cX8_read 44 = .ok (.aload_n 0, 1) := by decide +kernel
theorem dX8_read_45 : decode cX8_read 45 = .ok (.getfield 17, 3) := by decide +kernel
theorem dX8_read_48 : decode cX8_read 48 = .ok (.invokestatic 30, 3) := by decide +kernel
theorem dX8_read_51 : decode cX8_read 51 = .ok (.ireturn, 1) := by decide +kernel
set_option maxRecDepth 20000 in
theorem ggX8_show_X4_toSet : GoodIn wsX8_show wsX4_toSet := goodIn_r _ [7, 8] (by decide +kernel) (by decide +kernel)
set_option maxRecDepth 20000 in
theorem gX8_show_X4_toSet : GoodIn wsX8_show (va_wsS RX8 34 yX4_toSet wsX4_toSet) := goodIn_app (goodIn_of _ (by decide +kernel)) ggX8_show_X4_toSet
set_option maxRecDepth 20000 in
theorem ggX8_show_X8_position : GoodIn wsX8_show wsX8_position := goodIn_r _ [13, 2, 1, 14, 15, 16, 17, 18] (by decide +kernel) (by decide +kernel)
set_option maxRecDepth 20000 in
theorem gX8_show_X8_position : GoodIn wsX8_show (wsV RX8 26 RX8 yX8_position wsX8_position) := goodIn_app (goodIn_of _ (by decide +kernel)) ggX8_show_X8_position
theorem dX8_show_0 : decode cX8_show 0 = .ok (.iload_n 1, 1) := by decide +kernel
theorem dX8_show_1 : decode cX8_show 1 = .ok (.aload_n 0, 1) := by decide +kernel
theorem dX8_show_2 : decode cX8_show 2 = .ok (.getfield 17, 3) := by decide +kernel
theorem dX8_show_5 : decode cX8_show 5 = .ok (.invokestatic 34, 3) := by decide +kernel
theorem dX8_show_8 : decode cX8_show 8 = .ok (.istore_n 3, 1) := by decide +kernel
theorem dX8_show_9 : decode cX8_show 9 = .ok (.iconst 4, 1) := by decide +kernel
theorem dX8_show_10 : decode cX8_show 10 = .ok (.aload_n 0, 1) := by decide +kernel
theorem dX8_show_11 : decode cX8_show 11 = .ok (.getfield 11, 3) := by decide +kernel
theorem dX8_show_14 : decode cX8_show 14 = .ok (.iconst 1, 1) := by decide +kernel
theorem dX8_show_15 : decode cX8_show 15 = .ok (.iadd, 1) := by decide +kernel
theorem dX8_show_16 : decode cX8_show 16 = .ok (.iconst 3, 1) := by decide +kernel
theorem dX8_show_17 : decode cX8_show 17 = .ok (.irem, 1) := by decide +kernel
theorem dX8_show_18 : decode cX8_show 18 = .ok (.imul, 1) := by decide +kernel
theorem dX8_show_19 : decode cX8_show 19 = .ok (.istore 4, 2) := by decide +kernel
theorem dX8_show_21 : decode cX8_show 21 = .ok (.iconst 0, 1) := by decide +kernel
theorem dX8_show_22 : decode cX8_show 22 = .ok (.istore 5, 2) := by decide +kernel
theorem dX8_show_24 : decode cX8_show 24 = .ok (.iload 5, 2) := by decide +kernel
theorem dX8_show_26 : decode cX8_show 26 = .ok (.aload_n 0, 1) := by decide +kernel
theorem dX8_show_27 : decode cX8_show 27 = .ok (.getfield 17, 3) := by decide +kernel
theorem dX8_show_30 : decode cX8_show 30 = .ok (.if_icmp .ge 40, 3) := by decide +kernel
theorem dX8_show_33 : decode cX8_show 33 = .ok (.aload_n 2, 1) := by decide +kernel
theorem dX8_show_34 : decode cX8_show 34 = .ok (.getfield 20, 3) := by decide +kernel
theorem dX8_show_37 : decode cX8_show 37 = .ok (.aload_n 0, 1) := by decide +kernel
theorem dX8_show_38 : decode cX8_show 38 = .ok (.iload 5, 2) := by decide +kernel
theorem dX8_show_40 : decode cX8_show 40 = .ok (.invokevirtual 26, 3) := by decide +kernel
theorem dX8_show_43 : decode cX8_show 43 = .ok (.iload_n 3, 1) := by decide +kernel
theorem dX8_show_44 : decode cX8_show 44 = .ok (.iload 5, 2) := by decide +kernel
theorem dX8_show_46 : decode cX8_show 46 = .ok (.ishr, 1) := by decide +kernel
theorem dX8_show_47 : decode cX8_show 47 = .ok (.iconst 1, 1) := by decide +kernel
theorem dX8_show_48 : decode cX8_show 48 = .ok (.iand, 1) := by decide +kernel
theorem dX8_show_49 : decode cX8_show 49 = .ok (.ifCond .eq 12, 3) := by decide +kernel
theorem dX8_show_52 : decode cX8_show 52 = .ok (.iconst 4, 1) := by decide +kernel
theorem dX8_show_53 : decode cX8_show 53 = .ok (.aload_n 0, 1) := by decide +kernel
theorem dX8_show_54 : decode cX8_show 54 = .ok (.getfield 11, 3) := by decide +kernel
theorem dX8_show_57 : decode cX8_show 57 = .ok (.imul, 1) := by decide +kernel
theorem dX8_show_58 : decode cX8_show 58 = .ok (.goto 5, 3) := by decide +kernel
theorem dX8_show_61 : decode cX8_show 61 = .ok (.iload 4, 2) := by decide +kernel
theorem dX8_show_63 : decode cX8_show 63 = .ok (.iastore, 1) := by decide +kernel
theorem dX8_show_64 : decode cX8_show 64 = .ok (.iinc 5 1, 3) := by decide +kernel
theorem dX8_show_67 : decode cX8_show 67 = .ok (.goto (-43), 3) := by decide +kernel
theorem dX8_show_70 : decode cX8_show 70 = .ok (.return_, 1) := by decide +kernel
theorem dX8_position_0 : decode cX8_position 0 = .ok (.iconst 4, 1) := by decide +kernel
theorem dX8_position_1 : decode cX8_position 1 = .ok (.aload_n 0, 1) := by decide +kernel
theorem dX8_position_2 : decode cX8_position 2 = .ok (.getfield 11, 3) := by decide +kernel
theorem dX8_position_5 : decode cX8_position 5 = .ok (.imul, 1) := by decide +kernel
theorem dX8_position_6 : decode cX8_position 6 = .ok (.iload_n 1, 1) := by decide +kernel
theorem dX8_position_7 : decode cX8_position 7 = .ok (.iadd, 1) := by decide +kernel
theorem dX8_position_8 : decode cX8_position 8 = .ok (.aload_n 0, 1) := by decide +kernel
theorem dX8_position_9 : decode cX8_position 9 = .ok (.getfield 17, 3) := by decide +kernel
theorem dX8_position_12 : decode cX8_position 12 = .ok (.irem, 1) := by decide +kernel
theorem dX8_position_13 : decode cX8_position 13 = .ok (.ireturn, 1) := by decide +kernel
theorem dX9_init_0 : decode cX9_init 0 = .ok (.aload_n 0, 1) := by decide +kernel
theorem dX9_init_1 : decode cX9_init 1 = .ok (.invokespecial 3, 3) := by decide +kernel
theorem dX9_init_4 : decode cX9_init 4 = .ok (.aload_n 0, 1) := by decide +kernel
theorem dX9_init_5 : decode cX9_init 5 = .ok (.iload_n 1, 1) := by decide +kernel
theorem dX9_init_6 : decode cX9_init 6 = .ok (.putfield 9, 3) := by decide +kernel
theorem dX9_init_9 : decode cX9_init 9 = .ok (.aload_n 0, 1) := by decide +kernel
theorem dX9_init_10 : decode cX9_init 10 = .ok (.iload_n 2, 1) := by decide +kernel
theorem dX9_init_11 : decode cX9_init 11 = .ok (.putfield 15, 3) := by decide +kernel
theorem dX9_init_14 : decode cX9_init 14 = .ok (.aload_n 0, 1) := by decide +kernel
theorem dX9_init_15 : decode cX9_init 15 = .ok (.iload_n 3, 1) := by decide +kernel
theorem dX9_init_16 : decode cX9_init 16 = .ok (.putfield 18, 3) := by decide +kernel
theorem dX9_init_19 : decode cX9_init 19 = .ok (.aload_n 0, 1) := by decide +kernel
theorem dX9_init_20 : decode cX9_init 20 = .ok (.aload 4, 2) := by decide +kernel
theorem dX9_init_22 : decode cX9_init 22 = .ok (.putfield 21, 3) := by decide +kernel
theorem dX9_init_25 : decode cX9_init 25 = .ok (.aload_n 0, 1) := by decide +kernel
theorem dX9_init_26 : decode cX9_init 26 = .ok (.bipush 16, 2) := by decide +kernel
theorem dX9_init_28 : decode cX9_init 28 = .ok (.aload 4, 2) := by decide +kernel
theorem dX9_init_30 : decode cX9_init 30 = .ok (.arraylength, 1) := by decide +kernel
theorem dX9_init_31 : decode cX9_init 31 = .ok (.imul, 1) := by decide +kernel
theorem dX9_init_32 : decode cX9_init 32 = .ok (.newarray .int, 2) := by decide +kernel
theorem dX9_init_34 : decode cX9_init 34 = .ok (.putfield 25, 3) := by decide +kernel
theorem dX9_init_37 : decode cX9_init 37 = .ok (.aload_n 0, 1) := by decide +kernel
theorem dX9_init_38 : decode cX9_init 38 = .ok (.bipush 15, 2) := by decide +kernel
theorem dX9_init_40 : decode cX9_init 40 = .ok (.newarray .int, 2) := by decide +kernel
theorem dX9_init_42 : decode cX9_init 42 = .ok (.putfield 29, 3) := by decide +kernel
theorem dX9_init_45 : decode cX9_init 45 = .ok (.return_, 1) := by decide +kernel
set_option maxRecDepth 20000 in
theorem ggX9_find_X9_readStart : GoodIn wsX9_find wsX9_readStart := goodIn_r _ [6, 7, 8, 9, 10, 11, 12, 13, 14, 15, 16, 17, 18, 19, 20, 21, 22, 23, 24, 25, 26, 27, 28, 29, 30, 31, 32, 33, 34, 35, 36, 37, 38, 39, 40, 41, 42, 43, 44, 45, 46, 47, 48, 49, 50, 51, 52, 53, 54, 55, 56, 57, 58, 59, 60, 61, 62, 63, 64, 65, 66, 67, 68, 69, 70, 71, 72, 73, 74, 75, 76, 77, 78, 79, 80, 81, 82, 83, 84, 85, 5, 86, 87, 219, 220, 221, 222, 223, 224, 225, 226, 227, 228, 229, 230, 231, 232, 233, 234, 235, 236, 237, 238, 239, 240, 241, 242, 243, 244, 245, 246, 247, 248, 249, 250, 251, 252, 253, 254, 255, 256] (by decide +kernel) (by decide +kernel)
set_option maxRecDepth 20000 in
theorem gX9_find_X9_readStart : GoodIn wsX9_find (wsV RX9 32 RX9 yX9_readStart wsX9_readStart) := goodIn_app (goodIn_of _ (by decide +kernel)) ggX9_find_X9_readStart
set_option maxRecDepth 20000 in
theorem ggX9_find_X9_prepare : GoodIn wsX9_find wsX9_prepare := goodIn_r _ [91, 7, 92, 87, 93, 1, 94, 95, 96, 97, 13, 98, 99, 100, 101, 15, 102, 103, 104, 105, 106, 107, 108, 109, 110, 111, 112, 113, 114, 115, 116, 117, 118, 119, 120, 121, 122, 123, 124, 125, 126, 127, 128, 22, 129, 130, 131, 24, 132, 133, 27, 134, 135, 136, 31, 137, 33, 34, 35, 138, 139, 38, 140, 141, 40, 41, 142, 143, 144, 45, 145, 146, 47, 48, 147, 148, 149, 150, 66, 151, 152, 153, 69, 154, 71, 73, 72, 155, 74, 75, 76, 77, 156, 157, 158, 159, 18, 19, 20, 21, 23, 25, 26, 28, 29, 30, 32, 36, 37, 39, 42, 43, 44, 46, 49, 50, 51, 52, 53, 54, 55, 56, 57, 58, 59, 60, 61, 62, 63, 64, 65, 67, 68, 70, 78, 160, 161, 162, 163, 164, 165, 166, 5, 167, 168, 169, 170, 171, 172, 173, 174, 175, 176, 177, 178, 179, 180, 181, 182, 183, 184, 185, 8, 186, 187, 188, 189, 190, 191, 192, 193, 194, 195, 196, 197, 198, 199, 200, 201, 202, 83, 84, 85, 86, 219, 220, 221, 222, 223, 224, 225, 226, 227, 228, 229, 230, 231, 232, 233, 234, 235, 236, 237, 238, 239, 240, 241, 242, 243, 244, 245, 246, 247, 248, 251, 252, 253, 254, 255, 256] (by decide +kernel) (by decide +kernel)
set_option maxRecDepth 20000 in
theorem gX9_find_X9_prepare : GoodIn wsX9_find (wsV RX9 40 RX9 yX9_prepare wsX9_prepare) := goodIn_app (goodIn_of _ (by decide +kernel)) ggX9_find_X9_prepare
set_option maxRecDepth 20000 in
theorem ggX9_find_X9_stateAt : GoodIn wsX9_find wsX9_stateAt := goodIn_r _ [86, 7, 87, 8, 219, 220, 221, 222, 223, 224, 225, 226, 227, 228, 229, 230, 231, 232, 233, 234, 235, 236, 237, 238, 239, 240, 241, 242, 243, 244, 245, 246, 247, 248] (by decide +kernel) (by decide +kernel)
set_option maxRecDepth 20000 in
theorem gX9_find_X9_stateAt : GoodIn wsX9_find (wsV RX9 43 RX9 yX9_stateAt wsX9_stateAt) := goodIn_app (goodIn_of _ (by decide +kernel)) ggX9_find_X9_stateAt
set_option maxRecDepth 20000 in
theorem ggX9_find_X9_turnsToGoal : GoodIn wsX9_find wsX9_turnsToGoal := goodIn_r _ [206, 177, 178, 179, 180, 5, 181, 1, 219, 220, 221, 222, 223, 224, 225] (by decide +kernel) (by decide +kernel)
set_option maxRecDepth 20000 in
theorem gX9_find_X9_turnsToGoal : GoodIn wsX9_find (wsV RX9 47 RX9 yX9_turnsToGoal wsX9_turnsToGoal) := goodIn_app (goodIn_of _ (by decide +kernel)) ggX9_find_X9_turnsToGoal
set_option maxRecDepth 20000 in
theorem ggX9_find_X9_dive : GoodIn wsX9_find wsX9_dive := goodIn_r _ [210, 211, 212, 213, 5, 214, 186, 187, 188, 189, 7, 8, 190, 191, 192, 193, 194, 195, 196, 197, 92, 198, 199, 200, 201, 202, 83, 84, 85, 86, 87, 203, 204, 205, 206, 177, 178, 179, 180, 181, 1, 215, 216, 217, 218, 207, 208, 209, 219, 220, 221, 222, 223, 224, 225, 226, 227, 228, 229, 230, 231, 232, 233, 234, 235, 236, 237, 238, 239, 240, 241, 242, 243, 244, 245, 246, 247, 248] (by decide +kernel) (by decide +kernel)
set_option maxRecDepth 20000 in
theorem gX9_find_X9_dive : GoodIn wsX9_find (wsV RX9 50 RX9 yX9_dive wsX9_dive) := goodIn_app (goodIn_of _ (by decide +kernel)) ggX9_find_X9_dive
theorem dX9_find_0 : decode cX9_find 0 = .ok (.aload_n 0, 1) := by decide +kernel
theorem dX9_find_1 : decode cX9_find 1 = .ok (.aload_n 1, 1) := by decide +kernel
theorem dX9_find_2 : decode cX9_find 2 = .ok (.invokevirtual 32, 3) := by decide +kernel
theorem dX9_find_5 : decode cX9_find 5 = .ok (.ifCond .ne 5, 3) := by decide +kernel
theorem dX9_find_8 : decode cX9_find 8 = .ok (.iconst 0, 1) := by decide +kernel
theorem dX9_find_9 : decode cX9_find 9 = .ok (.ireturn, 1) := by decide +kernel
theorem dX9_find_10 : decode cX9_find 10 = .ok (.aload_n 0, 1) := by decide +kernel
theorem dX9_find_11 : decode cX9_find 11 = .ok (.getfield 36, 3) := by decide +kernel
theorem dX9_find_14 : decode cX9_find 14 = .ok (.ifnonnull 13, 3) := by decide +kernel
theorem dX9_find_17 : decode cX9_find 17 = .ok (.aload_n 0, 1) := by decide +kernel
theorem dX9_find_18 : decode cX9_find 18 = .ok (.invokevirtual 40, 3) := by decide +kernel
theorem dX9_find_21 : decode cX9_find 21 = .ok (.aload_n 0, 1) := by decide +kernel
theorem dX9_find_22 : decode cX9_find 22 = .ok (.aload_n 1, 1) := by decide +kernel
theorem dX9_find_23 : decode cX9_find 23 = .ok (.invokevirtual 32, 3) := by decide +kernel
theorem dX9_find_26 : decode cX9_find 26 = .ok (.pop, 1) := by decide +kernel
theorem dX9_find_27 : decode cX9_find 27 = .ok (.aload_n 0, 1) := by decide +kernel
theorem dX9_find_28 : decode cX9_find 28 = .ok (.aload_n 0, 1) := by decide +kernel
theorem dX9_find_29 : decode cX9_find 29 = .ok (.iconst 0, 1) := by decide +kernel
theorem dX9_find_30 : decode cX9_find 30 = .ok (.invokevirtual 43, 3) := by decide +kernel
theorem dX9_find_33 : decode cX9_find 33 = .ok (.invokevirtual 47, 3) := by decide +kernel
theorem dX9_find_36 : decode cX9_find 36 = .ok (.istore_n 2, 1) := by decide +kernel
theorem dX9_find_37 : decode cX9_find 37 = .ok (.iload_n 2, 1) := by decide +kernel
theorem dX9_find_38 : decode cX9_find 38 = .ok (.istore_n 3, 1) := by decide +kernel
theorem dX9_find_39 : decode cX9_find 39 = .ok (.iload_n 3, 1) := by decide +kernel
theorem dX9_find_40 : decode cX9_find 40 = .ok (.bipush 15, 2) := by decide +kernel
theorem dX9_find_42 : decode cX9_find 42 = .ok (.if_icmp .gt 21, 3) := by decide +kernel
theorem dX9_find_45 : decode cX9_find 45 = .ok (.aload_n 0, 1) := by decide +kernel
theorem dX9_find_46 : decode cX9_find 46 = .ok (.iconst 0, 1) := by decide +kernel
theorem dX9_find_47 : decode cX9_find 47 = .ok (.iload_n 3, 1) := by decide +kernel
theorem dX9_find_48 : decode cX9_find 48 = .ok (.iconst (-1), 1) := by decide +kernel
theorem dX9_find_49 : decode cX9_find 49 = .ok (.invokevirtual 50, 3) := by decide +kernel
theorem dX9_find_52 : decode cX9_find 52 = .ok (.ifCond .eq 5, 3) := by decide +kernel
theorem dX9_find_55 : decode cX9_find 55 = .ok (.iload_n 3, 1) := by decide +kernel
theorem dX9_find_56 : decode cX9_find 56 = .ok (.ireturn, 1) := by decide +kernel
theorem dX9_find_57 : decode cX9_find 57 = .ok (.iinc 3 1, 3) := by decide +kernel
theorem dX9_find_60 : decode cX9_find 60 = .ok (.goto (-21), 3) := by decide +kernel
theorem dX9_find_63 : decode cX9_find 63 = .ok (.iconst 0, 1) := by decide +kernel
theorem dX9_find_64 : decode cX9_find 64 = .ok (.ireturn, 1) := by decide +kernel
set_option maxRecDepth 20000 in
theorem ggX9_readStart_X2_readFrom : GoodIn wsX9_readStart wsX2_readFrom := goodIn_r _ [8, 9, 10, 11, 12, 13, 14, 15, 16, 17, 18, 19, 20, 21, 22, 23, 24, 25, 26, 27, 28, 29, 30, 31, 32, 33, 34, 35, 36, 37, 38, 39, 40, 41, 42, 43, 44, 45, 46, 47, 48, 49, 50, 51, 52, 53, 54, 55, 56, 57, 58, 59, 60, 61, 62, 63, 64, 65, 66, 67, 68, 69, 70, 71, 72, 90, 91, 92, 93, 94, 95, 96, 97, 98, 99, 100, 101, 102, 103, 104, 105, 106, 107, 108, 109, 110, 111, 112, 113, 114, 115, 116, 117, 118, 119, 120] (by decide +kernel) (by decide +kernel)
set_option maxRecDepth 20000 in
theorem gX9_readStart_X2_readFrom_u54X0 : GoodIn wsX9_readStart (va_wsU RX9 54 RX0 "StageCube$Feature" ⟨"StageCube$Feature", "readFrom", "(LStageCube$Cube;)I"⟩ yX2_readFrom wsX2_readFrom) := goodIn_app (goodIn_of _ (by decide +kernel)) ggX9_readStart_X2_readFrom
set_option maxRecDepth 20000 in
theorem gX9_readStart_X2_readFrom_u54X3 : GoodIn wsX9_readStart (va_wsU RX9 54 RX3 "StageCube$Feature" ⟨"StageCube$Feature", "readFrom", "(LStageCube$Cube;)I"⟩ yX2_readFrom wsX2_readFrom) := goodIn_app (goodIn_of _ (by decide +kernel)) ggX9_readStart_X2_readFrom
set_option maxRecDepth 20000 in
theorem gX9_readStart_X2_readFrom_u54X5 : GoodIn wsX9_readStart (va_wsU RX9 54 RX5 "StageCube$Feature" ⟨"StageCube$Feature", "readFrom", "(LStageCube$Cube;)I"⟩ yX2_readFrom wsX2_readFrom) := goodIn_app (goodIn_of _ (by decide +kernel)) ggX9_readStart_X2_readFrom
set_option maxRecDepth 20000 in
theorem gX9_readStart_X2_readFrom_u54X6 : GoodIn wsX9_readStart (va_wsU RX9 54 RX6 "StageCube$Feature" ⟨"StageCube$Feature", "readFrom", "(LStageCube$Cube;)I"⟩ yX2_readFrom wsX2_readFrom) := goodIn_app (goodIn_of _ (by decide +kernel)) ggX9_readStart_X2_readFrom
set_option maxRecDepth 20000 in
theorem gX9_readStart_X2_readFrom_u54X8 : GoodIn wsX9_readStart (va_wsU RX9 54 RX8 "StageCube$Feature" ⟨"StageCube$Feature", "readFrom", "(LStageCube$Cube;)I"⟩ yX2_readFrom wsX2_readFrom) := goodIn_app (goodIn_of _ (by decide +kernel)) ggX9_readStart_X2_readFrom
set_option maxRecDepth 20000 in
theorem ggX9_readStart_X9_stateAt : GoodIn wsX9_readStart wsX9_stateAt := goodIn_r _ [81, 1, 82, 2, 83, 84, 85, 86, 87, 88, 89, 90, 91, 92, 93, 94, 95, 96, 97, 98, 99, 100, 101, 102, 103, 104, 105, 106, 107, 108, 109, 110, 111, 112] (by decide +kernel) (by decide +kernel)
set_option maxRecDepth 20000 in
theorem gX9_readStart_X9_stateAt : GoodIn wsX9_readStart (wsV RX9 43 RX9 yX9_stateAt wsX9_stateAt) := goodIn_app (goodIn_of _ (by decide +kernel)) ggX9_readStart_X9_stateAt
theorem dX9_readStart_0 : decode cX9_readStart 0 = .ok (.iconst 0, 1) := by decide +kernel
theorem dX9_readStart_1 : decode cX9_readStart 1 = .ok (.istore_n 2, 1) := by decide +kernel
theorem dX9_readStart_2 : decode cX9_readStart 2 = .ok (.iload_n 2, 1) := by decide +kernel
theorem dX9_readStart_3 : decode cX9_readStart 3 = .ok (.aload_n 0, 1) := by decide +kernel
theorem dX9_readStart_4 : decode cX9_readStart 4 = .ok (.getfield 21, 3) := by decide +kernel
theorem dX9_readStart_7 : decode cX9_readStart 7 = .ok (.arraylength, 1) := by decide +kernel
theorem dX9_readStart_8 : decode cX9_readStart 8 = .ok (.if_icmp .ge 25, 3) := by decide +kernel
theorem dX9_readStart_11 : decode cX9_readStart 11 = .ok (.aload_n 0, 1) := by decide +kernel
theorem dX9_readStart_12 : decode cX9_readStart 12 = .ok (.getfield 25, 3) := by decide +kernel
theorem dX9_readStart_15 : decode cX9_readStart 15 = .ok (.iload_n 2, 1) := by decide +kernel
theorem dX9_readStart_16 : decode cX9_readStart 16 = .ok (.aload_n 0, 1) := by decide +kernel
theorem dX9_readStart_17 : decode cX9_readStart 17 = .ok (.getfield 21, 3) := by decide +kernel
theorem dX9_readStart_20 : decode cX9_readStart 20 = .ok (.iload_n 2, 1) := by decide +kernel
theorem dX9_readStart_21 : decode cX9_readStart 21 = .ok (.aaload, 1) := by decide +kernel
theorem dX9_readStart_22 : decode cX9_readStart 22 = .ok (.aload_n 1, 1) := by decide +kernel
theorem dX9_readStart_23 : decode cX9_readStart 23 = .ok (.invokevirtual 54, 3) := by decide +kernel
theorem dX9_readStart_26 : decode cX9_readStart 26 = .ok (.iastore, 1) := by decide +kernel
theorem dX9_readStart_27 : decode cX9_readStart 27 = .ok (.iinc 2 1, 3) := by decide +kernel
theorem dX9_readStart_30 : decode cX9_readStart 30 = .ok (.goto (-28), 3) := by decide +kernel
theorem dX9_readStart_33 : decode cX9_readStart 33 = .ok (.aload_n 0, 1) := by decide +kernel
theorem dX9_readStart_34 : decode cX9_readStart 34 = .ok (.iconst 0, 1) := by decide +kernel
theorem dX9_readStart_35 : decode cX9_readStart 35 = .ok (.invokevirtual 43, 3) := by decide +kernel
theorem dX9_readStart_38 : decode cX9_readStart 38 = .ok (.ireturn, 1) := by decide +kernel
set_option maxRecDepth 20000 in
theorem ggX9_dive_X9_isNeedless : GoodIn wsX9_dive wsX9_isNeedless := goodIn_r _ [5] (by decide +kernel) (by decide +kernel)
set_option maxRecDepth 20000 in
theorem gX9_dive_X9_isNeedless : GoodIn wsX9_dive (va_wsS RX9 59 yX9_isNeedless wsX9_isNeedless) := goodIn_app (goodIn_of _ (by decide +kernel)) ggX9_dive_X9_isNeedless
set_option maxRecDepth 20000 in
theorem ggX9_dive_X9_copyDown : GoodIn wsX9_dive wsX9_copyDown := goodIn_r _ [9, 10, 11, 12, 13, 14, 15, 48, 49, 50, 51, 52, 53, 54] (by decide +kernel) (by decide +kernel)
set_option maxRecDepth 20000 in
theorem gX9_dive_X9_copyDown : GoodIn wsX9_dive (wsV RX9 63 RX9 yX9_copyDown wsX9_copyDown) := goodIn_app (goodIn_of _ (by decide +kernel)) ggX9_dive_X9_copyDown
set_option maxRecDepth 20000 in
theorem ggX9_dive_X9_turnsOf : GoodIn wsX9_dive wsX9_turnsOf := goodIn_r _ [19, 20, 48, 49, 50, 51, 52, 53, 54] (by decide +kernel) (by decide +kernel)
set_option maxRecDepth 20000 in
theorem gX9_dive_X9_turnsOf : GoodIn wsX9_dive (wsV RX9 67 RX9 yX9_turnsOf wsX9_turnsOf) := goodIn_app (goodIn_of _ (by decide +kernel)) ggX9_dive_X9_turnsOf
set_option maxRecDepth 20000 in
theorem ggX9_dive_X9_advance : GoodIn wsX9_dive wsX9_advance := goodIn_r _ [24, 10, 11, 25, 48, 49, 50, 51, 52, 53, 54, 55, 56, 57, 58, 59, 60, 61, 62, 63, 64, 65, 66, 67, 68, 69, 70, 71, 72, 73, 74, 75, 76, 77] (by decide +kernel) (by decide +kernel)
set_option maxRecDepth 20000 in
theorem gX9_dive_X9_advance : GoodIn wsX9_dive (wsV RX9 70 RX9 yX9_advance wsX9_advance) := goodIn_app (goodIn_of _ (by decide +kernel)) ggX9_dive_X9_advance
set_option maxRecDepth 20000 in
theorem ggX9_dive_X9_stateAt : GoodIn wsX9_dive wsX9_stateAt := goodIn_r _ [29, 10, 30, 11, 48, 49, 50, 51, 52, 53, 54, 55, 56, 57, 58, 59, 60, 61, 62, 63, 64, 65, 66, 67, 68, 69, 70, 71, 72, 73, 74, 75, 76, 77] (by decide +kernel) (by decide +kernel)
set_option maxRecDepth 20000 in
theorem gX9_dive_X9_stateAt : GoodIn wsX9_dive (wsV RX9 43 RX9 yX9_stateAt wsX9_stateAt) := goodIn_app (goodIn_of _ (by decide +kernel)) ggX9_dive_X9_stateAt
set_option maxRecDepth 20000 in
theorem ggX9_dive_X9_turnsToGoal : GoodIn wsX9_dive wsX9_turnsToGoal := goodIn_r _ [34, 35, 36, 37, 38, 4, 39, 40, 48, 49, 50, 51, 52, 53, 54] (by decide +kernel) (by decide +kernel)
set_option maxRecDepth 20000 in
theorem gX9_dive_X9_turnsToGoal : GoodIn wsX9_dive (wsV RX9 47 RX9 yX9_turnsToGoal wsX9_turnsToGoal) := goodIn_app (goodIn_of _ (by decide +kernel)) ggX9_dive_X9_turnsToGoal
set_option maxRecDepth 20000 in
theorem ggX9_dive_X9_firstTurnOf : GoodIn wsX9_dive wsX9_firstTurnOf := goodIn_r _ [44, 20, 48, 49, 50, 51, 52, 53, 54] (by decide +kernel) (by decide +kernel)
set_option maxRecDepth 20000 in
theorem gX9_dive_X9_firstTurnOf : GoodIn wsX9_dive (wsV RX9 74 RX9 yX9_firstTurnOf wsX9_firstTurnOf) := goodIn_app (goodIn_of _ (by decide +kernel)) ggX9_dive_X9_firstTurnOf
set_option maxRecDepth 20000 in
theorem ggX9_dive_X9_dive : GoodIn wsX9_dive wsX9_dive := goodIn_r _ [0, 1, 2, 3, 4, 5, 6, 7, 8, 9, 10, 11, 12, 13, 14, 15, 16, 17, 18, 19, 20, 21, 22, 23, 24, 25, 26, 27, 28, 29, 30, 31, 32, 33, 34, 35, 36, 37, 38, 39, 40, 41, 42, 43, 44, 45, 46, 47, 48, 49, 50, 51, 52, 53, 54, 55, 56, 57, 58, 59, 60, 61, 62, 63, 64, 65, 66, 67, 68, 69, 70, 71, 72, 73, 74, 75, 76, 77] (by decide +kernel) (by decide +kernel)
set_option maxRecDepth 20000 in
theorem gX9_dive_X9_dive : GoodIn wsX9_dive (wsV RX9 50 RX9 yX9_dive wsX9_dive) := goodIn_app (goodIn_of _ (by decide +kernel)) ggX9_dive_X9_dive
theorem dX9_dive_0 : decode cX9_dive 0 = .ok (.iload_n 2, 1) := by decide +kernel
theorem dX9_dive_1 : decode cX9_dive 1 = .ok (.ifCond .eq 9, 3) := by decide +kernel
theorem dX9_dive_4 : decode cX9_dive 4 = .ok (.iload_n 1, 1) := by decide +kernel
theorem dX9_dive_5 : decode cX9_dive 5 = .ok (.bipush 15, 2) := by decide +kernel
theorem dX9_dive_7 : decode cX9_dive 7 = .ok (.if_icmp .lt 13, 3) := by decide +kernel
theorem dX9_dive_10 : decode cX9_dive 10 = .ok (.iload_n 2, 1) := by decide +kernel
theorem dX9_dive_11 : decode cX9_dive 11 = .ok (.ifCond .ne 7, 3) := by decide +kernel
theorem dX9_dive_14 : decode cX9_dive 14 = .ok (.iconst 1, 1) := by decide +kernel
theorem dX9_dive_15 : decode cX9_dive 15 = .ok (.goto 4, 3) := by decide +kernel
theorem dX9_dive_18 : decode cX9_dive 18 = .ok (.iconst 0, 1) := by decide +kernel
theorem dX9_dive_19 : decode cX9_dive 19 = .ok (.ireturn, 1) := by decide +kernel
theorem dX9_dive_20 : decode cX9_dive 20 = .ok (.iconst 0, 1) := by decide +kernel
theorem dX9_dive_21 : decode cX9_dive 21 = .ok (.istore 4, 2) := by decide +kernel
theorem dX9_dive_23 : decode cX9_dive 23 = .ok (.iload 4, 2) := by decide +kernel
theorem dX9_dive_25 : decode cX9_dive 25 = .ok (.bipush 6, 2) := by decide +kernel
theorem dX9_dive_27 : decode cX9_dive 27 = .ok (.if_icmp .ge 102, 3) := by decide +kernel
theorem dX9_dive_30 : decode cX9_dive 30 = .ok (.iload_n 3, 1) := by decide +kernel
theorem dX9_dive_31 : decode cX9_dive 31 = .ok (.iload 4, 2) := by decide +kernel
theorem dX9_dive_33 : decode cX9_dive 33 = .ok (.invokestatic 59, 3) := by decide +kernel
theorem dX9_dive_36 : decode cX9_dive 36 = .ok (.ifCond .eq 6, 3) := by decide +kernel
theorem dX9_dive_39 : decode cX9_dive 39 = .ok (.goto 84, 3) := by decide +kernel
theorem dX9_dive_42 : decode cX9_dive 42 = .ok (.aload_n 0, 1) := by decide +kernel
theorem dX9_dive_43 : decode cX9_dive 43 = .ok (.iload_n 1, 1) := by decide +kernel
theorem dX9_dive_44 : decode cX9_dive 44 = .ok (.invokevirtual 63, 3) := by decide +kernel
theorem dX9_dive_47 : decode cX9_dive 47 = .ok (.iconst 0, 1) := by decide +kernel
theorem dX9_dive_48 : decode cX9_dive 48 = .ok (.istore 5, 2) := by decide +kernel
theorem dX9_dive_50 : decode cX9_dive 50 = .ok (.iload 5, 2) := by decide +kernel
theorem dX9_dive_52 : decode cX9_dive 52 = .ok (.aload_n 0, 1) := by decide +kernel
theorem dX9_dive_53 : decode cX9_dive 53 = .ok (.iload 4, 2) := by decide +kernel
theorem dX9_dive_55 : decode cX9_dive 55 = .ok (.invokevirtual 67, 3) := by decide +kernel
theorem dX9_dive_58 : decode cX9_dive 58 = .ok (.if_icmp .ge 65, 3) := by decide +kernel
theorem dX9_dive_61 : decode cX9_dive 61 = .ok (.aload_n 0, 1) := by decide +kernel
theorem dX9_dive_62 : decode cX9_dive 62 = .ok (.iload_n 1, 1) := by decide +kernel
theorem dX9_dive_63 : decode cX9_dive 63 = .ok (.iconst 1, 1) := by decide +kernel
theorem dX9_dive_64 : decode cX9_dive 64 = .ok (.iadd, 1) := by decide +kernel
theorem dX9_dive_65 : decode cX9_dive 65 = .ok (.iload 4, 2) := by decide +kernel
theorem dX9_dive_67 : decode cX9_dive 67 = .ok (.invokevirtual 70, 3) := by decide +kernel
theorem dX9_dive_70 : decode cX9_dive 70 = .ok (.aload_n 0, 1) := by decide +kernel
theorem dX9_dive_71 : decode cX9_dive 71 = .ok (.aload_n 0, 1) := by decide +kernel
theorem dX9_dive_72 : decode cX9_dive 72 = .ok (.iload_n 1, 1) := by decide +kernel
theorem dX9_dive_73 : decode cX9_dive 73 = .ok (.iconst 1, 1) := by decide +kernel
theorem dX9_dive_74 : decode cX9_dive 74 = .ok (.iadd, 1) := by decide +kernel
theorem dX9_dive_75 : decode cX9_dive 75 = .ok (.invokevirtual 43, 3) := by decide +kernel
theorem dX9_dive_78 : decode cX9_dive 78 = .ok (.invokevirtual 47, 3) := by decide +kernel
theorem dX9_dive_81 : decode cX9_dive 81 = .ok (.iload_n 2, 1) := by decide +kernel
theorem dX9_dive_82 : decode cX9_dive 82 = .ok (.if_icmp .ge 35, 3) := by decide +kernel
theorem dX9_dive_85 : decode cX9_dive 85 = .ok (.aload_n 0, 1) := by decide +kernel
theorem dX9_dive_86 : decode cX9_dive 86 = .ok (.getfield 29, 3) := by decide +kernel
theorem dX9_dive_89 : decode cX9_dive 89 = .ok (.iload_n 1, 1) := by decide +kernel
theorem dX9_dive_90 : decode cX9_dive 90 = .ok (.aload_n 0, 1) := by decide +kernel
theorem dX9_dive_91 : decode cX9_dive 91 = .ok (.iload 4, 2) := by decide +kernel
theorem dX9_dive_93 : decode cX9_dive 93 = .ok (.invokevirtual 74, 3) := by decide +kernel
theorem dX9_dive_96 : decode cX9_dive 96 = .ok (.iload 5, 2) := by decide +kernel
theorem dX9_dive_98 : decode cX9_dive 98 = .ok (.iadd, 1) := by decide +kernel
theorem dX9_dive_99 : decode cX9_dive 99 = .ok (.iastore, 1) := by decide +kernel
theorem dX9_dive_100 : decode cX9_dive 100 = .ok (.aload_n 0, 1) := by decide +kernel
theorem dX9_dive_101 : decode cX9_dive 101 = .ok (.iload_n 1, 1) := by decide +kernel
theorem dX9_dive_102 : decode cX9_dive 102 = .ok (.iconst 1, 1) := by decide +kernel
theorem dX9_dive_103 : decode cX9_dive 103 = .ok (.iadd, 1) := by decide +kernel
theorem dX9_dive_104 : decode cX9_dive 104 = .ok (.iload_n 2, 1) := by decide +kernel
theorem dX9_dive_105 : decode cX9_dive 105 = .ok (.iconst 1, 1) := by decide +kernel
theorem dX9_dive_106 : decode cX9_dive 106 = .ok (.isub, 1) := by decide +kernel
theorem dX9_dive_107 : decode cX9_dive 107 = .ok (.iload 4, 2) := by decide +kernel
theorem dX9_dive_109 : decode cX9_dive 109 = .ok (.invokevirtual 50, 3) := by decide +kernel
theorem dX9_dive_112 : decode cX9_dive 112 = .ok (.ifCond .eq 5, 3) := by decide +kernel
theorem dX9_dive_115 : decode cX9_dive 115 = .ok (.iconst 1, 1) := by decide +kernel
theorem dX9_dive_116 : decode cX9_dive 116 = .ok (.ireturn, 1) := by decide +kernel
theorem dX9_dive_117 : decode cX9_dive 117 = .ok (.iinc 5 1, 3) := by decide +kernel
theorem dX9_dive_120 : decode cX9_dive 120 = .ok (.goto (-70), 3) := by decide +kernel
theorem dX9_dive_123 : decode cX9_dive 123 = .ok (.iinc 4 1, 3) := by decide +kernel
theorem dX9_dive_126 : decode cX9_dive 126 = .ok (.goto (-103), 3) := by decide +kernel
theorem dX9_dive_129 : decode cX9_dive 129 = .ok (.iconst 0, 1) := by decide +kernel
theorem dX9_dive_130 : decode cX9_dive 130 = .ok (.ireturn, 1) := by decide +kernel
theorem dX9_isNeedless_0 : decode cX9_isNeedless 0 = .ok (.iload_n 1, 1) := by decide +kernel
theorem dX9_isNeedless_1 : decode cX9_isNeedless 1 = .ok (.iload_n 0, 1) := by decide +kernel
theorem dX9_isNeedless_2 : decode cX9_isNeedless 2 = .ok (.if_icmp .eq 19, 3) := by decide +kernel
theorem dX9_isNeedless_5 : decode cX9_isNeedless 5 = .ok (.iload_n 1, 1) := by decide +kernel
theorem dX9_isNeedless_6 : decode cX9_isNeedless 6 = .ok (.iload_n 0, 1) := by decide +kernel
theorem dX9_isNeedless_7 : decode cX9_isNeedless 7 = .ok (.iconst 1, 1) := by decide +kernel
theorem dX9_isNeedless_8 : decode cX9_isNeedless 8 = .ok (.isub, 1) := by decide +kernel
theorem dX9_isNeedless_9 : decode cX9_isNeedless 9 = .ok (.if_icmp .ne 16, 3) := by decide +kernel
theorem dX9_isNeedless_12 : decode cX9_isNeedless 12 = .ok (.iload_n 1, 1) := by decide +kernel
theorem dX9_isNeedless_13 : decode cX9_isNeedless 13 = .ok (.iconst 2, 1) := by decide +kernel
theorem dX9_isNeedless_14 : decode cX9_isNeedless 14 = .ok (.idiv, 1) := by decide +kernel
theorem dX9_isNeedless_15 : decode cX9_isNeedless 15 = .ok (.iload_n 0, 1) := by decide +kernel
theorem dX9_isNeedless_16 : decode cX9_isNeedless 16 = .ok (.iconst 2, 1) := by decide +kernel
theorem dX9_isNeedless_17 : decode cX9_isNeedless 17 = .ok (.idiv, 1) := by decide +kernel
theorem dX9_isNeedless_18 : decode cX9_isNeedless 18 = .ok (.if_icmp .ne 7, 3) := by decide +kernel
theorem dX9_isNeedless_21 : decode cX9_isNeedless 21 = .ok (.iconst 1, 1) := by decide +kernel
theorem dX9_isNeedless_22 : decode cX9_isNeedless 22 = .ok (.goto 4, 3) := by decide +kernel
theorem dX9_isNeedless_25 : decode cX9_isNeedless 25 = .ok (.iconst 0, 1) := by decide +kernel
theorem dX9_isNeedless_26 : decode cX9_isNeedless 26 = .ok (.ireturn, 1) := by decide +kernel
theorem dX9_turnsOf_0 : decode cX9_turnsOf 0 = .ok (.iload_n 1, 1) := by decide +kernel
theorem dX9_turnsOf_1 : decode cX9_turnsOf 1 = .ok (.aload_n 0, 1) := by decide +kernel
theorem dX9_turnsOf_2 : decode cX9_turnsOf 2 = .ok (.getfield 9, 3) := by decide +kernel
theorem dX9_turnsOf_5 : decode cX9_turnsOf 5 = .ok (.if_icmp .ge 7, 3) := by decide +kernel
theorem dX9_turnsOf_8 : decode cX9_turnsOf 8 = .ok (.iconst 3, 1) := by decide +kernel
theorem dX9_turnsOf_9 : decode cX9_turnsOf 9 = .ok (.goto 4, 3) := by decide +kernel
theorem dX9_turnsOf_12 : decode cX9_turnsOf 12 = .ok (.iconst 1, 1) := by decide +kernel
theorem dX9_turnsOf_13 : decode cX9_turnsOf 13 = .ok (.ireturn, 1) := by decide +kernel
theorem dX9_firstTurnOf_0 : decode cX9_firstTurnOf 0 = .ok (.iload_n 1, 1) := by decide +kernel
theorem dX9_firstTurnOf_1 : decode cX9_firstTurnOf 1 = .ok (.aload_n 0, 1) := by decide +kernel
theorem dX9_firstTurnOf_2 : decode cX9_firstTurnOf 2 = .ok (.getfield 9, 3) := by decide +kernel
theorem dX9_firstTurnOf_5 : decode cX9_firstTurnOf 5 = .ok (.if_icmp .ge 9, 3) := by decide +kernel
theorem dX9_firstTurnOf_8 : decode cX9_firstTurnOf 8 = .ok (.iconst 3, 1) := by decide +kernel
theorem dX9_firstTurnOf_9 : decode cX9_firstTurnOf 9 = .ok (.iload_n 1, 1) := by decide +kernel
theorem dX9_firstTurnOf_10 : decode cX9_firstTurnOf 10 = .ok (.imul, 1) := by decide +kernel
theorem dX9_firstTurnOf_11 : decode cX9_firstTurnOf 11 = .ok (.goto 8, 3) := by decide +kernel
theorem dX9_firstTurnOf_14 : decode cX9_firstTurnOf 14 = .ok (.iconst 3, 1) := by decide +kernel
theorem dX9_firstTurnOf_15 : decode cX9_firstTurnOf 15 = .ok (.iload_n 1, 1) := by decide +kernel
theorem dX9_firstTurnOf_16 : decode cX9_firstTurnOf 16 = .ok (.imul, 1) := by decide +kernel
theorem dX9_firstTurnOf_17 : decode cX9_firstTurnOf 17 = .ok (.iconst 1, 1) := by decide +kernel
theorem dX9_firstTurnOf_18 : decode cX9_firstTurnOf 18 = .ok (.iadd, 1) := by decide +kernel
theorem dX9_firstTurnOf_19 : decode cX9_firstTurnOf 19 = .ok (.ireturn, 1) := by decide +kernel
theorem dX9_copyDown_0 : decode cX9_copyDown 0 = .ok (.iload_n 1, 1) := by decide +kernel
theorem dX9_copyDown_1 : decode cX9_copyDown 1 = .ok (.aload_n 0, 1) := by decide +kernel
theorem dX9_copyDown_2 : decode cX9_copyDown 2 = .ok (.getfield 21, 3) := by decide +kernel
theorem dX9_copyDown_5 : decode cX9_copyDown 5 = .ok (.arraylength, 1) := by decide +kernel
theorem dX9_copyDown_6 : decode cX9_copyDown 6 = .ok (.imul, 1) := by decide +kernel
theorem dX9_copyDown_7 : decode cX9_copyDown 7 = .ok (.istore_n 2, 1) := by decide +kernel
theorem dX9_copyDown_8 : decode cX9_copyDown 8 = .ok (.aload_n 0, 1) := by decide +kernel
theorem dX9_copyDown_9 : decode cX9_copyDown 9 = .ok (.getfield 25, 3) := by decide +kernel
theorem dX9_copyDown_12 : decode cX9_copyDown 12 = .ok (.iload_n 2, 1) := by decide +kernel
theorem dX9_copyDown_13 : decode cX9_copyDown 13 = .ok (.aload_n 0, 1) := by decide +kernel
theorem dX9_copyDown_14 : decode cX9_copyDown 14 = .ok (.getfield 25, 3) := by decide +kernel
theorem dX9_copyDown_17 : decode cX9_copyDown 17 = .ok (.iload_n 2, 1) := by decide +kernel
theorem dX9_copyDown_18 : decode cX9_copyDown 18 = .ok (.aload_n 0, 1) := by decide +kernel
theorem dX9_copyDown_19 : decode cX9_copyDown 19 = .ok (.getfield 21, 3) := by decide +kernel
theorem dX9_copyDown_22 : decode cX9_copyDown 22 = .ok (.arraylength, 1) := by decide +kernel
theorem dX9_copyDown_23 : decode cX9_copyDown 23 = .ok (.iadd, 1) := by decide +kernel
theorem dX9_copyDown_24 : decode cX9_copyDown 24 = .ok (.aload_n 0, 1) := by decide +kernel
theorem dX9_copyDown_25 : decode cX9_copyDown 25 = .ok (.getfield 21, 3) := by decide +kernel
theorem dX9_copyDown_28 : decode cX9_copyDown 28 = .ok (.arraylength, 1) := by decide +kernel
theorem dX9_copyDown_29 : decode cX9_copyDown 29 = .ok (.invokestatic 77, 3) := by decide +kernel
theorem dX9_copyDown_32 : decode cX9_copyDown 32 = .ok (.return_, 1) := by decide +kernel
theorem dX9_advance_0 : decode cX9_advance 0 = .ok (.iload_n 1, 1) := by decide +kernel
theorem dX9_advance_1 : decode cX9_advance 1 = .ok (.aload_n 0, 1) := by decide +kernel
theorem dX9_advance_2 : decode cX9_advance 2 = .ok (.getfield 21, 3) := by decide +kernel
theorem dX9_advance_5 : decode cX9_advance 5 = .ok (.arraylength, 1) := by decide +kernel
theorem dX9_advance_6 : decode cX9_advance 6 = .ok (.imul, 1) := by decide +kernel
theorem dX9_advance_7 : decode cX9_advance 7 = .ok (.istore_n 3, 1) := by decide +kernel
theorem dX9_advance_8 : decode cX9_advance 8 = .ok (.iconst 0, 1) := by decide +kernel
theorem dX9_advance_9 : decode cX9_advance 9 = .ok (.istore 4, 2) := by decide +kernel
theorem dX9_advance_11 : decode cX9_advance 11 = .ok (.iload 4, 2) := by decide +kernel
theorem dX9_advance_13 : decode cX9_advance 13 = .ok (.aload_n 0, 1) := by decide +kernel
theorem dX9_advance_14 : decode cX9_advance 14 = .ok (.getfield 21, 3) := by decide +kernel
theorem dX9_advance_17 : decode cX9_advance 17 = .ok (.arraylength, 1) := by decide +kernel
theorem dX9_advance_18 : decode cX9_advance 18 = .ok (.if_icmp .ge 43, 3) := by decide +kernel
theorem dX9_advance_21 : decode cX9_advance 21 = .ok (.aload_n 0, 1) := by decide +kernel
theorem dX9_advance_22 : decode cX9_advance 22 = .ok (.getfield 25, 3) := by decide +kernel
theorem dX9_advance_25 : decode cX9_advance 25 = .ok (.iload_n 3, 1) := by decide +kernel
theorem dX9_advance_26 : decode cX9_advance 26 = .ok (.iload 4, 2) := by decide +kernel
theorem dX9_advance_28 : decode cX9_advance 28 = .ok (.iadd, 1) := by decide +kernel
theorem dX9_advance_29 : decode cX9_advance 29 = .ok (.aload_n 0, 1) := by decide +kernel
theorem dX9_advance_30 : decode cX9_advance 30 = .ok (.getfield 21, 3) := by decide +kernel
theorem dX9_advance_33 : decode cX9_advance 33 = .ok (.iload 4, 2) := by decide +kernel
theorem dX9_advance_35 : decode cX9_advance 35 = .ok (.aaload, 1) := by decide +kernel
theorem dX9_advance_36 : decode cX9_advance 36 = .ok (.getfield 83, 3) := by decide +kernel
theorem dX9_advance_39 : decode cX9_advance 39 = .ok (.bipush 6, 2) := by decide +kernel
theorem dX9_advance_41 : decode cX9_advance 41 = .ok (.aload_n 0, 1) := by decide +kernel
theorem dX9_advance_42 : decode cX9_advance 42 = .ok (.getfield 25, 3) := by decide +kernel
theorem dX9_advance_45 : decode cX9_advance 45 = .ok (.iload_n 3, 1) := by decide +kernel
theorem dX9_advance_46 : decode cX9_advance 46 = .ok (.iload 4, 2) := by decide +kernel
theorem dX9_advance_48 : decode cX9_advance 48 = .ok (.iadd, 1) := by decide +kernel
theorem dX9_advance_49 : decode cX9_advance 49 = .ok (.iaload, 1) := by decide +kernel
theorem dX9_advance_50 : decode cX9_advance 50 = .ok (.imul, 1) := by decide +kernel
theorem dX9_advance_51 : decode cX9_advance 51 = .ok (.iload_n 2, 1) := by decide +kernel
theorem dX9_advance_52 : decode cX9_advance 52 = .ok (.iadd, 1) := by decide +kernel
theorem dX9_advance_53 : decode cX9_advance 53 = .ok (.iaload, 1) := by decide +kernel
theorem dX9_advance_54 : decode cX9_advance 54 = .ok (.iastore, 1) := by decide +kernel
theorem dX9_advance_55 : decode cX9_advance 55 = .ok (.iinc 4 1, 3) := by decide +kernel
theorem dX9_advance_58 : decode cX9_advance 58 = .ok (.goto (-47), 3) := by decide +kernel
theorem dX9_advance_61 : decode cX9_advance 61 = .ok (.return_, 1) := by decide +kernel
theorem dX9_stateAt_0 : decode cX9_stateAt 0 = .ok (.iload_n 1, 1) := by decide +kernel
theorem dX9_stateAt_1 : decode cX9_stateAt 1 = .ok (.aload_n 0, 1) := by decide +kernel
theorem dX9_stateAt_2 : decode cX9_stateAt 2 = .ok (.getfield 21, 3) := by decide +kernel
theorem dX9_stateAt_5 : decode cX9_stateAt 5 = .ok (.arraylength, 1) := by decide +kernel
theorem dX9_stateAt_6 : decode cX9_stateAt 6 = .ok (.imul, 1) := by decide +kernel
theorem dX9_stateAt_7 : decode cX9_stateAt 7 = .ok (.istore_n 2, 1) := by decide +kernel
theorem dX9_stateAt_8 : decode cX9_stateAt 8 = .ok (.iconst 0, 1) := by decide +kernel
theorem dX9_stateAt_9 : decode cX9_stateAt 9 = .ok (.istore_n 3, 1) := by decide +kernel
theorem dX9_stateAt_10 : decode cX9_stateAt 10 = .ok (.iconst 0, 1) := by decide +kernel
theorem dX9_stateAt_11 : decode cX9_stateAt 11 = .ok (.istore 4, 2) := by decide +kernel
theorem dX9_stateAt_13 : decode cX9_stateAt 13 = .ok (.iload 4, 2) := by decide +kernel
theorem dX9_stateAt_15 : decode cX9_stateAt 15 = .ok (.aload_n 0, 1) := by decide +kernel
theorem dX9_stateAt_16 : decode cX9_stateAt 16 = .ok (.getfield 21, 3) := by decide +kernel
theorem dX9_stateAt_19 : decode cX9_stateAt 19 = .ok (.arraylength, 1) := by decide +kernel
theorem dX9_stateAt_20 : decode cX9_stateAt 20 = .ok (.if_icmp .ge 32, 3) := by decide +kernel
theorem dX9_stateAt_23 : decode cX9_stateAt 23 = .ok (.iload_n 3, 1) := by decide +kernel
theorem dX9_stateAt_24 : decode cX9_stateAt 24 = .ok (.aload_n 0, 1) := by decide +kernel
theorem dX9_stateAt_25 : decode cX9_stateAt 25 = .ok (.getfield 21, 3) := by decide +kernel
theorem dX9_stateAt_28 : decode cX9_stateAt 28 = .ok (.iload 4, 2) := by decide +kernel
theorem dX9_stateAt_30 : decode cX9_stateAt 30 = .ok (.aaload, 1) := by decide +kernel
theorem dX9_stateAt_31 : decode cX9_stateAt 31 = .ok (.getfield 86, 3) := by decide +kernel
theorem dX9_stateAt_34 : decode cX9_stateAt 34 = .ok (.imul, 1) := by decide +kernel
theorem dX9_stateAt_35 : decode cX9_stateAt 35 = .ok (.aload_n 0, 1) := by decide +kernel
theorem dX9_stateAt_36 : decode cX9_stateAt 36 = .ok (.getfield 25, 3) := by decide +kernel
theorem dX9_stateAt_39 : decode cX9_stateAt 39 = .ok (.iload_n 2, 1) := by decide +kernel
theorem dX9_stateAt_40 : decode cX9_stateAt 40 = .ok (.iload 4, 2) := by decide +kernel
theorem dX9_stateAt_42 : decode cX9_stateAt 42 = .ok (.iadd, 1) := by decide +kernel
theorem dX9_stateAt_43 : decode cX9_stateAt 43 = .ok (.iaload, 1) := by decide +kernel
theorem dX9_stateAt_44 : decode cX9_stateAt 44 = .ok (.iadd, 1) := by decide +kernel
theorem dX9_stateAt_45 : decode cX9_stateAt 45 = .ok (.istore_n 3, 1) := by decide +kernel
theorem dX9_stateAt_46 : decode cX9_stateAt 46 = .ok (.iinc 4 1, 3) := by decide +kernel
theorem dX9_stateAt_49 : decode cX9_stateAt 49 = .ok (.goto (-36), 3) := by decide +kernel
theorem dX9_stateAt_52 : decode cX9_stateAt 52 = .ok (.iload_n 3, 1) := by decide +kernel
theorem dX9_stateAt_53 : decode cX9_stateAt 53 = .ok (.ireturn, 1) := by decide +kernel
theorem dX9_showState_0 : decode cX9_showState 0 = .ok (.iload_n 1, 1) := by decide +kernel
theorem dX9_showState_1 : decode cX9_showState 1 = .ok (.istore_n 2, 1) := by decide +kernel
theorem dX9_showState_2 : decode cX9_showState 2 = .ok (.aload_n 0, 1) := by decide +kernel
theorem dX9_showState_3 : decode cX9_showState 3 = .ok (.getfield 21, 3) := by decide +kernel
theorem dX9_showState_6 : decode cX9_showState 6 = .ok (.arraylength, 1) := by decide +kernel
theorem dX9_showState_7 : decode cX9_showState 7 = .ok (.iconst 1, 1) := by decide +kernel
theorem dX9_showState_8 : decode cX9_showState 8 = .ok (.isub, 1) := by decide +kernel
theorem dX9_showState_9 : decode cX9_showState 9 = .ok (.istore_n 3, 1) := by decide +kernel
theorem dX9_showState_10 : decode cX9_showState 10 = .ok (.iload_n 3, 1) := by decide +kernel
theorem dX9_showState_11 : decode cX9_showState 11 = .ok (.ifCond .lt 38, 3) := by decide +kernel
theorem dX9_showState_14 : decode cX9_showState 14 = .ok (.aload_n 0, 1) := by decide +kernel
theorem dX9_showState_15 : decode cX9_showState 15 = .ok (.getfield 25, 3) := by decide +kernel
theorem dX9_showState_18 : decode cX9_showState 18 = .ok (.iload_n 3, 1) := by decide +kernel
theorem dX9_showState_19 : decode cX9_showState 19 = .ok (.iload_n 2, 1) := by decide +kernel
theorem dX9_showState_20 : decode cX9_showState 20 = .ok (.aload_n 0, 1) := by decide +kernel
theorem dX9_showState_21 : decode cX9_showState 21 = .ok (.getfield 21, 3) := by decide +kernel
theorem dX9_showState_24 : decode cX9_showState 24 = .ok (.iload_n 3, 1) := by decide +kernel
theorem dX9_showState_25 : decode cX9_showState 25 = .ok (.aaload, 1) := by decide +kernel
theorem dX9_showState_26 : decode cX9_showState 26 = .ok (.getfield 86, 3) := by decide +kernel
theorem dX9_showState_29 : decode cX9_showState 29 = .ok (.irem, 1) := by decide +kernel
theorem dX9_showState_30 : decode cX9_showState 30 = .ok (.iastore, 1) := by decide +kernel
theorem dX9_showState_31 : decode cX9_showState 31 = .ok (.iload_n 2, 1) := by decide +kernel
theorem dX9_showState_32 : decode cX9_showState 32 = .ok (.aload_n 0, 1) := by decide +kernel
theorem dX9_showState_33 : decode cX9_showState 33 = .ok (.getfield 21, 3) := by decide +kernel
theorem dX9_showState_36 : decode cX9_showState 36 = .ok (.iload_n 3, 1) := by decide +kernel
theorem dX9_showState_37 : decode cX9_showState 37 = .ok (.aaload, 1) := by decide +kernel
theorem dX9_showState_38 : decode cX9_showState 38 = .ok (.getfield 86, 3) := by decide +kernel
theorem dX9_showState_41 : decode cX9_showState 41 = .ok (.idiv, 1) := by decide +kernel
theorem dX9_showState_42 : decode cX9_showState 42 = .ok (.istore_n 2, 1) := by decide +kernel
theorem dX9_showState_43 : decode cX9_showState 43 = .ok (.iinc 3 (-1), 3) := by decide +kernel
theorem dX9_showState_46 : decode cX9_showState 46 = .ok (.goto (-36), 3) := by decide +kernel
theorem dX9_showState_49 : decode cX9_showState 49 = .ok (.return_, 1) := by decide +kernel
set_option maxRecDepth 20000 in
theorem ggX9_turnsToGoal_X9_stored : GoodIn wsX9_turnsToGoal wsX9_stored := goodIn_r _ [6, 7, 8, 9, 10, 11, 12, 13, 14] (by decide +kernel) (by decide +kernel)
set_option maxRecDepth 20000 in
theorem gX9_turnsToGoal_X9_stored : GoodIn wsX9_turnsToGoal (wsV RX9 89 RX9 yX9_stored wsX9_stored) := goodIn_app (goodIn_of _ (by decide +kernel)) ggX9_turnsToGoal_X9_stored
theorem dX9_turnsToGoal_0 : decode cX9_turnsToGoal 0 = .ok (.aload_n 0, 1) := by decide +kernel
theorem dX9_turnsToGoal_1 : decode cX9_turnsToGoal 1 = .ok (.iload_n 1, 1) := by decide +kernel
theorem dX9_turnsToGoal_2 : decode cX9_turnsToGoal 2 = .ok (.invokevirtual 89, 3) := by decide +kernel
theorem dX9_turnsToGoal_5 : decode cX9_turnsToGoal 5 = .ok (.istore_n 2, 1) := by decide +kernel
theorem dX9_turnsToGoal_6 : decode cX9_turnsToGoal 6 = .ok (.iload_n 2, 1) := by decide +kernel
theorem dX9_turnsToGoal_7 : decode cX9_turnsToGoal 7 = .ok (.ifCond .ne 12, 3) := by decide +kernel
theorem dX9_turnsToGoal_10 : decode cX9_turnsToGoal 10 = .ok (.aload_n 0, 1) := by decide +kernel
theorem dX9_turnsToGoal_11 : decode cX9_turnsToGoal 11 = .ok (.getfield 15, 3) := by decide +kernel
theorem dX9_turnsToGoal_14 : decode cX9_turnsToGoal 14 = .ok (.iconst 1, 1) := by decide +kernel
theorem dX9_turnsToGoal_15 : decode cX9_turnsToGoal 15 = .ok (.iadd, 1) := by decide +kernel
theorem dX9_turnsToGoal_16 : decode cX9_turnsToGoal 16 = .ok (.goto 6, 3) := by decide +kernel
theorem dX9_turnsToGoal_19 : decode cX9_turnsToGoal 19 = .ok (.iload_n 2, 1) := by decide +kernel
theorem dX9_turnsToGoal_20 : decode cX9_turnsToGoal 20 = .ok (.iconst 1, 1) := by decide +kernel
theorem dX9_turnsToGoal_21 : decode cX9_turnsToGoal 21 = .ok (.isub, 1) := by decide +kernel
theorem dX9_turnsToGoal_22 : decode cX9_turnsToGoal 22 = .ok (.ireturn, 1) := by decide +kernel
theorem dX9_stored_0 : decode cX9_stored 0 = .ok (.aload_n 0, 1) := by decide +kernel
theorem dX9_stored_1 : decode cX9_stored 1 = .ok (.getfield 36, 3) := by decide +kernel
theorem dX9_stored_4 : decode cX9_stored 4 = .ok (.iload_n 1, 1) := by decide +kernel
theorem dX9_stored_5 : decode cX9_stored 5 = .ok (.iconst 4, 1) := by decide +kernel
theorem dX9_stored_6 : decode cX9_stored 6 = .ok (.ishr, 1) := by decide +kernel
theorem dX9_stored_7 : decode cX9_stored 7 = .ok (.laload, 1) := by decide +kernel
theorem dX9_stored_8 : decode cX9_stored 8 = .ok (.iconst 4, 1) := by decide +kernel
theorem dX9_stored_9 : decode cX9_stored 9 = .ok (.iload_n 1, 1) := by decide +kernel
theorem dX9_stored_10 : decode cX9_stored 10 = .ok (.bipush 15, 2) := by decide +kernel
theorem dX9_stored_12 : decode cX9_stored 12 = .ok (.iand, 1) := by decide +kernel
theorem dX9_stored_13 : decode cX9_stored 13 = .ok (.imul, 1) := by decide +kernel
theorem dX9_stored_14 : decode cX9_stored 14 = .ok (.lushr, 1) := by decide +kernel
theorem dX9_stored_15 : decode cX9_stored 15 = .ok (.l2i, 1) := by decide +kernel
theorem dX9_stored_16 : decode cX9_stored 16 = .ok (.bipush 15, 2) := by decide +kernel
theorem dX9_stored_18 : decode cX9_stored 18 = .ok (.iand, 1) := by decide +kernel
theorem dX9_stored_19 : decode cX9_stored 19 = .ok (.ireturn, 1) := by decide +kernel
theorem dX9_store_0 : decode cX9_store 0 = .ok (.aload_n 0, 1) := by decide +kernel
theorem dX9_store_1 : decode cX9_store 1 = .ok (.getfield 36, 3) := by decide +kernel
theorem dX9_store_4 : decode cX9_store 4 = .ok (.iload_n 1, 1) := by decide +kernel
theorem dX9_store_5 : decode cX9_store 5 = .ok (.iconst 4, 1) := by decide +kernel
theorem dX9_store_6 : decode cX9_store 6 = .ok (.ishr, 1) := by decide +kernel
theorem dX9_store_7 : decode cX9_store 7 = .ok (.dup2, 1) := by decide +kernel
theorem dX9_store_8 : decode cX9_store 8 = .ok (.laload, 1) := by decide +kernel
theorem dX9_store_9 : decode cX9_store 9 = .ok (.iload_n 2, 1) := by decide +kernel
theorem dX9_store_10 : decode cX9_store 10 = .ok (.i2l, 1) := by decide +kernel
theorem dX9_store_11 : decode cX9_store 11 = .ok (.lconst 1, 1) := by decide +kernel
theorem dX9_store_12 : decode cX9_store 12 = .ok (.ladd, 1) := by decide +kernel
theorem dX9_store_13 : decode cX9_store 13 = .ok (.iconst 4, 1) := by decide +kernel
theorem dX9_store_14 : decode cX9_store 14 = .ok (.iload_n 1, 1) := by decide +kernel
theorem dX9_store_15 : decode cX9_store 15 = .ok (.bipush 15, 2) := by decide +kernel
theorem dX9_store_17 : decode cX9_store 17 = .ok (.iand, 1) := by decide +kernel
theorem dX9_store_18 : decode cX9_store 18 = .ok (.imul, 1) := by decide +kernel
theorem dX9_store_19 : decode cX9_store 19 = .ok (.lshl, 1) := by decide +kernel
theorem dX9_store_20 : decode cX9_store 20 = .ok (.lor, 1) := by decide +kernel
theorem dX9_store_21 : decode cX9_store 21 = .ok (.lastore, 1) := by decide +kernel
theorem dX9_store_22 : decode cX9_store 22 = .ok (.return_, 1) := by decide +kernel
set_option maxRecDepth 20000 in
theorem ggX9_prepare_X2_learn : GoodIn wsX9_prepare wsX2_learn := goodIn_r _ [11, 12, 13, 14, 15, 16, 17, 18, 19, 20, 21, 22, 23, 24, 25, 26, 27, 28, 29, 30, 31, 32, 33, 34, 35, 36, 37, 38, 39, 40, 41, 42, 43, 44, 45, 46, 47, 48, 49, 50, 51, 52, 53, 54, 55, 56, 57, 58, 59, 60, 61, 62, 63, 64, 65, 66, 67, 68, 69, 70, 71, 72, 73, 74, 75, 76, 77, 78, 79, 80, 81, 82, 83, 84, 85, 86, 87, 88, 89, 90, 91, 92, 93, 94, 95, 96, 97, 98, 99, 100, 101, 102, 103, 104, 105, 106, 107, 108, 109, 110, 111, 112, 113, 114, 115, 116, 117, 118, 119, 120, 121, 122, 123, 124, 125, 126, 127, 128, 129, 130, 131, 132, 133, 134, 214, 215, 216, 217, 218, 219, 191, 192, 193, 194, 195, 196, 197, 198, 199, 200, 201, 202, 203, 204, 205, 206, 207, 208, 209, 210, 211, 212, 213] (by decide +kernel) (by decide +kernel)
set_option maxRecDepth 20000 in
theorem gX9_prepare_X2_learn_u92X0 : GoodIn wsX9_prepare (va_wsU RX9 92 RX0 "StageCube$Feature" ⟨"StageCube$Feature", "learn", "(I)V"⟩ yX2_learn wsX2_learn) := goodIn_app (goodIn_of _ (by decide +kernel)) ggX9_prepare_X2_learn
set_option maxRecDepth 20000 in
theorem gX9_prepare_X2_learn_u92X3 : GoodIn wsX9_prepare (va_wsU RX9 92 RX3 "StageCube$Feature" ⟨"StageCube$Feature", "learn", "(I)V"⟩ yX2_learn wsX2_learn) := goodIn_app (goodIn_of _ (by decide +kernel)) ggX9_prepare_X2_learn
set_option maxRecDepth 20000 in
theorem gX9_prepare_X2_learn_u92X5 : GoodIn wsX9_prepare (va_wsU RX9 92 RX5 "StageCube$Feature" ⟨"StageCube$Feature", "learn", "(I)V"⟩ yX2_learn wsX2_learn) := goodIn_app (goodIn_of _ (by decide +kernel)) ggX9_prepare_X2_learn
set_option maxRecDepth 20000 in
theorem gX9_prepare_X2_learn_u92X6 : GoodIn wsX9_prepare (va_wsU RX9 92 RX6 "StageCube$Feature" ⟨"StageCube$Feature", "learn", "(I)V"⟩ yX2_learn wsX2_learn) := goodIn_app (goodIn_of _ (by decide +kernel)) ggX9_prepare_X2_learn
set_option maxRecDepth 20000 in
theorem gX9_prepare_X2_learn_u92X8 : GoodIn wsX9_prepare (va_wsU RX9 92 RX8 "StageCube$Feature" ⟨"StageCube$Feature", "learn", "(I)V"⟩ yX2_learn wsX2_learn) := goodIn_app (goodIn_of _ (by decide +kernel)) ggX9_prepare_X2_learn
set_option maxRecDepth 20000 in
theorem ggX9_prepare_X9_spreadFromGoal : GoodIn wsX9_prepare wsX9_spreadFromGoal := goodIn_r _ [143, 144, 17, 145, 146, 147, 142, 148, 5, 149, 150, 151, 152, 153, 154, 155, 156, 157, 158, 159, 160, 161, 1, 162, 3, 163, 164, 165, 166, 167, 168, 169, 170, 171, 172, 173, 174, 2, 175, 176, 177, 178, 179, 180, 181, 182, 183, 184, 185, 186, 187, 188, 189, 190, 191, 192, 193, 194, 195, 196, 197, 198, 199, 200, 201, 202, 203, 204, 205, 206, 207, 208, 209, 210, 211, 212, 213] (by decide +kernel) (by decide +kernel)
set_option maxRecDepth 20000 in
theorem gX9_prepare_X9_spreadFromGoal : GoodIn wsX9_prepare (wsV RX9 95 RX9 yX9_spreadFromGoal wsX9_spreadFromGoal) := goodIn_app (goodIn_of _ (by decide +kernel)) ggX9_prepare_X9_spreadFromGoal
theorem dX9_prepare_0 : decode cX9_prepare 0 = .ok (.iconst 1, 1) := by decide +kernel
theorem dX9_prepare_1 : decode cX9_prepare 1 = .ok (.istore_n 1, 1) := by decide +kernel
theorem dX9_prepare_2 : decode cX9_prepare 2 = .ok (.iconst 0, 1) := by decide +kernel
theorem dX9_prepare_3 : decode cX9_prepare 3 = .ok (.istore_n 2, 1) := by decide +kernel
theorem dX9_prepare_4 : decode cX9_prepare 4 = .ok (.iload_n 2, 1) := by decide +kernel
theorem dX9_prepare_5 : decode cX9_prepare 5 = .ok (.aload_n 0, 1) := by decide +kernel
theorem dX9_prepare_6 : decode cX9_prepare 6 = .ok (.getfield 21, 3) := by decide +kernel
theorem dX9_prepare_9 : decode cX9_prepare 9 = .ok (.arraylength, 1) := by decide +kernel
theorem dX9_prepare_10 : decode cX9_prepare 10 = .ok (.if_icmp .ge 34, 3) := by decide +kernel
theorem dX9_prepare_13 : decode cX9_prepare 13 = .ok (.aload_n 0, 1) := by decide +kernel
theorem dX9_prepare_14 : decode cX9_prepare 14 = .ok (.getfield 21, 3) := by decide +kernel
theorem dX9_prepare_17 : decode cX9_prepare 17 = .ok (.iload_n 2, 1) := by decide +kernel
theorem dX9_prepare_18 : decode cX9_prepare 18 = .ok (.aaload, 1) := by decide +kernel
theorem dX9_prepare_19 : decode cX9_prepare 19 = .ok (.aload_n 0, 1) := by decide +kernel
theorem dX9_prepare_20 : decode cX9_prepare 20 = .ok (.getfield 9, 3) := by decide +kernel
theorem dX9_prepare_23 : decode cX9_prepare 23 = .ok (.invokevirtual 92, 3) := by decide +kernel
theorem dX9_prepare_26 : decode cX9_prepare 26 = .ok (.iload_n 1, 1) := by decide +kernel
theorem dX9_prepare_27 : decode cX9_prepare 27 = .ok (.aload_n 0, 1) := by decide +kernel
theorem dX9_prepare_28 : decode cX9_prepare 28 = .ok (.getfield 21, 3) := by decide +kernel
theorem dX9_prepare_31 : decode cX9_prepare 31 = .ok (.iload_n 2, 1) := by decide +kernel
theorem dX9_prepare_32 : decode cX9_prepare 32 = .ok (.aaload, 1) := by decide +kernel
theorem dX9_prepare_33 : decode cX9_prepare 33 = .ok (.getfield 86, 3) := by decide +kernel
theorem dX9_prepare_36 : decode cX9_prepare 36 = .ok (.imul, 1) := by decide +kernel
theorem dX9_prepare_37 : decode cX9_prepare 37 = .ok (.istore_n 1, 1) := by decide +kernel
theorem dX9_prepare_38 : decode cX9_prepare 38 = .ok (.iinc 2 1, 3) := by decide +kernel
theorem dX9_prepare_41 : decode cX9_prepare 41 = .ok (.goto (-37), 3) := by decide +kernel
theorem dX9_prepare_44 : decode cX9_prepare 44 = .ok (.aload_n 0, 1) := by decide +kernel
theorem dX9_prepare_45 : decode cX9_prepare 45 = .ok (.iload_n 1, 1) := by decide +kernel
theorem dX9_prepare_46 : decode cX9_prepare 46 = .ok (.bipush 15, 2) := by decide +kernel
theorem dX9_prepare_48 : decode cX9_prepare 48 = .ok (.iadd, 1) := by decide +kernel
theorem dX9_prepare_49 : decode cX9_prepare 49 = .ok (.bipush 16, 2) := by decide +kernel
theorem dX9_prepare_51 : decode cX9_prepare 51 = .ok (.idiv, 1) := by decide +kernel
theorem dX9_prepare_52 : decode cX9_prepare 52 = .ok (.newarray .long, 2) := by decide +kernel
theorem dX9_prepare_54 : decode cX9_prepare 54 = .ok (.putfield 36, 3) := by decide +kernel
theorem dX9_prepare_57 : decode cX9_prepare 57 = .ok (.aload_n 0, 1) := by decide +kernel
theorem dX9_prepare_58 : decode cX9_prepare 58 = .ok (.invokevirtual 95, 3) := by decide +kernel
theorem dX9_prepare_61 : decode cX9_prepare 61 = .ok (.return_, 1) := by decide +kernel
set_option maxRecDepth 20000 in
theorem ggX9_spreadFromGoal_X9_store : GoodIn wsX9_spreadFromGoal wsX9_store := goodIn_r _ [7, 8, 47, 48, 49, 50, 51, 52, 53] (by decide +kernel) (by decide +kernel)
set_option maxRecDepth 20000 in
theorem gX9_spreadFromGoal_X9_store : GoodIn wsX9_spreadFromGoal (wsV RX9 98 RX9 yX9_store wsX9_store) := goodIn_app (goodIn_of _ (by decide +kernel)) ggX9_spreadFromGoal_X9_store
set_option maxRecDepth 20000 in
theorem ggX9_spreadFromGoal_X9_spread : GoodIn wsX9_spreadFromGoal wsX9_spread := goodIn_r _ [12, 13, 14, 15, 16, 6, 17, 8, 18, 19, 20, 21, 22, 23, 24, 25, 26, 27, 28, 29, 30, 31, 32, 33, 34, 35, 36, 37, 38, 39, 40, 41, 42, 43, 44, 45, 46, 3, 4, 5, 7, 47, 48, 49, 50, 51, 52, 53, 54, 55, 56, 57, 58, 59, 60, 61, 62, 63, 64, 65, 66, 67, 68, 69, 70, 71, 72, 73, 74, 75, 76] (by decide +kernel) (by decide +kernel)
set_option maxRecDepth 20000 in
theorem gX9_spreadFromGoal_X9_spread : GoodIn wsX9_spreadFromGoal (wsV RX9 101 RX9 yX9_spread wsX9_spread) := goodIn_app (goodIn_of _ (by decide +kernel)) ggX9_spreadFromGoal_X9_spread
theorem dX9_spreadFromGoal_0 : decode cX9_spreadFromGoal 0 = .ok (.aload_n 0, 1) := by decide +kernel
theorem dX9_spreadFromGoal_1 : decode cX9_spreadFromGoal 1 = .ok (.getfield 18, 3) := by decide +kernel
theorem dX9_spreadFromGoal_4 : decode cX9_spreadFromGoal 4 = .ok (.newarray .int, 2) := by decide +kernel
theorem dX9_spreadFromGoal_6 : decode cX9_spreadFromGoal 6 = .ok (.astore_n 1, 1) := by decide +kernel
theorem dX9_spreadFromGoal_7 : decode cX9_spreadFromGoal 7 = .ok (.iconst 1, 1) := by decide +kernel
theorem dX9_spreadFromGoal_8 : decode cX9_spreadFromGoal 8 = .ok (.istore_n 2, 1) := by decide +kernel
theorem dX9_spreadFromGoal_9 : decode cX9_spreadFromGoal 9 = .ok (.aload_n 0, 1) := by decide +kernel
theorem dX9_spreadFromGoal_10 : decode cX9_spreadFromGoal 10 = .ok (.iconst 0, 1) := by decide +kernel
theorem dX9_spreadFromGoal_11 : decode cX9_spreadFromGoal 11 = .ok (.iconst 0, 1) := by decide +kernel
theorem dX9_spreadFromGoal_12 : decode cX9_spreadFromGoal 12 = .ok (.invokevirtual 98, 3) := by decide +kernel
theorem dX9_spreadFromGoal_15 : decode cX9_spreadFromGoal 15 = .ok (.iconst 0, 1) := by decide +kernel
theorem dX9_spreadFromGoal_16 : decode cX9_spreadFromGoal 16 = .ok (.istore_n 3, 1) := by decide +kernel
theorem dX9_spreadFromGoal_17 : decode cX9_spreadFromGoal 17 = .ok (.iload_n 3, 1) := by decide +kernel
theorem dX9_spreadFromGoal_18 : decode cX9_spreadFromGoal 18 = .ok (.iload_n 2, 1) := by decide +kernel
theorem dX9_spreadFromGoal_19 : decode cX9_spreadFromGoal 19 = .ok (.if_icmp .ge 25, 3) := by decide +kernel
theorem dX9_spreadFromGoal_22 : decode cX9_spreadFromGoal 22 = .ok (.iload_n 3, 1) := by decide +kernel
theorem dX9_spreadFromGoal_23 : decode cX9_spreadFromGoal 23 = .ok (.aload_n 1, 1) := by decide +kernel
theorem dX9_spreadFromGoal_24 : decode cX9_spreadFromGoal 24 = .ok (.arraylength, 1) := by decide +kernel
theorem dX9_spreadFromGoal_25 : decode cX9_spreadFromGoal 25 = .ok (.if_icmp .ge 19, 3) := by decide +kernel
theorem dX9_spreadFromGoal_28 : decode cX9_spreadFromGoal 28 = .ok (.aload_n 0, 1) := by decide +kernel
theorem dX9_spreadFromGoal_29 : decode cX9_spreadFromGoal 29 = .ok (.aload_n 1, 1) := by decide +kernel
theorem dX9_spreadFromGoal_30 : decode cX9_spreadFromGoal 30 = .ok (.iload_n 3, 1) := by decide +kernel
theorem dX9_spreadFromGoal_31 : decode cX9_spreadFromGoal 31 = .ok (.iaload, 1) := by decide +kernel
theorem dX9_spreadFromGoal_32 : decode cX9_spreadFromGoal 32 = .ok (.aload_n 1, 1) := by decide +kernel
theorem dX9_spreadFromGoal_33 : decode cX9_spreadFromGoal 33 = .ok (.iload_n 2, 1) := by decide +kernel
theorem dX9_spreadFromGoal_34 : decode cX9_spreadFromGoal 34 = .ok (.invokevirtual 101, 3) := by decide +kernel
theorem dX9_spreadFromGoal_37 : decode cX9_spreadFromGoal 37 = .ok (.istore_n 2, 1) := by decide +kernel
theorem dX9_spreadFromGoal_38 : decode cX9_spreadFromGoal 38 = .ok (.iinc 3 1, 3) := by decide +kernel
theorem dX9_spreadFromGoal_41 : decode cX9_spreadFromGoal 41 = .ok (.goto (-24), 3) := by decide +kernel
theorem dX9_spreadFromGoal_44 : decode cX9_spreadFromGoal 44 = .ok (.return_, 1) := by decide +kernel
set_option maxRecDepth 20000 in
theorem ggX9_spread_X9_stored : GoodIn wsX9_spread wsX9_stored := goodIn_r _ [6, 7, 41, 42, 43, 44, 45, 46, 47] (by decide +kernel) (by decide +kernel)
set_option maxRecDepth 20000 in
theorem gX9_spread_X9_stored : GoodIn wsX9_spread (wsV RX9 89 RX9 yX9_stored wsX9_stored) := goodIn_app (goodIn_of _ (by decide +kernel)) ggX9_spread_X9_stored
set_option maxRecDepth 20000 in
theorem ggX9_spread_X9_showState : GoodIn wsX9_spread wsX9_showState := goodIn_r _ [11, 12, 13, 14, 41, 42, 43, 44, 45, 46, 47, 48, 49, 50, 51, 52, 53, 54, 55, 56, 57, 58, 59, 60, 61, 62, 63, 64, 65, 66, 67, 68, 69, 70] (by decide +kernel) (by decide +kernel)
set_option maxRecDepth 20000 in
theorem gX9_spread_X9_showState : GoodIn wsX9_spread (wsV RX9 105 RX9 yX9_showState wsX9_showState) := goodIn_app (goodIn_of _ (by decide +kernel)) ggX9_spread_X9_showState
set_option maxRecDepth 20000 in
theorem ggX9_spread_X9_copyDown : GoodIn wsX9_spread wsX9_copyDown := goodIn_r _ [18, 12, 13, 19, 20, 21, 22, 41, 42, 43, 44, 45, 46, 47] (by decide +kernel) (by decide +kernel)
set_option maxRecDepth 20000 in
theorem gX9_spread_X9_copyDown : GoodIn wsX9_spread (wsV RX9 63 RX9 yX9_copyDown wsX9_copyDown) := goodIn_app (goodIn_of _ (by decide +kernel)) ggX9_spread_X9_copyDown
set_option maxRecDepth 20000 in
theorem ggX9_spread_X9_turnsOf : GoodIn wsX9_spread wsX9_turnsOf := goodIn_r _ [26, 27, 41, 42, 43, 44, 45, 46, 47] (by decide +kernel) (by decide +kernel)
set_option maxRecDepth 20000 in
theorem gX9_spread_X9_turnsOf : GoodIn wsX9_spread (wsV RX9 67 RX9 yX9_turnsOf wsX9_turnsOf) := goodIn_app (goodIn_of _ (by decide +kernel)) ggX9_spread_X9_turnsOf
set_option maxRecDepth 20000 in
theorem ggX9_spread_X9_advance : GoodIn wsX9_spread wsX9_advance := goodIn_r _ [31, 12, 13, 32, 41, 42, 43, 44, 45, 46, 47, 48, 49, 50, 51, 52, 53, 54, 55, 56, 57, 58, 59, 60, 61, 62, 63, 64, 65, 66, 67, 68, 69, 70] (by decide +kernel) (by decide +kernel)
set_option maxRecDepth 20000 in
theorem gX9_spread_X9_advance : GoodIn wsX9_spread (wsV RX9 70 RX9 yX9_advance wsX9_advance) := goodIn_app (goodIn_of _ (by decide +kernel)) ggX9_spread_X9_advance
set_option maxRecDepth 20000 in
theorem ggX9_spread_X9_stateAt : GoodIn wsX9_spread wsX9_stateAt := goodIn_r _ [36, 12, 14, 13, 41, 42, 43, 44, 45, 46, 47, 48, 49, 50, 51, 52, 53, 54, 55, 56, 57, 58, 59, 60, 61, 62, 63, 64, 65, 66, 67, 68, 69, 70] (by decide +kernel) (by decide +kernel)
set_option maxRecDepth 20000 in
theorem gX9_spread_X9_stateAt : GoodIn wsX9_spread (wsV RX9 43 RX9 yX9_stateAt wsX9_stateAt) := goodIn_app (goodIn_of _ (by decide +kernel)) ggX9_spread_X9_stateAt
set_option maxRecDepth 20000 in
theorem ggX9_spread_X9_store : GoodIn wsX9_spread wsX9_store := goodIn_r _ [40, 7, 41, 42, 43, 44, 45, 46, 47] (by decide +kernel) (by decide +kernel)
set_option maxRecDepth 20000 in
theorem gX9_spread_X9_store : GoodIn wsX9_spread (wsV RX9 98 RX9 yX9_store wsX9_store) := goodIn_app (goodIn_of _ (by decide +kernel)) ggX9_spread_X9_store
theorem dX9_spread_0 : decode cX9_spread 0 = .ok (.iload_n 3, 1) := by decide +kernel
theorem dX9_spread_1 : decode cX9_spread 1 = .ok (.istore 4, 2) := by decide +kernel
theorem dX9_spread_3 : decode cX9_spread 3 = .ok (.aload_n 0, 1) := by decide +kernel
theorem dX9_spread_4 : decode cX9_spread 4 = .ok (.iload_n 1, 1) := by decide +kernel
theorem dX9_spread_5 : decode cX9_spread 5 = .ok (.invokevirtual 89, 3) := by decide +kernel
theorem dX9_spread_8 : decode cX9_spread 8 = .ok (.istore 5, 2) := by decide +kernel
theorem dX9_spread_10 : decode cX9_spread 10 = .ok (.aload_n 0, 1) := by decide +kernel
theorem dX9_spread_11 : decode cX9_spread 11 = .ok (.iload_n 1, 1) := by decide +kernel
theorem dX9_spread_12 : decode cX9_spread 12 = .ok (.invokevirtual 105, 3) := by decide +kernel
theorem dX9_spread_15 : decode cX9_spread 15 = .ok (.iconst 0, 1) := by decide +kernel
theorem dX9_spread_16 : decode cX9_spread 16 = .ok (.istore 6, 2) := by decide +kernel
theorem dX9_spread_18 : decode cX9_spread 18 = .ok (.iload 6, 2) := by decide +kernel
theorem dX9_spread_20 : decode cX9_spread 20 = .ok (.bipush 6, 2) := by decide +kernel
theorem dX9_spread_22 : decode cX9_spread 22 = .ok (.if_icmp .ge 90, 3) := by decide +kernel
theorem dX9_spread_25 : decode cX9_spread 25 = .ok (.aload_n 0, 1) := by decide +kernel
theorem dX9_spread_26 : decode cX9_spread 26 = .ok (.iconst 0, 1) := by decide +kernel
theorem dX9_spread_27 : decode cX9_spread 27 = .ok (.invokevirtual 63, 3) := by decide +kernel
theorem dX9_spread_30 : decode cX9_spread 30 = .ok (.iconst 0, 1) := by decide +kernel
theorem dX9_spread_31 : decode cX9_spread 31 = .ok (.istore 7, 2) := by decide +kernel
theorem dX9_spread_33 : decode cX9_spread 33 = .ok (.iload 7, 2) := by decide +kernel
theorem dX9_spread_35 : decode cX9_spread 35 = .ok (.aload_n 0, 1) := by decide +kernel
theorem dX9_spread_36 : decode cX9_spread 36 = .ok (.iload 6, 2) := by decide +kernel
theorem dX9_spread_38 : decode cX9_spread 38 = .ok (.invokevirtual 67, 3) := by decide +kernel
theorem dX9_spread_41 : decode cX9_spread 41 = .ok (.if_icmp .ge 65, 3) := by decide +kernel
theorem dX9_spread_44 : decode cX9_spread 44 = .ok (.aload_n 0, 1) := by decide +kernel
theorem dX9_spread_45 : decode cX9_spread 45 = .ok (.iconst 1, 1) := by decide +kernel
theorem dX9_spread_46 : decode cX9_spread 46 = .ok (.iload 6, 2) := by decide +kernel
theorem dX9_spread_48 : decode cX9_spread 48 = .ok (.invokevirtual 70, 3) := by decide +kernel
theorem dX9_spread_51 : decode cX9_spread 51 = .ok (.aload_n 0, 1) := by decide +kernel
theorem dX9_spread_52 : decode cX9_spread 52 = .ok (.iconst 1, 1) := by decide +kernel
theorem dX9_spread_53 : decode cX9_spread 53 = .ok (.invokevirtual 43, 3) := by decide +kernel
theorem dX9_spread_56 : decode cX9_spread 56 = .ok (.istore 8, 2) := by decide +kernel
theorem dX9_spread_58 : decode cX9_spread 58 = .ok (.aload_n 0, 1) := by decide +kernel
theorem dX9_spread_59 : decode cX9_spread 59 = .ok (.iload 8, 2) := by decide +kernel
theorem dX9_spread_61 : decode cX9_spread 61 = .ok (.invokevirtual 89, 3) := by decide +kernel
theorem dX9_spread_64 : decode cX9_spread 64 = .ok (.ifCond .ne 36, 3) := by decide +kernel
theorem dX9_spread_67 : decode cX9_spread 67 = .ok (.aload_n 0, 1) := by decide +kernel
theorem dX9_spread_68 : decode cX9_spread 68 = .ok (.iload 8, 2) := by decide +kernel
theorem dX9_spread_70 : decode cX9_spread 70 = .ok (.iload 5, 2) := by decide +kernel
theorem dX9_spread_72 : decode cX9_spread 72 = .ok (.invokevirtual 98, 3) := by decide +kernel
theorem dX9_spread_75 : decode cX9_spread 75 = .ok (.iload 5, 2) := by decide +kernel
theorem dX9_spread_77 : decode cX9_spread 77 = .ok (.aload_n 0, 1) := by decide +kernel
theorem dX9_spread_78 : decode cX9_spread 78 = .ok (.getfield 15, 3) := by decide +kernel
theorem dX9_spread_81 : decode cX9_spread 81 = .ok (.if_icmp .ge 19, 3) := by decide +kernel
theorem dX9_spread_84 : decode cX9_spread 84 = .ok (.iload 4, 2) := by decide +kernel
theorem dX9_spread_86 : decode cX9_spread 86 = .ok (.aload_n 2, 1) := by decide +kernel
theorem dX9_spread_87 : decode cX9_spread 87 = .ok (.arraylength, 1) := by decide +kernel
theorem dX9_spread_88 : decode cX9_spread 88 = .ok (.if_icmp .ge 12, 3) := by decide +kernel
theorem dX9_spread_91 : decode cX9_spread 91 = .ok (.aload_n 2, 1) := by decide +kernel
theorem dX9_spread_92 : decode cX9_spread 92 = .ok (.iload 4, 2) := by decide +kernel
theorem dX9_spread_94 : decode cX9_spread 94 = .ok (.iload 8, 2) := by decide +kernel
theorem dX9_spread_96 : decode cX9_spread 96 = .ok (.iastore, 1) := by decide +kernel
theorem dX9_spread_97 : decode cX9_spread 97 = .ok (.iinc 4 1, 3) := by decide +kernel
theorem dX9_spread_100 : decode cX9_spread 100 = .ok (.iinc 7 1, 3) := by decide +kernel
theorem dX9_spread_103 : decode cX9_spread 103 = .ok (.goto (-70), 3) := by decide +kernel
theorem dX9_spread_106 : decode cX9_spread 106 = .ok (.iinc 6 1, 3) := by decide +kernel
theorem dX9_spread_109 : decode cX9_spread 109 = .ok (.goto (-91), 3) := by decide +kernel
theorem dX9_spread_112 : decode cX9_spread 112 = .ok (.iload 4, 2) := by decide +kernel
theorem dX9_spread_114 : decode cX9_spread 114 = .ok (.ireturn, 1) := by decide +kernel
set_option maxRecDepth 20000 in
theorem ggX10_init_X1_init : GoodIn wsX10_init wsX1_init := goodIn_r _ [18, 19, 2, 3, 20, 21, 22, 23, 24, 25, 26, 27, 28, 29, 30, 31, 32, 33, 34, 35, 36, 11, 37, 38, 39, 40, 41, 42, 52, 53, 54, 55, 56, 57, 43, 44] (by decide +kernel) (by decide +kernel)
set_option maxRecDepth 20000 in
theorem gX10_init_X1_init : GoodIn wsX10_init (wsX1_init) := ggX10_init_X1_init
theorem dX10_init_0 : decode cX10_init 0 = .ok (.aload_n 0, 1) := by decide +kernel
theorem dX10_init_1 : decode cX10_init 1 = .ok (.invokespecial 1, 3) := by decide +kernel
theorem dX10_init_4 : decode cX10_init 4 = .ok (.aload_n 0, 1) := by decide +kernel
theorem dX10_init_5 : decode cX10_init 5 = .ok (.new 7, 3) := by decide +kernel
theorem dX10_init_8 : decode cX10_init 8 = .ok (.dup, 1) := by decide +kernel
theorem dX10_init_9 : decode cX10_init 9 = .ok (.invokespecial 9, 3) := by decide +kernel
theorem dX10_init_12 : decode cX10_init 12 = .ok (.putfield 10, 3) := by decide +kernel
theorem dX10_init_15 : decode cX10_init 15 = .ok (.aload_n 0, 1) := by decide +kernel
theorem dX10_init_16 : decode cX10_init 16 = .ok (.new 7, 3) := by decide +kernel
theorem dX10_init_19 : decode cX10_init 19 = .ok (.dup, 1) := by decide +kernel
theorem dX10_init_20 : decode cX10_init 20 = .ok (.invokespecial 9, 3) := by decide +kernel
theorem dX10_init_23 : decode cX10_init 23 = .ok (.putfield 16, 3) := by decide +kernel
theorem dX10_init_26 : decode cX10_init 26 = .ok (.aload_n 0, 1) := by decide +kernel
theorem dX10_init_27 : decode cX10_init 27 = .ok (.iconst 4, 1) := by decide +kernel
theorem dX10_init_28 : decode cX10_init 28 = .ok (.anewarray 19, 3) := by decide +kernel
theorem dX10_init_31 : decode cX10_init 31 = .ok (.putfield 21, 3) := by decide +kernel
theorem dX10_init_34 : decode cX10_init 34 = .ok (.aload_n 0, 1) := by decide +kernel
theorem dX10_init_35 : decode cX10_init 35 = .ok (.iconst 4, 1) := by decide +kernel
theorem dX10_init_36 : decode cX10_init 36 = .ok (.newarray .int, 2) := by decide +kernel
theorem dX10_init_38 : decode cX10_init 38 = .ok (.putfield 25, 3) := by decide +kernel
theorem dX10_init_41 : decode cX10_init 41 = .ok (.aload_n 0, 1) := by decide +kernel
theorem dX10_init_42 : decode cX10_init 42 = .ok (.bipush 60, 2) := by decide +kernel
theorem dX10_init_44 : decode cX10_init 44 = .ok (.newarray .int, 2) := by decide +kernel
theorem dX10_init_46 : decode cX10_init 46 = .ok (.putfield 29, 3) := by decide +kernel
theorem dX10_init_49 : decode cX10_init 49 = .ok (.aload_n 0, 1) := by decide +kernel
theorem dX10_init_50 : decode cX10_init 50 = .ok (.iconst 0, 1) := by decide +kernel
theorem dX10_init_51 : decode cX10_init 51 = .ok (.putfield 32, 3) := by decide +kernel
theorem dX10_init_54 : decode cX10_init 54 = .ok (.aload_n 0, 1) := by decide +kernel
theorem dX10_init_55 : decode cX10_init 55 = .ok (.iconst 0, 1) := by decide +kernel
theorem dX10_init_56 : decode cX10_init 56 = .ok (.putfield 36, 3) := by decide +kernel
theorem dX10_init_59 : decode cX10_init 59 = .ok (.return_, 1) := by decide +kernel
set_option maxRecDepth 20000 in
theorem ggX10_corner_X7_put : GoodIn wsX10_corner wsX7_put := goodIn_r _ [7, 8, 9, 10, 11, 12, 13, 6, 14, 24, 25, 26, 27, 28, 29] (by decide +kernel) (by decide +kernel)
set_option maxRecDepth 20000 in
theorem gX10_corner_X7_put : GoodIn wsX10_corner (wsV RX10 43 RX7 yX7_put wsX7_put) := goodIn_app (goodIn_of _ (by decide +kernel)) ggX10_corner_X7_put
theorem dX10_corner_0 : decode cX10_corner 0 = .ok (.aload_n 0, 1) := by decide +kernel
theorem dX10_corner_1 : decode cX10_corner 1 = .ok (.getfield 10, 3) := by decide +kernel
theorem dX10_corner_4 : decode cX10_corner 4 = .ok (.getfield 39, 3) := by decide +kernel
theorem dX10_corner_7 : decode cX10_corner 7 = .ok (.iload_n 1, 1) := by decide +kernel
theorem dX10_corner_8 : decode cX10_corner 8 = .ok (.iload_n 2, 1) := by decide +kernel
theorem dX10_corner_9 : decode cX10_corner 9 = .ok (.iload_n 3, 1) := by decide +kernel
theorem dX10_corner_10 : decode cX10_corner 10 = .ok (.invokevirtual 43, 3) := by decide +kernel
theorem dX10_corner_13 : decode cX10_corner 13 = .ok (.ifCond .eq 7, 3) := by decide +kernel
theorem dX10_corner_16 : decode cX10_corner 16 = .ok (.iconst 1, 1) := by decide +kernel
theorem dX10_corner_17 : decode cX10_corner 17 = .ok (.goto 4, 3) := by decide +kernel
theorem dX10_corner_20 : decode cX10_corner 20 = .ok (.iconst (-1), 1) := by decide +kernel
theorem dX10_corner_21 : decode cX10_corner 21 = .ok (.ireturn, 1) := by decide +kernel
set_option maxRecDepth 20000 in
theorem ggX10_edge_X7_put : GoodIn wsX10_edge wsX7_put := goodIn_r _ [7, 8, 9, 10, 11, 12, 13, 6, 14, 24, 25, 26, 27, 28, 29] (by decide +kernel) (by decide +kernel)
set_option maxRecDepth 20000 in
theorem gX10_edge_X7_put : GoodIn wsX10_edge (wsV RX10 43 RX7 yX7_put wsX7_put) := goodIn_app (goodIn_of _ (by decide +kernel)) ggX10_edge_X7_put
theorem dX10_edge_0 : decode cX10_edge 0 = .ok (.aload_n 0, 1) := by decide +kernel
theorem dX10_edge_1 : decode cX10_edge 1 = .ok (.getfield 10, 3) := by decide +kernel
theorem dX10_edge_4 : decode cX10_edge 4 = .ok (.getfield 49, 3) := by decide +kernel
theorem dX10_edge_7 : decode cX10_edge 7 = .ok (.iload_n 1, 1) := by decide +kernel
theorem dX10_edge_8 : decode cX10_edge 8 = .ok (.iload_n 2, 1) := by decide +kernel
theorem dX10_edge_9 : decode cX10_edge 9 = .ok (.iload_n 3, 1) := by decide +kernel
theorem dX10_edge_10 : decode cX10_edge 10 = .ok (.invokevirtual 43, 3) := by decide +kernel
theorem dX10_edge_13 : decode cX10_edge 13 = .ok (.ifCond .eq 7, 3) := by decide +kernel
theorem dX10_edge_16 : decode cX10_edge 16 = .ok (.iconst 1, 1) := by decide +kernel
theorem dX10_edge_17 : decode cX10_edge 17 = .ok (.goto 4, 3) := by decide +kernel
theorem dX10_edge_20 : decode cX10_edge 20 = .ok (.iconst (-1), 1) := by decide +kernel
theorem dX10_edge_21 : decode cX10_edge 21 = .ok (.ireturn, 1) := by decide +kernel
set_option maxRecDepth 20000 in
theorem ggX10_at_X7_describe : GoodIn wsX10_at wsX7_describe := goodIn_r _ [8, 9, 10, 11, 12, 13, 14, 7, 15, 25, 26, 27, 28, 29, 30] (by decide +kernel) (by decide +kernel)
set_option maxRecDepth 20000 in
theorem gX10_at_X7_describe : GoodIn wsX10_at (wsV RX10 52 RX7 yX7_describe wsX7_describe) := goodIn_app (goodIn_of _ (by decide +kernel)) ggX10_at_X7_describe
theorem dX10_at_0 : decode cX10_at 0 = .ok (.iload_n 1, 1) := by decide +kernel
theorem dX10_at_1 : decode cX10_at 1 = .ok (.ifCond .ne 15, 3) := by decide +kernel
theorem dX10_at_4 : decode cX10_at 4 = .ok (.aload_n 0, 1) := by decide +kernel
theorem dX10_at_5 : decode cX10_at 5 = .ok (.getfield 10, 3) := by decide +kernel
theorem dX10_at_8 : decode cX10_at 8 = .ok (.getfield 39, 3) := by decide +kernel
theorem dX10_at_11 : decode cX10_at 11 = .ok (.iload_n 2, 1) := by decide +kernel
theorem dX10_at_12 : decode cX10_at 12 = .ok (.invokevirtual 52, 3) := by decide +kernel
theorem dX10_at_15 : decode cX10_at 15 = .ok (.ireturn, 1) := by decide +kernel
theorem dX10_at_16 : decode cX10_at 16 = .ok (.iload_n 1, 1) := by decide +kernel
theorem dX10_at_17 : decode cX10_at 17 = .ok (.iconst 1, 1) := by decide +kernel
theorem dX10_at_18 : decode cX10_at 18 = .ok (.if_icmp .ne 15, 3) := by decide +kernel
theorem dX10_at_21 : decode cX10_at 21 = .ok (.aload_n 0, 1) := by decide +kernel
theorem dX10_at_22 : decode cX10_at 22 = .ok (.getfield 10, 3) := by decide +kernel
theorem dX10_at_25 : decode cX10_at 25 = .ok (.getfield 49, 3) := by decide +kernel
theorem dX10_at_28 : decode cX10_at 28 = .ok (.iload_n 2, 1) := by decide +kernel
theorem dX10_at_29 : decode cX10_at 29 = .ok (.invokevirtual 52, 3) := by decide +kernel
theorem dX10_at_32 : decode cX10_at 32 = .ok (.ireturn, 1) := by decide +kernel
theorem dX10_at_33 : decode cX10_at 33 = .ok (.iconst (-1), 1) := by decide +kernel
theorem dX10_at_34 : decode cX10_at 34 = .ok (.ireturn, 1) := by decide +kernel
set_option maxRecDepth 20000 in
theorem ggX10_lawful_X7_allThere : GoodIn wsX10_lawful wsX7_allThere := goodIn_r _ [8, 9, 10, 30, 31, 32, 33, 34, 35] (by decide +kernel) (by decide +kernel)
set_option maxRecDepth 20000 in
theorem gX10_lawful_X7_allThere : GoodIn wsX10_lawful (wsV RX10 56 RX7 yX7_allThere wsX7_allThere) := goodIn_app (goodIn_of _ (by decide +kernel)) ggX10_lawful_X7_allThere
set_option maxRecDepth 20000 in
theorem ggX10_lawful_X7_marksCancel : GoodIn wsX10_lawful wsX7_marksCancel := goodIn_r _ [14, 9, 15, 16, 30, 31, 32, 33, 34, 35] (by decide +kernel) (by decide +kernel)
set_option maxRecDepth 20000 in
theorem gX10_lawful_X7_marksCancel : GoodIn wsX10_lawful (wsV RX10 60 RX7 yX7_marksCancel wsX7_marksCancel) := goodIn_app (goodIn_of _ (by decide +kernel)) ggX10_lawful_X7_marksCancel
set_option maxRecDepth 20000 in
theorem ggX10_lawful_X7_oddlySwapped : GoodIn wsX10_lawful wsX7_oddlySwapped := goodIn_r _ [20, 9, 10, 30, 31, 32, 33, 34, 35] (by decide +kernel) (by decide +kernel)
set_option maxRecDepth 20000 in
theorem gX10_lawful_X7_oddlySwapped : GoodIn wsX10_lawful (wsV RX10 63 RX7 yX7_oddlySwapped wsX7_oddlySwapped) := goodIn_app (goodIn_of _ (by decide +kernel)) ggX10_lawful_X7_oddlySwapped
theorem dX10_lawful_0 : decode cX10_lawful 0 = .ok (.aload_n 0, 1) := by decide +kernel
theorem dX10_lawful_1 : decode cX10_lawful 1 = .ok (.getfield 10, 3) := by decide +kernel
theorem dX10_lawful_4 : decode cX10_lawful 4 = .ok (.getfield 39, 3) := by decide +kernel
theorem dX10_lawful_7 : decode cX10_lawful 7 = .ok (.invokevirtual 56, 3) := by decide +kernel
theorem dX10_lawful_10 : decode cX10_lawful 10 = .ok (.ifCond .ne 6, 3) := by decide +kernel
theorem dX10_lawful_13 : decode cX10_lawful 13 = .ok (.bipush (-2), 2) := by decide +kernel
theorem dX10_lawful_15 : decode cX10_lawful 15 = .ok (.ireturn, 1) := by decide +kernel
theorem dX10_lawful_16 : decode cX10_lawful 16 = .ok (.aload_n 0, 1) := by decide +kernel
theorem dX10_lawful_17 : decode cX10_lawful 17 = .ok (.getfield 10, 3) := by decide +kernel
theorem dX10_lawful_20 : decode cX10_lawful 20 = .ok (.getfield 49, 3) := by decide +kernel
theorem dX10_lawful_23 : decode cX10_lawful 23 = .ok (.invokevirtual 56, 3) := by decide +kernel
theorem dX10_lawful_26 : decode cX10_lawful 26 = .ok (.ifCond .ne 6, 3) := by decide +kernel
theorem dX10_lawful_29 : decode cX10_lawful 29 = .ok (.bipush (-3), 2) := by decide +kernel
theorem dX10_lawful_31 : decode cX10_lawful 31 = .ok (.ireturn, 1) := by decide +kernel
theorem dX10_lawful_32 : decode cX10_lawful 32 = .ok (.aload_n 0, 1) := by decide +kernel
theorem dX10_lawful_33 : decode cX10_lawful 33 = .ok (.getfield 10, 3) := by decide +kernel
theorem dX10_lawful_36 : decode cX10_lawful 36 = .ok (.getfield 39, 3) := by decide +kernel
theorem dX10_lawful_39 : decode cX10_lawful 39 = .ok (.invokevirtual 60, 3) := by decide +kernel
theorem dX10_lawful_42 : decode cX10_lawful 42 = .ok (.ifCond .ne 6, 3) := by decide +kernel
theorem dX10_lawful_45 : decode cX10_lawful 45 = .ok (.bipush (-4), 2) := by decide +kernel
theorem dX10_lawful_47 : decode cX10_lawful 47 = .ok (.ireturn, 1) := by decide +kernel
theorem dX10_lawful_48 : decode cX10_lawful 48 = .ok (.aload_n 0, 1) := by decide +kernel
theorem dX10_lawful_49 : decode cX10_lawful 49 = .ok (.getfield 10, 3) := by decide +kernel
theorem dX10_lawful_52 : decode cX10_lawful 52 = .ok (.getfield 49, 3) := by decide +kernel
theorem dX10_lawful_55 : decode cX10_lawful 55 = .ok (.invokevirtual 60, 3) := by decide +kernel
theorem dX10_lawful_58 : decode cX10_lawful 58 = .ok (.ifCond .ne 6, 3) := by decide +kernel
theorem dX10_lawful_61 : decode cX10_lawful 61 = .ok (.bipush (-5), 2) := by decide +kernel
theorem dX10_lawful_63 : decode cX10_lawful 63 = .ok (.ireturn, 1) := by decide +kernel
theorem dX10_lawful_64 : decode cX10_lawful 64 = .ok (.aload_n 0, 1) := by decide +kernel
theorem dX10_lawful_65 : decode cX10_lawful 65 = .ok (.getfield 10, 3) := by decide +kernel
theorem dX10_lawful_68 : decode cX10_lawful 68 = .ok (.getfield 39, 3) := by decide +kernel
theorem dX10_lawful_71 : decode cX10_lawful 71 = .ok (.invokevirtual 63, 3) := by decide +kernel
theorem dX10_lawful_74 : decode cX10_lawful 74 = .ok (.aload_n 0, 1) := by decide +kernel
theorem dX10_lawful_75 : decode cX10_lawful 75 = .ok (.getfield 10, 3) := by decide +kernel
theorem dX10_lawful_78 : decode cX10_lawful 78 = .ok (.getfield 49, 3) := by decide +kernel
theorem dX10_lawful_81 : decode cX10_lawful 81 = .ok (.invokevirtual 63, 3) := by decide +kernel
theorem dX10_lawful_84 : decode cX10_lawful 84 = .ok (.if_icmp .ne 7, 3) := by decide +kernel
theorem dX10_lawful_87 : decode cX10_lawful 87 = .ok (.iconst 1, 1) := by decide +kernel
theorem dX10_lawful_88 : decode cX10_lawful 88 = .ok (.goto 5, 3) := by decide +kernel
theorem dX10_lawful_91 : decode cX10_lawful 91 = .ok (.bipush (-6), 2) := by decide +kernel
theorem dX10_lawful_93 : decode cX10_lawful 93 = .ok (.ireturn, 1) := by decide +kernel
set_option maxRecDepth 20000 in
theorem ggX10_turn_X1_make : GoodIn wsX10_turn wsX1_make := goodIn_r _ [7, 8, 9, 10, 11, 12, 13, 14, 15, 16, 17, 18, 19, 27, 28, 29, 30, 31, 32, 33, 34] (by decide +kernel) (by decide +kernel)
set_option maxRecDepth 20000 in
theorem gX10_turn_X1_make : GoodIn wsX10_turn (wsV RX10 66 RX1 yX1_make wsX1_make) := goodIn_app (goodIn_of _ (by decide +kernel)) ggX10_turn_X1_make
theorem dX10_turn_0 : decode cX10_turn 0 = .ok (.iload_n 1, 1) := by decide +kernel
theorem dX10_turn_1 : decode cX10_turn 1 = .ok (.ifCond .lt 9, 3) := by decide +kernel
theorem dX10_turn_4 : decode cX10_turn 4 = .ok (.iload_n 1, 1) := by decide +kernel
theorem dX10_turn_5 : decode cX10_turn 5 = .ok (.bipush 18, 2) := by decide +kernel
theorem dX10_turn_7 : decode cX10_turn 7 = .ok (.if_icmp .lt 5, 3) := by decide +kernel
theorem dX10_turn_10 : decode cX10_turn 10 = .ok (.iconst (-1), 1) := by decide +kernel
theorem dX10_turn_11 : decode cX10_turn 11 = .ok (.ireturn, 1) := by decide +kernel
theorem dX10_turn_12 : decode cX10_turn 12 = .ok (.aload_n 0, 1) := by decide +kernel
theorem dX10_turn_13 : decode cX10_turn 13 = .ok (.getfield 10, 3) := by decide +kernel
theorem dX10_turn_16 : decode cX10_turn 16 = .ok (.iload_n 1, 1) := by decide +kernel
theorem dX10_turn_17 : decode cX10_turn 17 = .ok (.invokevirtual 66, 3) := by decide +kernel
theorem dX10_turn_20 : decode cX10_turn 20 = .ok (.aload_n 0, 1) := by decide +kernel
theorem dX10_turn_21 : decode cX10_turn 21 = .ok (.dup, 1) := by decide +kernel
theorem dX10_turn_22 : decode cX10_turn 22 = .ok (.getfield 36, 3) := by decide +kernel
theorem dX10_turn_25 : decode cX10_turn 25 = .ok (.iconst 1, 1) := by decide +kernel
theorem dX10_turn_26 : decode cX10_turn 26 = .ok (.iadd, 1) := by decide +kernel
theorem dX10_turn_27 : decode cX10_turn 27 = .ok (.putfield 36, 3) := by decide +kernel
theorem dX10_turn_30 : decode cX10_turn 30 = .ok (.iconst 1, 1) := by decide +kernel
theorem dX10_turn_31 : decode cX10_turn 31 = .ok (.ireturn, 1) := by decide +kernel
set_option maxRecDepth 20000 in
theorem ggX10_home_X1_reset : GoodIn wsX10_home wsX1_reset := goodIn_r _ [7, 8, 9, 10, 11, 12, 13, 14, 15, 16, 17, 25, 26, 27, 28, 29, 30, 31, 32] (by decide +kernel) (by decide +kernel)
set_option maxRecDepth 20000 in
theorem gX10_home_X1_reset : GoodIn wsX10_home (wsV RX10 70 RX1 yX1_reset wsX1_reset) := goodIn_app (goodIn_of _ (by decide +kernel)) ggX10_home_X1_reset
theorem dX10_home_0 : decode cX10_home 0 = .ok (.aload_n 0, 1) := by decide +kernel
theorem dX10_home_1 : decode cX10_home 1 = .ok (.getfield 36, 3) := by decide +kernel
theorem dX10_home_4 : decode cX10_home 4 = .ok (.istore_n 1, 1) := by decide +kernel
theorem dX10_home_5 : decode cX10_home 5 = .ok (.aload_n 0, 1) := by decide +kernel
theorem dX10_home_6 : decode cX10_home 6 = .ok (.getfield 10, 3) := by decide +kernel
theorem dX10_home_9 : decode cX10_home 9 = .ok (.invokevirtual 70, 3) := by decide +kernel
theorem dX10_home_12 : decode cX10_home 12 = .ok (.aload_n 0, 1) := by decide +kernel
theorem dX10_home_13 : decode cX10_home 13 = .ok (.iconst 0, 1) := by decide +kernel
theorem dX10_home_14 : decode cX10_home 14 = .ok (.putfield 36, 3) := by decide +kernel
theorem dX10_home_17 : decode cX10_home 17 = .ok (.iload_n 1, 1) := by decide +kernel
theorem dX10_home_18 : decode cX10_home 18 = .ok (.ireturn, 1) := by decide +kernel
set_option maxRecDepth 20000 in
theorem ggX10_isHome_X7_atHome : GoodIn wsX10_isHome wsX7_atHome := goodIn_r _ [8, 9, 10, 11, 21, 22, 23, 24, 25, 26] (by decide +kernel) (by decide +kernel)
set_option maxRecDepth 20000 in
theorem gX10_isHome_X7_atHome : GoodIn wsX10_isHome (wsV RX10 73 RX7 yX7_atHome wsX7_atHome) := goodIn_app (goodIn_of _ (by decide +kernel)) ggX10_isHome_X7_atHome
theorem dX10_isHome_0 : decode cX10_isHome 0 = .ok (.aload_n 0, 1) := by decide +kernel
theorem dX10_isHome_1 : decode cX10_isHome 1 = .ok (.getfield 10, 3) := by decide +kernel
theorem dX10_isHome_4 : decode cX10_isHome 4 = .ok (.getfield 39, 3) := by decide +kernel
theorem dX10_isHome_7 : decode cX10_isHome 7 = .ok (.invokevirtual 73, 3) := by decide +kernel
theorem dX10_isHome_10 : decode cX10_isHome 10 = .ok (.ifCond .eq 20, 3) := by decide +kernel
theorem dX10_isHome_13 : decode cX10_isHome 13 = .ok (.aload_n 0, 1) := by decide +kernel
theorem dX10_isHome_14 : decode cX10_isHome 14 = .ok (.getfield 10, 3) := by decide +kernel
theorem dX10_isHome_17 : decode cX10_isHome 17 = .ok (.getfield 49, 3) := by decide +kernel
theorem dX10_isHome_20 : decode cX10_isHome 20 = .ok (.invokevirtual 73, 3) := by decide +kernel
theorem dX10_isHome_23 : decode cX10_isHome 23 = .ok (.ifCond .eq 7, 3) := by decide +kernel
theorem dX10_isHome_26 : decode cX10_isHome 26 = .ok (.iconst 1, 1) := by decide +kernel
theorem dX10_isHome_27 : decode cX10_isHome 27 = .ok (.goto 4, 3) := by decide +kernel
theorem dX10_isHome_30 : decode cX10_isHome 30 = .ok (.iconst 0, 1) := by decide +kernel
theorem dX10_isHome_31 : decode cX10_isHome 31 = .ok (.ireturn, 1) := by decide +kernel
set_option maxRecDepth 20000 in
theorem ggX10_solve_X10_forgetWay : GoodIn wsX10_solve wsX10_forgetWay := goodIn_r _ [8, 3, 9, 320, 321, 322, 323, 324, 325, 326] (by decide +kernel) (by decide +kernel)
set_option maxRecDepth 20000 in
theorem gX10_solve_X10_forgetWay : GoodIn wsX10_solve (wsV RX10 76 RX10 yX10_forgetWay wsX10_forgetWay) := goodIn_app (goodIn_of _ (by decide +kernel)) ggX10_solve_X10_forgetWay
set_option maxRecDepth 20000 in
theorem ggX10_solve_X10_lawful : GoodIn wsX10_solve wsX10_lawful := goodIn_r _ [13, 2, 14, 15, 16, 17, 18, 19, 20, 21, 22, 23, 24, 25, 26, 27, 28, 29, 30, 31, 32, 320, 321, 322, 323, 324, 325, 326, 327, 328, 329, 330, 331, 332, 333, 334] (by decide +kernel) (by decide +kernel)
set_option maxRecDepth 20000 in
theorem gX10_solve_X10_lawful : GoodIn wsX10_solve (wsV RX10 79 RX10 yX10_lawful wsX10_lawful) := goodIn_app (goodIn_of _ (by decide +kernel)) ggX10_solve_X10_lawful
set_option maxRecDepth 20000 in
theorem ggX10_solve_X1_copyFrom : GoodIn wsX10_solve wsX1_copyFrom := goodIn_r _ [37, 38, 39, 40, 41, 42, 19, 43, 21, 22, 27, 327, 328, 329, 330, 331, 332, 333, 334] (by decide +kernel) (by decide +kernel)
set_option maxRecDepth 20000 in
theorem gX10_solve_X1_copyFrom : GoodIn wsX10_solve (wsV RX10 83 RX1 yX1_copyFrom wsX1_copyFrom) := goodIn_app (goodIn_of _ (by decide +kernel)) ggX10_solve_X1_copyFrom
set_option maxRecDepth 20000 in
theorem ggX10_solve_X10_walkStage : GoodIn wsX10_solve wsX10_walkStage := goodIn_r _ [47, 1, 9, 48, 49, 3, 50, 51, 52, 7, 53, 54, 55, 56, 57, 58, 59, 60, 61, 62, 63, 64, 65, 66, 67, 68, 69, 70, 71, 72, 73, 74, 75, 76, 77, 78, 79, 80, 81, 82, 83, 84, 85, 86, 87, 88, 89, 90, 91, 92, 93, 94, 95, 96, 97, 98, 99, 100, 101, 102, 103, 104, 105, 106, 107, 108, 109, 110, 111, 112, 113, 114, 115, 116, 117, 118, 119, 120, 121, 122, 123, 124, 125, 126, 127, 128, 129, 130, 131, 132, 133, 134, 135, 136, 137, 138, 139, 140, 141, 142, 143, 144, 145, 146, 147, 148, 149, 150, 151, 152, 153, 154, 155, 156, 157, 158, 159, 160, 161, 162, 163, 164, 165, 166, 167, 168, 169, 170, 171, 172, 173, 174, 175, 176, 177, 178, 179, 180, 181, 182, 183, 184, 185, 186, 187, 188, 189, 190, 191, 192, 193, 194, 195, 196, 197, 198, 199, 200, 201, 202, 203, 204, 205, 206, 207, 208, 209, 210, 211, 19, 212, 213, 214, 215, 216, 21, 28, 217, 218, 219, 220, 221, 222, 22, 27, 223, 224, 225, 226, 227, 228, 229, 230, 231, 232, 233, 234, 235, 236, 237, 238, 239, 240, 241, 242, 243, 244, 245, 246, 247, 248, 249, 250, 251, 252, 253, 254, 255, 256, 257, 258, 259, 260, 261, 262, 263, 264, 265, 266, 267, 268, 269, 270, 271, 272, 273, 274, 275, 276, 277, 278, 279, 280, 281, 282, 283, 284, 285, 286, 287, 288, 289, 290, 291, 292, 293, 294, 295, 296, 297, 298, 299, 300, 301, 302, 303, 304, 305, 306, 307, 308, 309, 310, 311, 312, 313, 314, 315, 316, 317, 36, 318, 38, 39, 319, 320, 321, 322, 323, 324, 325, 326, 335, 336, 337, 338, 339, 340, 341, 342, 343, 344, 345, 346, 347, 348, 349, 350, 351, 352, 353, 354, 355, 356, 357, 358, 359, 360, 361, 362, 363, 364, 327, 328, 329, 330, 331, 332, 333, 334] (by decide +kernel) (by decide +kernel)
set_option maxRecDepth 20000 in
theorem gX10_solve_X10_walkStage : GoodIn wsX10_solve (wsV RX10 87 RX10 yX10_walkStage wsX10_walkStage) := goodIn_app (goodIn_of _ (by decide +kernel)) ggX10_solve_X10_walkStage
theorem dX10_solve_0 : decode cX10_solve 0 = .ok (.aload_n 0, 1) := by decide +kernel
theorem dX10_solve_1 : decode cX10_solve 1 = .ok (.invokevirtual 76, 3) := by decide +kernel
theorem dX10_solve_4 : decode cX10_solve 4 = .ok (.aload_n 0, 1) := by decide +kernel
theorem dX10_solve_5 : decode cX10_solve 5 = .ok (.invokevirtual 79, 3) := by decide +kernel
theorem dX10_solve_8 : decode cX10_solve 8 = .ok (.istore_n 1, 1) := by decide +kernel
theorem dX10_solve_9 : decode cX10_solve 9 = .ok (.iload_n 1, 1) := by decide +kernel
theorem dX10_solve_10 : decode cX10_solve 10 = .ok (.iconst 1, 1) := by decide +kernel
theorem dX10_solve_11 : decode cX10_solve 11 = .ok (.if_icmp .eq 5, 3) := by decide +kernel
theorem dX10_solve_14 : decode cX10_solve 14 = .ok (.iload_n 1, 1) := by decide +kernel
theorem dX10_solve_15 : decode cX10_solve 15 = .ok (.ireturn, 1) := by decide +kernel
theorem dX10_solve_16 : decode cX10_solve 16 = .ok (.aload_n 0, 1) := by decide +kernel
theorem dX10_solve_17 : decode cX10_solve 17 = .ok (.getfield 16, 3) := by decide +kernel
theorem dX10_solve_20 : decode cX10_solve 20 = .ok (.aload_n 0, 1) := by decide +kernel
theorem dX10_solve_21 : decode cX10_solve 21 = .ok (.getfield 10, 3) := by decide +kernel
theorem dX10_solve_24 : decode cX10_solve 24 = .ok (.invokevirtual 83, 3) := by decide +kernel
theorem dX10_solve_27 : decode cX10_solve 27 = .ok (.iconst 0, 1) := by decide +kernel
theorem dX10_solve_28 : decode cX10_solve 28 = .ok (.istore_n 2, 1) := by decide +kernel
theorem dX10_solve_29 : decode cX10_solve 29 = .ok (.iload_n 2, 1) := by decide +kernel
theorem dX10_solve_30 : decode cX10_solve 30 = .ok (.iconst 4, 1) := by decide +kernel
theorem dX10_solve_31 : decode cX10_solve 31 = .ok (.if_icmp .ge 14, 3) := by decide +kernel
theorem dX10_solve_34 : decode cX10_solve 34 = .ok (.aload_n 0, 1) := by decide +kernel
theorem dX10_solve_35 : decode cX10_solve 35 = .ok (.iload_n 2, 1) := by decide +kernel
theorem dX10_solve_36 : decode cX10_solve 36 = .ok (.invokevirtual 87, 3) := by decide +kernel
theorem dX10_solve_39 : decode cX10_solve 39 = .ok (.iinc 2 1, 3) := by decide +kernel
theorem dX10_solve_42 : decode cX10_solve 42 = .ok (.goto (-13), 3) := by decide +kernel
theorem dX10_solve_45 : decode cX10_solve 45 = .ok (.aload_n 0, 1) := by decide +kernel
theorem dX10_solve_46 : decode cX10_solve 46 = .ok (.getfield 32, 3) := by decide +kernel
theorem dX10_solve_49 : decode cX10_solve 49 = .ok (.ireturn, 1) := by decide +kernel
theorem dX10_stage_0 : decode cX10_stage 0 = .ok (.iload_n 1, 1) := by decide +kernel
theorem dX10_stage_1 : decode cX10_stage 1 = .ok (.iconst 1, 1) := by decide +kernel
theorem dX10_stage_2 : decode cX10_stage 2 = .ok (.if_icmp .lt 19, 3) := by decide +kernel
theorem dX10_stage_5 : decode cX10_stage 5 = .ok (.iload_n 1, 1) := by decide +kernel
theorem dX10_stage_6 : decode cX10_stage 6 = .ok (.iconst 4, 1) := by decide +kernel
theorem dX10_stage_7 : decode cX10_stage 7 = .ok (.if_icmp .gt 14, 3) := by decide +kernel
theorem dX10_stage_10 : decode cX10_stage 10 = .ok (.aload_n 0, 1) := by decide +kernel
theorem dX10_stage_11 : decode cX10_stage 11 = .ok (.getfield 25, 3) := by decide +kernel
theorem dX10_stage_14 : decode cX10_stage 14 = .ok (.iload_n 1, 1) := by decide +kernel
theorem dX10_stage_15 : decode cX10_stage 15 = .ok (.iconst 1, 1) := by decide +kernel
theorem dX10_stage_16 : decode cX10_stage 16 = .ok (.isub, 1) := by decide +kernel
theorem dX10_stage_17 : decode cX10_stage 17 = .ok (.iaload, 1) := by decide +kernel
theorem dX10_stage_18 : decode cX10_stage 18 = .ok (.goto 4, 3) := by decide +kernel
theorem dX10_stage_21 : decode cX10_stage 21 = .ok (.iconst (-1), 1) := by decide +kernel
theorem dX10_stage_22 : decode cX10_stage 22 = .ok (.ireturn, 1) := by decide +kernel
theorem dX10_step_0 : decode cX10_step 0 = .ok (.iload_n 1, 1) := by decide +kernel
theorem dX10_step_1 : decode cX10_step 1 = .ok (.ifCond .lt 20, 3) := by decide +kernel
theorem dX10_step_4 : decode cX10_step 4 = .ok (.iload_n 1, 1) := by decide +kernel
theorem dX10_step_5 : decode cX10_step 5 = .ok (.aload_n 0, 1) := by decide +kernel
theorem dX10_step_6 : decode cX10_step 6 = .ok (.getfield 32, 3) := by decide +kernel
theorem dX10_step_9 : decode cX10_step 9 = .ok (.if_icmp .ge 12, 3) := by decide +kernel
theorem dX10_step_12 : decode cX10_step 12 = .ok (.aload_n 0, 1) := by decide +kernel
theorem dX10_step_13 : decode cX10_step 13 = .ok (.getfield 29, 3) := by decide +kernel
theorem dX10_step_16 : decode cX10_step 16 = .ok (.iload_n 1, 1) := by decide +kernel
theorem dX10_step_17 : decode cX10_step 17 = .ok (.iaload, 1) := by decide +kernel
theorem dX10_step_18 : decode cX10_step 18 = .ok (.goto 4, 3) := by decide +kernel
theorem dX10_step_21 : decode cX10_step 21 = .ok (.iconst (-1), 1) := by decide +kernel
theorem dX10_step_22 : decode cX10_step 22 = .ok (.ireturn, 1) := by decide +kernel
set_option maxRecDepth 20000 in
theorem ggX10_flips_X10_lawful : GoodIn wsX10_flips wsX10_lawful := goodIn_r _ [6, 1, 7, 8, 9, 10, 11, 12, 13, 14, 15, 16, 17, 18, 19, 20, 21, 22, 23, 24, 25, 291, 292, 293, 294, 295, 296, 297, 298, 299, 300, 301, 302, 303, 304, 305] (by decide +kernel) (by decide +kernel)
set_option maxRecDepth 20000 in
theorem gX10_flips_X10_lawful : GoodIn wsX10_flips (wsV RX10 79 RX10 yX10_lawful wsX10_lawful) := goodIn_app (goodIn_of _ (by decide +kernel)) ggX10_flips_X10_lawful
set_option maxRecDepth 20000 in
theorem ggX10_flips_X10_knownStage : GoodIn wsX10_flips wsX10_knownStage := goodIn_r _ [29, 30, 31, 32, 5, 33, 34, 35, 36, 37, 38, 39, 40, 41, 42, 43, 44, 45, 46, 47, 48, 49, 50, 51, 52, 53, 54, 55, 56, 57, 58, 59, 60, 61, 62, 63, 64, 65, 66, 67, 68, 69, 70, 71, 72, 73, 74, 75, 76, 77, 78, 79, 80, 81, 82, 83, 84, 85, 86, 87, 88, 89, 90, 91, 92, 93, 94, 95, 96, 97, 98, 99, 291, 292, 293, 294, 295, 296, 297, 306, 307, 308, 309, 310, 311, 312, 313, 314, 315, 316, 317, 318, 319, 320, 321, 322, 323, 324, 325, 326, 327, 328, 329, 330, 331, 332, 333, 334, 335] (by decide +kernel) (by decide +kernel)
set_option maxRecDepth 20000 in
theorem gX10_flips_X10_knownStage : GoodIn wsX10_flips (wsV RX10 90 RX10 yX10_knownStage wsX10_knownStage) := goodIn_app (goodIn_of _ (by decide +kernel)) ggX10_flips_X10_knownStage
set_option maxRecDepth 20000 in
theorem ggX10_flips_X9_find : GoodIn wsX10_flips wsX9_find := goodIn_r _ [103, 104, 105, 106, 107, 36, 108, 72, 74, 109, 110, 111, 112, 58, 113, 63, 114, 115, 116, 117, 118, 119, 49, 120, 121, 122, 123, 124, 125, 126, 127, 40, 128, 129, 130, 131, 132, 133, 52, 134, 135, 97, 136, 137, 138, 46, 139, 140, 141, 85, 86, 142, 143, 144, 145, 146, 147, 148, 149, 150, 151, 152, 153, 154, 155, 156, 157, 158, 159, 43, 160, 80, 161, 79, 162, 163, 164, 165, 166, 167, 168, 169, 170, 171, 172, 173, 174, 175, 176, 177, 178, 179, 69, 180, 181, 182, 183, 184, 185, 186, 187, 12, 64, 73, 188, 189, 190, 191, 192, 61, 62, 14, 21, 193, 194, 195, 196, 197, 198, 15, 20, 199, 200, 201, 202, 203, 204, 205, 206, 207, 92, 208, 209, 210, 211, 212, 213, 214, 215, 216, 217, 98, 218, 219, 220, 221, 87, 222, 223, 224, 225, 226, 227, 228, 229, 230, 231, 232, 233, 234, 235, 236, 237, 238, 239, 240, 241, 242, 71, 243, 244, 245, 246, 247, 248, 249, 250, 70, 251, 252, 253, 254, 255, 256, 257, 258, 259, 260, 261, 262, 263, 264, 265, 266, 267, 268, 269, 270, 271, 272, 273, 274, 275, 276, 277, 278, 279, 280, 281, 282, 283, 75, 284, 285, 286, 287, 288, 289, 290, 306, 307, 308, 309, 310, 311, 312, 327, 328, 329, 330, 313, 314, 315, 331, 332, 333, 334, 335, 321, 322, 323, 324, 325, 326, 316, 317, 318, 319, 320, 298, 299, 300, 301, 302, 303, 304, 305] (by decide +kernel) (by decide +kernel)
set_option maxRecDepth 20000 in
theorem gX10_flips_X9_find : GoodIn wsX10_flips (wsV RX10 94 RX9 yX9_find wsX9_find) := goodIn_app (goodIn_of _ (by decide +kernel)) ggX10_flips_X9_find
end
section
theorem dX10_flips_0 : decode cX10_flips 0 = .ok (.aload_n 0, 1) := by decide +kernel
theorem dX10_flips_1 : decode cX10_flips 1 = .ok (.invokevirtual 79, 3) := by decide +kernel
theorem dX10_flips_4 : decode cX10_flips 4 = .ok (.istore_n 1, 1) := by decide +kernel
theorem dX10_flips_5 : decode cX10_flips 5 = .ok (.iload_n 1, 1) := by decide +kernel
theorem dX10_flips_6 : decode cX10_flips 6 = .ok (.iconst 1, 1) := by decide +kernel
theorem dX10_flips_7 : decode cX10_flips 7 = .ok (.if_icmp .ne 18, 3) := by decide +kernel
theorem dX10_flips_10 : decode cX10_flips 10 = .ok (.aload_n 0, 1) := by decide +kernel
theorem dX10_flips_11 : decode cX10_flips 11 = .ok (.iconst 0, 1) := by decide +kernel
theorem dX10_flips_12 : decode cX10_flips 12 = .ok (.invokevirtual 90, 3) := by decide +kernel
theorem dX10_flips_15 : decode cX10_flips 15 = .ok (.aload_n 0, 1) := by decide +kernel
theorem dX10_flips_16 : decode cX10_flips 16 = .ok (.getfield 10, 3) := by decide +kernel
theorem dX10_flips_19 : decode cX10_flips 19 = .ok (.invokevirtual 94, 3) := by decide +kernel
theorem dX10_flips_22 : decode cX10_flips 22 = .ok (.goto 4, 3) := by decide +kernel
theorem dX10_flips_25 : decode cX10_flips 25 = .ok (.iload_n 1, 1) := by decide +kernel
theorem dX10_flips_26 : decode cX10_flips 26 = .ok (.ireturn, 1) := by decide +kernel
theorem dX10_forgetWay_0 : decode cX10_forgetWay 0 = .ok (.aload_n 0, 1) := by decide +kernel
theorem dX10_forgetWay_1 : decode cX10_forgetWay 1 = .ok (.iconst 0, 1) := by decide +kernel
theorem dX10_forgetWay_2 : decode cX10_forgetWay 2 = .ok (.putfield 32, 3) := by decide +kernel
theorem dX10_forgetWay_5 : decode cX10_forgetWay 5 = .ok (.iconst 0, 1) := by decide +kernel
theorem dX10_forgetWay_6 : decode cX10_forgetWay 6 = .ok (.istore_n 1, 1) := by decide +kernel
theorem dX10_forgetWay_7 : decode cX10_forgetWay 7 = .ok (.iload_n 1, 1) := by decide +kernel
theorem dX10_forgetWay_8 : decode cX10_forgetWay 8 = .ok (.iconst 4, 1) := by decide +kernel
theorem dX10_forgetWay_9 : decode cX10_forgetWay 9 = .ok (.if_icmp .ge 16, 3) := by decide +kernel
theorem dX10_forgetWay_12 : decode cX10_forgetWay 12 = .ok (.aload_n 0, 1) := by decide +kernel
theorem dX10_forgetWay_13 : decode cX10_forgetWay 13 = .ok (.getfield 25, 3) := by decide +kernel
theorem dX10_forgetWay_16 : decode cX10_forgetWay 16 = .ok (.iload_n 1, 1) := by decide +kernel
theorem dX10_forgetWay_17 : decode cX10_forgetWay 17 = .ok (.iconst 0, 1) := by decide +kernel
theorem dX10_forgetWay_18 : decode cX10_forgetWay 18 = .ok (.iastore, 1) := by decide +kernel
theorem dX10_forgetWay_19 : decode cX10_forgetWay 19 = .ok (.iinc 1 1, 3) := by decide +kernel
theorem dX10_forgetWay_22 : decode cX10_forgetWay 22 = .ok (.goto (-15), 3) := by decide +kernel
theorem dX10_forgetWay_25 : decode cX10_forgetWay 25 = .ok (.return_, 1) := by decide +kernel
set_option maxRecDepth 20000 in
theorem ggX10_walkStage_X10_knownStage : GoodIn wsX10_walkStage wsX10_knownStage := goodIn_r _ [10, 11, 12, 13, 9, 14, 15, 16, 17, 18, 19, 20, 21, 22, 23, 24, 25, 26, 27, 28, 29, 30, 31, 32, 33, 34, 35, 36, 37, 38, 39, 40, 41, 42, 43, 44, 45, 46, 47, 48, 49, 50, 51, 52, 53, 54, 55, 56, 57, 58, 59, 60, 61, 62, 63, 64, 65, 66, 67, 68, 69, 70, 71, 72, 73, 74, 75, 76, 77, 78, 79, 80, 285, 286, 287, 288, 289, 290, 291, 292, 293, 294, 295, 296, 297, 298, 299, 300, 301, 302, 303, 304, 305, 306, 307, 308, 309, 310, 311, 312, 313, 314, 315, 316, 317, 318, 319, 320, 321] (by decide +kernel) (by decide +kernel)
set_option maxRecDepth 20000 in
theorem gX10_walkStage_X10_knownStage : GoodIn wsX10_walkStage (wsV RX10 90 RX10 yX10_knownStage wsX10_knownStage) := goodIn_app (goodIn_of _ (by decide +kernel)) ggX10_walkStage_X10_knownStage
set_option maxRecDepth 20000 in
theorem ggX10_walkStage_X9_find : GoodIn wsX10_walkStage wsX9_find := goodIn_r _ [84, 85, 86, 87, 88, 17, 89, 53, 55, 90, 91, 92, 93, 39, 94, 44, 95, 96, 97, 98, 99, 100, 30, 101, 102, 103, 104, 105, 106, 107, 108, 21, 109, 110, 111, 112, 113, 114, 33, 115, 116, 78, 117, 118, 119, 27, 120, 121, 122, 66, 67, 123, 124, 125, 126, 127, 128, 129, 130, 131, 132, 133, 134, 135, 136, 137, 138, 139, 140, 24, 141, 61, 142, 60, 143, 144, 145, 146, 147, 148, 149, 150, 151, 152, 153, 154, 155, 156, 157, 158, 159, 160, 50, 161, 162, 163, 164, 165, 166, 167, 168, 169, 45, 54, 170, 171, 172, 173, 174, 42, 43, 175, 176, 177, 178, 179, 180, 181, 182, 183, 184, 185, 186, 187, 188, 189, 190, 191, 192, 193, 73, 194, 195, 196, 197, 198, 199, 200, 201, 202, 203, 79, 204, 205, 206, 207, 68, 208, 209, 210, 211, 212, 213, 214, 215, 216, 217, 218, 219, 220, 221, 222, 223, 224, 225, 226, 227, 228, 52, 229, 230, 231, 232, 233, 234, 235, 236, 51, 237, 238, 239, 240, 241, 242, 243, 244, 245, 246, 247, 248, 249, 250, 251, 252, 253, 254, 255, 256, 257, 258, 259, 260, 261, 262, 263, 264, 265, 266, 267, 268, 269, 56, 270, 271, 272, 273, 274, 275, 276, 292, 293, 294, 295, 296, 297, 298, 313, 314, 315, 316, 299, 300, 301, 317, 318, 319, 320, 321, 307, 308, 309, 310, 311, 312, 302, 303, 304, 305, 306, 322, 323, 324, 325, 326, 327, 328, 329] (by decide +kernel) (by decide +kernel)
set_option maxRecDepth 20000 in
theorem gX10_walkStage_X9_find : GoodIn wsX10_walkStage (wsV RX10 94 RX9 yX9_find wsX9_find) := goodIn_app (goodIn_of _ (by decide +kernel)) ggX10_walkStage_X9_find
set_option maxRecDepth 20000 in
theorem ggX10_walkStage_X1_make : GoodIn wsX10_walkStage wsX1_make := goodIn_r _ [281, 282, 283, 284, 218, 219, 169, 220, 183, 179, 184, 182, 176, 322, 323, 324, 325, 326, 327, 328, 329] (by decide +kernel) (by decide +kernel)
set_option maxRecDepth 20000 in
theorem gX10_walkStage_X1_make : GoodIn wsX10_walkStage (wsV RX10 66 RX1 yX1_make wsX1_make) := goodIn_app (goodIn_of _ (by decide +kernel)) ggX10_walkStage_X1_make
theorem dX10_walkStage_0 : decode cX10_walkStage 0 = .ok (.aload_n 0, 1) := by decide +kernel
theorem dX10_walkStage_1 : decode cX10_walkStage 1 = .ok (.iload_n 1, 1) := by decide +kernel
theorem dX10_walkStage_2 : decode cX10_walkStage 2 = .ok (.invokevirtual 90, 3) := by decide +kernel
theorem dX10_walkStage_5 : decode cX10_walkStage 5 = .ok (.astore_n 2, 1) := by decide +kernel
theorem dX10_walkStage_6 : decode cX10_walkStage 6 = .ok (.aload_n 2, 1) := by decide +kernel
theorem dX10_walkStage_7 : decode cX10_walkStage 7 = .ok (.aload_n 0, 1) := by decide +kernel
theorem dX10_walkStage_8 : decode cX10_walkStage 8 = .ok (.getfield 16, 3) := by decide +kernel
theorem dX10_walkStage_11 : decode cX10_walkStage 11 = .ok (.invokevirtual 94, 3) := by decide +kernel
theorem dX10_walkStage_14 : decode cX10_walkStage 14 = .ok (.istore_n 3, 1) := by decide +kernel
theorem dX10_walkStage_15 : decode cX10_walkStage 15 = .ok (.aload_n 0, 1) := by decide +kernel
theorem dX10_walkStage_16 : decode cX10_walkStage 16 = .ok (.getfield 25, 3) := by decide +kernel
theorem dX10_walkStage_19 : decode cX10_walkStage 19 = .ok (.iload_n 1, 1) := by decide +kernel
theorem dX10_walkStage_20 : decode cX10_walkStage 20 = .ok (.iload_n 3, 1) := by decide +kernel
theorem dX10_walkStage_21 : decode cX10_walkStage 21 = .ok (.iastore, 1) := by decide +kernel
theorem dX10_walkStage_22 : decode cX10_walkStage 22 = .ok (.iconst 0, 1) := by decide +kernel
theorem dX10_walkStage_23 : decode cX10_walkStage 23 = .ok (.istore 4, 2) := by decide +kernel
theorem dX10_walkStage_25 : decode cX10_walkStage 25 = .ok (.iload 4, 2) := by decide +kernel
theorem dX10_walkStage_27 : decode cX10_walkStage 27 = .ok (.iload_n 3, 1) := by decide +kernel
theorem dX10_walkStage_28 : decode cX10_walkStage 28 = .ok (.if_icmp .ge 49, 3) := by decide +kernel
theorem dX10_walkStage_31 : decode cX10_walkStage 31 = .ok (.aload_n 0, 1) := by decide +kernel
theorem dX10_walkStage_32 : decode cX10_walkStage 32 = .ok (.getfield 16, 3) := by decide +kernel
theorem dX10_walkStage_35 : decode cX10_walkStage 35 = .ok (.aload_n 2, 1) := by decide +kernel
theorem dX10_walkStage_36 : decode cX10_walkStage 36 = .ok (.getfield 98, 3) := by decide +kernel
theorem dX10_walkStage_39 : decode cX10_walkStage 39 = .ok (.iload 4, 2) := by decide +kernel
theorem dX10_walkStage_41 : decode cX10_walkStage 41 = .ok (.iaload, 1) := by decide +kernel
theorem dX10_walkStage_42 : decode cX10_walkStage 42 = .ok (.invokevirtual 66, 3) := by decide +kernel
theorem dX10_walkStage_45 : decode cX10_walkStage 45 = .ok (.aload_n 0, 1) := by decide +kernel
theorem dX10_walkStage_46 : decode cX10_walkStage 46 = .ok (.getfield 29, 3) := by decide +kernel
theorem dX10_walkStage_49 : decode cX10_walkStage 49 = .ok (.aload_n 0, 1) := by decide +kernel
theorem dX10_walkStage_50 : decode cX10_walkStage 50 = .ok (.getfield 32, 3) := by decide +kernel
theorem dX10_walkStage_53 : decode cX10_walkStage 53 = .ok (.aload_n 2, 1) := by decide +kernel
theorem dX10_walkStage_54 : decode cX10_walkStage 54 = .ok (.getfield 98, 3) := by decide +kernel
theorem dX10_walkStage_57 : decode cX10_walkStage 57 = .ok (.iload 4, 2) := by decide +kernel
theorem dX10_walkStage_59 : decode cX10_walkStage 59 = .ok (.iaload, 1) := by decide +kernel
theorem dX10_walkStage_60 : decode cX10_walkStage 60 = .ok (.iastore, 1) := by decide +kernel
theorem dX10_walkStage_61 : decode cX10_walkStage 61 = .ok (.aload_n 0, 1) := by decide +kernel
theorem dX10_walkStage_62 : decode cX10_walkStage 62 = .ok (.dup, 1) := by decide +kernel
theorem dX10_walkStage_63 : decode cX10_walkStage 63 = .ok (.getfield 32, 3) := by decide +kernel
theorem dX10_walkStage_66 : decode cX10_walkStage 66 = .ok (.iconst 1, 1) := by decide +kernel
theorem dX10_walkStage_67 : decode cX10_walkStage 67 = .ok (.iadd, 1) := by decide +kernel
theorem dX10_walkStage_68 : decode cX10_walkStage 68 = .ok (.putfield 32, 3) := by decide +kernel
theorem dX10_walkStage_71 : decode cX10_walkStage 71 = .ok (.iinc 4 1, 3) := by decide +kernel
theorem dX10_walkStage_74 : decode cX10_walkStage 74 = .ok (.goto (-49), 3) := by decide +kernel
theorem dX10_walkStage_77 : decode cX10_walkStage 77 = .ok (.return_, 1) := by decide +kernel
set_option maxRecDepth 20000 in
theorem ggX10_knownStage_X10_newStage : GoodIn wsX10_knownStage wsX10_newStage := goodIn_r _ [5, 6, 7, 8, 9, 10, 11, 12, 13, 14, 15, 16, 17, 18, 19, 20, 21, 22, 23, 24, 25, 26, 27, 28, 29, 30, 31, 32, 33, 34, 35, 36, 37, 38, 39, 40, 41, 42, 43, 44, 45, 46, 47, 48, 49, 50, 51, 52, 53, 54, 55, 56, 57, 58, 59, 60, 61, 62, 63, 64, 65, 66, 67, 68, 69, 70, 71, 79, 80, 81, 82, 83, 84, 85, 86, 87, 88, 89, 90, 91, 92, 93, 94, 95, 96, 97, 98, 99, 100, 101, 102, 103, 104, 105, 106, 107, 108] (by decide +kernel) (by decide +kernel)
set_option maxRecDepth 20000 in
theorem gX10_knownStage_X10_newStage : GoodIn wsX10_knownStage (va_wsS RX10 101 yX10_newStage wsX10_newStage) := goodIn_app (goodIn_of _ (by decide +kernel)) ggX10_knownStage_X10_newStage
theorem dX10_knownStage_0 : decode cX10_knownStage 0 = .ok (.aload_n 0, 1) := by decide +kernel
theorem dX10_knownStage_1 : decode cX10_knownStage 1 = .ok (.getfield 21, 3) := by decide +kernel
theorem dX10_knownStage_4 : decode cX10_knownStage 4 = .ok (.iload_n 1, 1) := by decide +kernel
theorem dX10_knownStage_5 : decode cX10_knownStage 5 = .ok (.aaload, 1) := by decide +kernel
theorem dX10_knownStage_6 : decode cX10_knownStage 6 = .ok (.ifnonnull 13, 3) := by decide +kernel
theorem dX10_knownStage_9 : decode cX10_knownStage 9 = .ok (.aload_n 0, 1) := by decide +kernel
theorem dX10_knownStage_10 : decode cX10_knownStage 10 = .ok (.getfield 21, 3) := by decide +kernel
theorem dX10_knownStage_13 : decode cX10_knownStage 13 = .ok (.iload_n 1, 1) := by decide +kernel
theorem dX10_knownStage_14 : decode cX10_knownStage 14 = .ok (.iload_n 1, 1) := by decide +kernel
theorem dX10_knownStage_15 : decode cX10_knownStage 15 = .ok (.invokestatic 101, 3) := by decide +kernel
theorem dX10_knownStage_18 : decode cX10_knownStage 18 = .ok (.aastore, 1) := by decide +kernel
theorem dX10_knownStage_19 : decode cX10_knownStage 19 = .ok (.aload_n 0, 1) := by decide +kernel
theorem dX10_knownStage_20 : decode cX10_knownStage 20 = .ok (.getfield 21, 3) := by decide +kernel
theorem dX10_knownStage_23 : decode cX10_knownStage 23 = .ok (.iload_n 1, 1) := by decide +kernel
theorem dX10_knownStage_24 : decode cX10_knownStage 24 = .ok (.aaload, 1) := by decide +kernel
theorem dX10_knownStage_25 : decode cX10_knownStage 25 = .ok (.areturn, 1) := by decide +kernel
set_option maxRecDepth 20000 in
theorem ggX10_newStage_X3_init : GoodIn wsX10_newStage wsX3_init := goodIn_r _ [22, 23, 24, 25, 26, 27, 28, 29, 30, 31, 88, 89, 90, 91, 74, 75, 76, 92, 93, 94, 95, 96, 82, 83, 84, 85, 86, 87, 77, 78, 79, 80, 81] (by decide +kernel) (by decide +kernel)
set_option maxRecDepth 20000 in
theorem gX10_newStage_X3_init : GoodIn wsX10_newStage (wsX3_init) := ggX10_newStage_X3_init
set_option maxRecDepth 20000 in
theorem ggX10_newStage_X9_init : GoodIn wsX10_newStage wsX9_init := goodIn_r _ [34, 35, 28, 29, 36, 37, 38, 39, 40, 41, 42, 67, 68, 69, 70, 71, 72, 73] (by decide +kernel) (by decide +kernel)
set_option maxRecDepth 20000 in
theorem gX10_newStage_X9_init : GoodIn wsX10_newStage (wsX9_init) := ggX10_newStage_X9_init
set_option maxRecDepth 20000 in
theorem ggX10_newStage_X8_init : GoodIn wsX10_newStage wsX8_init := goodIn_r _ [45, 46, 47, 48, 24, 25, 26, 27, 28, 29, 30, 31, 77, 78, 79, 80, 81, 88, 89, 90, 91, 74, 75, 76, 92, 93, 94, 95, 96, 82, 83, 84, 85, 86, 87] (by decide +kernel) (by decide +kernel)
set_option maxRecDepth 20000 in
theorem gX10_newStage_X8_init : GoodIn wsX10_newStage (wsX8_init) := ggX10_newStage_X8_init
set_option maxRecDepth 20000 in
theorem ggX10_newStage_X6_init : GoodIn wsX10_newStage wsX6_init := goodIn_r _ [51, 40, 52, 53, 54, 55, 24, 25, 26, 27, 28, 29, 30, 31, 82, 83, 84, 85, 86, 87, 88, 89, 90, 91, 74, 75, 76, 92, 93, 94, 95, 96, 77, 78, 79, 80, 81] (by decide +kernel) (by decide +kernel)
set_option maxRecDepth 20000 in
theorem gX10_newStage_X6_init : GoodIn wsX10_newStage (wsX6_init) := ggX10_newStage_X6_init
set_option maxRecDepth 20000 in
theorem ggX10_newStage_X0_init : GoodIn wsX10_newStage wsX0_init := goodIn_r _ [58, 40, 59, 60, 24, 25, 26, 27, 28, 29, 30, 31, 88, 89, 90, 91, 74, 75, 76, 92, 93, 94, 95, 96, 82, 83, 84, 85, 86, 87, 77, 78, 79, 80, 81] (by decide +kernel) (by decide +kernel)
set_option maxRecDepth 20000 in
theorem gX10_newStage_X0_init : GoodIn wsX10_newStage (wsX0_init) := ggX10_newStage_X0_init
set_option maxRecDepth 20000 in
theorem ggX10_newStage_X5_init : GoodIn wsX10_newStage wsX5_init := goodIn_r _ [63, 64, 40, 65, 66, 24, 25, 26, 27, 28, 29, 30, 31, 92, 93, 94, 95, 96, 88, 89, 90, 91, 74, 75, 76, 82, 83, 84, 85, 86, 87, 77, 78, 79, 80, 81] (by decide +kernel) (by decide +kernel)
set_option maxRecDepth 20000 in
theorem gX10_newStage_X5_init : GoodIn wsX10_newStage (wsX5_init) := ggX10_newStage_X5_init
theorem dX10_newStage_0 : decode cX10_newStage 0 = .ok (.iload_n 0, 1) := by decide +kernel
theorem dX10_newStage_1 : decode cX10_newStage 1 = .ok (.tableswitch 139 0 2 #[27, 57, 98], 27) := by decide +kernel
theorem dX10_newStage_28 : decode cX10_newStage 28 = .ok (.new 19, 3) := by decide +kernel
theorem dX10_newStage_31 : decode cX10_newStage 31 = .ok (.dup, 1) := by decide +kernel
theorem dX10_newStage_32 : decode cX10_newStage 32 = .ok (.bipush 6, 2) := by decide +kernel
theorem dX10_newStage_34 : decode cX10_newStage 34 = .ok (.bipush 7, 2) := by decide +kernel
theorem dX10_newStage_36 : decode cX10_newStage 36 = .ok (.sipush 2048, 3) := by decide +kernel
theorem dX10_newStage_39 : decode cX10_newStage 39 = .ok (.iconst 1, 1) := by decide +kernel
theorem dX10_newStage_40 : decode cX10_newStage 40 = .ok (.anewarray 104, 3) := by decide +kernel
theorem dX10_newStage_43 : decode cX10_newStage 43 = .ok (.dup, 1) := by decide +kernel
theorem dX10_newStage_44 : decode cX10_newStage 44 = .ok (.iconst 0, 1) := by decide +kernel
theorem dX10_newStage_45 : decode cX10_newStage 45 = .ok (.new 106, 3) := by decide +kernel
theorem dX10_newStage_48 : decode cX10_newStage 48 = .ok (.dup, 1) := by decide +kernel
theorem dX10_newStage_49 : decode cX10_newStage 49 = .ok (.iconst 0, 1) := by decide +kernel
theorem dX10_newStage_50 : decode cX10_newStage 50 = .ok (.invokespecial 108, 3) := by decide +kernel
theorem dX10_newStage_53 : decode cX10_newStage 53 = .ok (.aastore, 1) := by decide +kernel
theorem dX10_newStage_54 : decode cX10_newStage 54 = .ok (.invokespecial 111, 3) := by decide +kernel
theorem dX10_newStage_57 : decode cX10_newStage 57 = .ok (.areturn, 1) := by decide +kernel
theorem dX10_newStage_58 : decode cX10_newStage 58 = .ok (.new 19, 3) := by decide +kernel
theorem dX10_newStage_61 : decode cX10_newStage 61 = .ok (.dup, 1) := by decide +kernel
theorem dX10_newStage_62 : decode cX10_newStage 62 = .ok (.iconst 4, 1) := by decide +kernel
theorem dX10_newStage_63 : decode cX10_newStage 63 = .ok (.iconst 5, 1) := by decide +kernel
theorem dX10_newStage_64 : decode cX10_newStage 64 = .ok (.sipush 2048, 3) := by decide +kernel
theorem dX10_newStage_67 : decode cX10_newStage 67 = .ok (.iconst 2, 1) := by decide +kernel
theorem dX10_newStage_68 : decode cX10_newStage 68 = .ok (.anewarray 104, 3) := by decide +kernel
theorem dX10_newStage_71 : decode cX10_newStage 71 = .ok (.dup, 1) := by decide +kernel
theorem dX10_newStage_72 : decode cX10_newStage 72 = .ok (.iconst 0, 1) := by decide +kernel
theorem dX10_newStage_73 : decode cX10_newStage 73 = .ok (.new 106, 3) := by decide +kernel
theorem dX10_newStage_76 : decode cX10_newStage 76 = .ok (.dup, 1) := by decide +kernel
theorem dX10_newStage_77 : decode cX10_newStage 77 = .ok (.iconst 1, 1) := by decide +kernel
theorem dX10_newStage_78 : decode cX10_newStage 78 = .ok (.invokespecial 108, 3) := by decide +kernel
theorem dX10_newStage_81 : decode cX10_newStage 81 = .ok (.aastore, 1) := by decide +kernel
theorem dX10_newStage_82 : decode cX10_newStage 82 = .ok (.dup, 1) := by decide +kernel
theorem dX10_newStage_83 : decode cX10_newStage 83 = .ok (.iconst 1, 1) := by decide +kernel
theorem dX10_newStage_84 : decode cX10_newStage 84 = .ok (.new 114, 3) := by decide +kernel
theorem dX10_newStage_87 : decode cX10_newStage 87 = .ok (.dup, 1) := by decide +kernel
theorem dX10_newStage_88 : decode cX10_newStage 88 = .ok (.iconst 2, 1) := by decide +kernel
theorem dX10_newStage_89 : decode cX10_newStage 89 = .ok (.bipush 12, 2) := by decide +kernel
theorem dX10_newStage_91 : decode cX10_newStage 91 = .ok (.invokespecial 116, 3) := by decide +kernel
theorem dX10_newStage_94 : decode cX10_newStage 94 = .ok (.aastore, 1) := by decide +kernel
theorem dX10_newStage_95 : decode cX10_newStage 95 = .ok (.invokespecial 111, 3) := by decide +kernel
theorem dX10_newStage_98 : decode cX10_newStage 98 = .ok (.areturn, 1) := by decide +kernel
theorem dX10_newStage_99 : decode cX10_newStage 99 = .ok (.new 19, 3) := by decide +kernel
theorem dX10_newStage_102 : decode cX10_newStage 102 = .ok (.dup, 1) := by decide +kernel
theorem dX10_newStage_103 : decode cX10_newStage 103 = .ok (.iconst 2, 1) := by decide +kernel
theorem dX10_newStage_104 : decode cX10_newStage 104 = .ok (.bipush 7, 2) := by decide +kernel
theorem dX10_newStage_106 : decode cX10_newStage 106 = .ok (.sipush 4096, 3) := by decide +kernel
theorem dX10_newStage_109 : decode cX10_newStage 109 = .ok (.iconst 2, 1) := by decide +kernel
theorem dX10_newStage_110 : decode cX10_newStage 110 = .ok (.anewarray 104, 3) := by decide +kernel
theorem dX10_newStage_113 : decode cX10_newStage 113 = .ok (.dup, 1) := by decide +kernel
theorem dX10_newStage_114 : decode cX10_newStage 114 = .ok (.iconst 0, 1) := by decide +kernel
theorem dX10_newStage_115 : decode cX10_newStage 115 = .ok (.new 119, 3) := by decide +kernel
theorem dX10_newStage_118 : decode cX10_newStage 118 = .ok (.dup, 1) := by decide +kernel
theorem dX10_newStage_119 : decode cX10_newStage 119 = .ok (.invokespecial 121, 3) := by decide +kernel
theorem dX10_newStage_122 : decode cX10_newStage 122 = .ok (.aastore, 1) := by decide +kernel
theorem dX10_newStage_123 : decode cX10_newStage 123 = .ok (.dup, 1) := by decide +kernel
theorem dX10_newStage_124 : decode cX10_newStage 124 = .ok (.iconst 1, 1) := by decide +kernel
theorem dX10_newStage_125 : decode cX10_newStage 125 = .ok (.new 114, 3) := by decide +kernel
theorem dX10_newStage_128 : decode cX10_newStage 128 = .ok (.dup, 1) := by decide +kernel
theorem dX10_newStage_129 : decode cX10_newStage 129 = .ok (.iconst 0, 1) := by decide +kernel
theorem dX10_newStage_130 : decode cX10_newStage 130 = .ok (.bipush 8, 2) := by decide +kernel
theorem dX10_newStage_132 : decode cX10_newStage 132 = .ok (.invokespecial 116, 3) := by decide +kernel
theorem dX10_newStage_135 : decode cX10_newStage 135 = .ok (.aastore, 1) := by decide +kernel
theorem dX10_newStage_136 : decode cX10_newStage 136 = .ok (.invokespecial 111, 3) := by decide +kernel
theorem dX10_newStage_139 : decode cX10_newStage 139 = .ok (.areturn, 1) := by decide +kernel
theorem dX10_newStage_140 : decode cX10_newStage 140 = .ok (.new 19, 3) := by decide +kernel
theorem dX10_newStage_143 : decode cX10_newStage 143 = .ok (.dup, 1) := by decide +kernel
theorem dX10_newStage_144 : decode cX10_newStage 144 = .ok (.iconst 0, 1) := by decide +kernel
theorem dX10_newStage_145 : decode cX10_newStage 145 = .ok (.bipush 7, 2) := by decide +kernel
theorem dX10_newStage_147 : decode cX10_newStage 147 = .ok (.sipush 10240, 3) := by decide +kernel
theorem dX10_newStage_150 : decode cX10_newStage 150 = .ok (.iconst 4, 1) := by decide +kernel
theorem dX10_newStage_151 : decode cX10_newStage 151 = .ok (.anewarray 104, 3) := by decide +kernel
theorem dX10_newStage_154 : decode cX10_newStage 154 = .ok (.dup, 1) := by decide +kernel
theorem dX10_newStage_155 : decode cX10_newStage 155 = .ok (.iconst 0, 1) := by decide +kernel
theorem dX10_newStage_156 : decode cX10_newStage 156 = .ok (.new 122, 3) := by decide +kernel
theorem dX10_newStage_159 : decode cX10_newStage 159 = .ok (.dup, 1) := by decide +kernel
theorem dX10_newStage_160 : decode cX10_newStage 160 = .ok (.invokespecial 124, 3) := by decide +kernel
theorem dX10_newStage_163 : decode cX10_newStage 163 = .ok (.aastore, 1) := by decide +kernel
theorem dX10_newStage_164 : decode cX10_newStage 164 = .ok (.dup, 1) := by decide +kernel
theorem dX10_newStage_165 : decode cX10_newStage 165 = .ok (.iconst 1, 1) := by decide +kernel
theorem dX10_newStage_166 : decode cX10_newStage 166 = .ok (.new 125, 3) := by decide +kernel
theorem dX10_newStage_169 : decode cX10_newStage 169 = .ok (.dup, 1) := by decide +kernel
theorem dX10_newStage_170 : decode cX10_newStage 170 = .ok (.iconst 0, 1) := by decide +kernel
theorem dX10_newStage_171 : decode cX10_newStage 171 = .ok (.invokespecial 127, 3) := by decide +kernel
theorem dX10_newStage_174 : decode cX10_newStage 174 = .ok (.aastore, 1) := by decide +kernel
theorem dX10_newStage_175 : decode cX10_newStage 175 = .ok (.dup, 1) := by decide +kernel
theorem dX10_newStage_176 : decode cX10_newStage 176 = .ok (.iconst 2, 1) := by decide +kernel
theorem dX10_newStage_177 : decode cX10_newStage 177 = .ok (.new 125, 3) := by decide +kernel
theorem dX10_newStage_180 : decode cX10_newStage 180 = .ok (.dup, 1) := by decide +kernel
theorem dX10_newStage_181 : decode cX10_newStage 181 = .ok (.iconst 1, 1) := by decide +kernel
theorem dX10_newStage_182 : decode cX10_newStage 182 = .ok (.invokespecial 127, 3) := by decide +kernel
theorem dX10_newStage_185 : decode cX10_newStage 185 = .ok (.aastore, 1) := by decide +kernel
theorem dX10_newStage_186 : decode cX10_newStage 186 = .ok (.dup, 1) := by decide +kernel
theorem dX10_newStage_187 : decode cX10_newStage 187 = .ok (.iconst 3, 1) := by decide +kernel
theorem dX10_newStage_188 : decode cX10_newStage 188 = .ok (.new 125, 3) := by decide +kernel
theorem dX10_newStage_191 : decode cX10_newStage 191 = .ok (.dup, 1) := by decide +kernel
theorem dX10_newStage_192 : decode cX10_newStage 192 = .ok (.iconst 2, 1) := by decide +kernel
theorem dX10_newStage_193 : decode cX10_newStage 193 = .ok (.invokespecial 127, 3) := by decide +kernel
theorem dX10_newStage_196 : decode cX10_newStage 196 = .ok (.aastore, 1) := by decide +kernel
theorem dX10_newStage_197 : decode cX10_newStage 197 = .ok (.invokespecial 111, 3) := by decide +kernel
theorem dX10_newStage_200 : decode cX10_newStage 200 = .ok (.areturn, 1) := by decide +kernel
set_option maxRecDepth 20000 in
theorem ggX11_init_X11_face : GoodIn wsX11_init wsX11_face := goodIn_r _ [49, 43, 15, 17, 16, 18, 50, 51, 48, 52, 57, 58, 59, 60, 61, 62, 63, 64, 65, 66, 67, 68, 69, 70, 71, 72, 73, 74, 75, 76, 77, 78, 79, 80, 81, 82, 83, 84, 85, 86, 87, 88, 89, 90, 91, 92, 93, 94] (by decide +kernel) (by decide +kernel)
set_option maxRecDepth 20000 in
theorem gX11_init_X11_face : GoodIn wsX11_init (wsV RX11 118 RX11 yX11_face wsX11_face) := goodIn_app (goodIn_of _ (by decide +kernel)) ggX11_init_X11_face
set_option maxRecDepth 20000 in
theorem ggX11_init_X11_bringHome : GoodIn wsX11_init wsX11_bringHome := goodIn_r _ [56, 7, 8, 5, 6, 57, 58, 59, 60, 61, 62, 63, 64, 65, 66, 67, 68, 69, 70, 71, 72, 73, 74, 75, 76, 77, 78, 79, 80, 81, 82, 83, 84, 85, 86, 87, 88, 89, 90, 91, 92, 93, 94] (by decide +kernel) (by decide +kernel)
set_option maxRecDepth 20000 in
theorem gX11_init_X11_bringHome : GoodIn wsX11_init (wsV RX11 122 RX11 yX11_bringHome wsX11_bringHome) := goodIn_app (goodIn_of _ (by decide +kernel)) ggX11_init_X11_bringHome
theorem dX11_init_0 : decode cX11_init 0 = .ok (.aload_n 0, 1) := by decide +kernel
theorem dX11_init_1 : decode cX11_init 1 = .ok (.invokespecial 1, 3) := by decide +kernel
theorem dX11_init_4 : decode cX11_init 4 = .ok (.aload_n 0, 1) := by decide +kernel
theorem dX11_init_5 : decode cX11_init 5 = .ok (.bipush 8, 2) := by decide +kernel
theorem dX11_init_7 : decode cX11_init 7 = .ok (.newarray .int, 2) := by decide +kernel
theorem dX11_init_9 : decode cX11_init 9 = .ok (.putfield 7, 3) := by decide +kernel
theorem dX11_init_12 : decode cX11_init 12 = .ok (.aload_n 0, 1) := by decide +kernel
theorem dX11_init_13 : decode cX11_init 13 = .ok (.bipush 8, 2) := by decide +kernel
theorem dX11_init_15 : decode cX11_init 15 = .ok (.newarray .int, 2) := by decide +kernel
theorem dX11_init_17 : decode cX11_init 17 = .ok (.putfield 13, 3) := by decide +kernel
theorem dX11_init_20 : decode cX11_init 20 = .ok (.aload_n 0, 1) := by decide +kernel
theorem dX11_init_21 : decode cX11_init 21 = .ok (.bipush 12, 2) := by decide +kernel
theorem dX11_init_23 : decode cX11_init 23 = .ok (.newarray .int, 2) := by decide +kernel
theorem dX11_init_25 : decode cX11_init 25 = .ok (.putfield 16, 3) := by decide +kernel
theorem dX11_init_28 : decode cX11_init 28 = .ok (.aload_n 0, 1) := by decide +kernel
theorem dX11_init_29 : decode cX11_init 29 = .ok (.bipush 12, 2) := by decide +kernel
theorem dX11_init_31 : decode cX11_init 31 = .ok (.newarray .int, 2) := by decide +kernel
theorem dX11_init_33 : decode cX11_init 33 = .ok (.putfield 19, 3) := by decide +kernel
theorem dX11_init_36 : decode cX11_init 36 = .ok (.aload_n 0, 1) := by decide +kernel
theorem dX11_init_37 : decode cX11_init 37 = .ok (.bipush 8, 2) := by decide +kernel
theorem dX11_init_39 : decode cX11_init 39 = .ok (.newarray .int, 2) := by decide +kernel
theorem dX11_init_41 : decode cX11_init 41 = .ok (.putfield 22, 3) := by decide +kernel
theorem dX11_init_44 : decode cX11_init 44 = .ok (.aload_n 0, 1) := by decide +kernel
theorem dX11_init_45 : decode cX11_init 45 = .ok (.bipush 8, 2) := by decide +kernel
theorem dX11_init_47 : decode cX11_init 47 = .ok (.newarray .int, 2) := by decide +kernel
theorem dX11_init_49 : decode cX11_init 49 = .ok (.putfield 25, 3) := by decide +kernel
theorem dX11_init_52 : decode cX11_init 52 = .ok (.aload_n 0, 1) := by decide +kernel
theorem dX11_init_53 : decode cX11_init 53 = .ok (.bipush 12, 2) := by decide +kernel
theorem dX11_init_55 : decode cX11_init 55 = .ok (.newarray .int, 2) := by decide +kernel
theorem dX11_init_57 : decode cX11_init 57 = .ok (.putfield 28, 3) := by decide +kernel
theorem dX11_init_60 : decode cX11_init 60 = .ok (.aload_n 0, 1) := by decide +kernel
theorem dX11_init_61 : decode cX11_init 61 = .ok (.bipush 12, 2) := by decide +kernel
theorem dX11_init_63 : decode cX11_init 63 = .ok (.newarray .int, 2) := by decide +kernel
theorem dX11_init_65 : decode cX11_init 65 = .ok (.putfield 31, 3) := by decide +kernel
theorem dX11_init_68 : decode cX11_init 68 = .ok (.aload_n 0, 1) := by decide +kernel
theorem dX11_init_69 : decode cX11_init 69 = .ok (.bipush 12, 2) := by decide +kernel
theorem dX11_init_71 : decode cX11_init 71 = .ok (.newarray .int, 2) := by decide +kernel
theorem dX11_init_73 : decode cX11_init 73 = .ok (.putfield 34, 3) := by decide +kernel
theorem dX11_init_76 : decode cX11_init 76 = .ok (.aload_n 0, 1) := by decide +kernel
theorem dX11_init_77 : decode cX11_init 77 = .ok (.bipush 12, 2) := by decide +kernel
theorem dX11_init_79 : decode cX11_init 79 = .ok (.newarray .int, 2) := by decide +kernel
theorem dX11_init_81 : decode cX11_init 81 = .ok (.putfield 37, 3) := by decide +kernel
theorem dX11_init_84 : decode cX11_init 84 = .ok (.aload_n 0, 1) := by decide +kernel
theorem dX11_init_85 : decode cX11_init 85 = .ok (.sipush 144, 3) := by decide +kernel
theorem dX11_init_88 : decode cX11_init 88 = .ok (.newarray .int, 2) := by decide +kernel
theorem dX11_init_90 : decode cX11_init 90 = .ok (.putfield 40, 3) := by decide +kernel
theorem dX11_init_93 : decode cX11_init 93 = .ok (.aload_n 0, 1) := by decide +kernel
theorem dX11_init_94 : decode cX11_init 94 = .ok (.sipush 144, 3) := by decide +kernel
theorem dX11_init_97 : decode cX11_init 97 = .ok (.newarray .int, 2) := by decide +kernel
theorem dX11_init_99 : decode cX11_init 99 = .ok (.putfield 43, 3) := by decide +kernel
theorem dX11_init_102 : decode cX11_init 102 = .ok (.aload_n 0, 1) := by decide +kernel
theorem dX11_init_103 : decode cX11_init 103 = .ok (.sipush 216, 3) := by decide +kernel
theorem dX11_init_106 : decode cX11_init 106 = .ok (.newarray .int, 2) := by decide +kernel
theorem dX11_init_108 : decode cX11_init 108 = .ok (.putfield 46, 3) := by decide +kernel
theorem dX11_init_111 : decode cX11_init 111 = .ok (.aload_n 0, 1) := by decide +kernel
theorem dX11_init_112 : decode cX11_init 112 = .ok (.sipush 216, 3) := by decide +kernel
theorem dX11_init_115 : decode cX11_init 115 = .ok (.newarray .int, 2) := by decide +kernel
theorem dX11_init_117 : decode cX11_init 117 = .ok (.putfield 49, 3) := by decide +kernel
theorem dX11_init_120 : decode cX11_init 120 = .ok (.aload_n 0, 1) := by decide +kernel
theorem dX11_init_121 : decode cX11_init 121 = .ok (.bipush 100, 2) := by decide +kernel
theorem dX11_init_123 : decode cX11_init 123 = .ok (.newarray .int, 2) := by decide +kernel
theorem dX11_init_125 : decode cX11_init 125 = .ok (.putfield 52, 3) := by decide +kernel
theorem dX11_init_128 : decode cX11_init 128 = .ok (.aload_n 0, 1) := by decide +kernel
theorem dX11_init_129 : decode cX11_init 129 = .ok (.iconst 4, 1) := by decide +kernel
theorem dX11_init_130 : decode cX11_init 130 = .ok (.newarray .int, 2) := by decide +kernel
theorem dX11_init_132 : decode cX11_init 132 = .ok (.putfield 55, 3) := by decide +kernel
theorem dX11_init_135 : decode cX11_init 135 = .ok (.aload_n 0, 1) := by decide +kernel
theorem dX11_init_136 : decode cX11_init 136 = .ok (.sipush 4096, 3) := by decide +kernel
theorem dX11_init_139 : decode cX11_init 139 = .ok (.newarray .byte, 2) := by decide +kernel
theorem dX11_init_141 : decode cX11_init 141 = .ok (.putfield 58, 3) := by decide +kernel
theorem dX11_init_144 : decode cX11_init 144 = .ok (.aload_n 0, 1) := by decide +kernel
theorem dX11_init_145 : decode cX11_init 145 = .ok (.ldc 62, 2) := by decide +kernel
theorem dX11_init_147 : decode cX11_init 147 = .ok (.newarray .byte, 2) := by decide +kernel
theorem dX11_init_149 : decode cX11_init 149 = .ok (.putfield 63, 3) := by decide +kernel
theorem dX11_init_152 : decode cX11_init 152 = .ok (.aload_n 0, 1) := by decide +kernel
theorem dX11_init_153 : decode cX11_init 153 = .ok (.sipush 29400, 3) := by decide +kernel
theorem dX11_init_156 : decode cX11_init 156 = .ok (.newarray .byte, 2) := by decide +kernel
theorem dX11_init_158 : decode cX11_init 158 = .ok (.putfield 66, 3) := by decide +kernel
theorem dX11_init_161 : decode cX11_init 161 = .ok (.aload_n 0, 1) := by decide +kernel
theorem dX11_init_162 : decode cX11_init 162 = .ok (.ldc 69, 2) := by decide +kernel
theorem dX11_init_164 : decode cX11_init 164 = .ok (.newarray .byte, 2) := by decide +kernel
theorem dX11_init_166 : decode cX11_init 166 = .ok (.putfield 70, 3) := by decide +kernel
theorem dX11_init_169 : decode cX11_init 169 = .ok (.aload_n 0, 1) := by decide +kernel
theorem dX11_init_170 : decode cX11_init 170 = .ok (.sipush 4096, 3) := by decide +kernel
theorem dX11_init_173 : decode cX11_init 173 = .ok (.newarray .short, 2) := by decide +kernel
theorem dX11_init_175 : decode cX11_init 175 = .ok (.putfield 73, 3) := by decide +kernel
theorem dX11_init_178 : decode cX11_init 178 = .ok (.aload_n 0, 1) := by decide +kernel
theorem dX11_init_179 : decode cX11_init 179 = .ok (.sipush 495, 3) := by decide +kernel
theorem dX11_init_182 : decode cX11_init 182 = .ok (.newarray .short, 2) := by decide +kernel
theorem dX11_init_184 : decode cX11_init 184 = .ok (.putfield 77, 3) := by decide +kernel
theorem dX11_init_187 : decode cX11_init 187 = .ok (.aload_n 0, 1) := by decide +kernel
theorem dX11_init_188 : decode cX11_init 188 = .ok (.sipush 256, 3) := by decide +kernel
theorem dX11_init_191 : decode cX11_init 191 = .ok (.newarray .short, 2) := by decide +kernel
theorem dX11_init_193 : decode cX11_init 193 = .ok (.putfield 80, 3) := by decide +kernel
theorem dX11_init_196 : decode cX11_init 196 = .ok (.aload_n 0, 1) := by decide +kernel
theorem dX11_init_197 : decode cX11_init 197 = .ok (.bipush 70, 2) := by decide +kernel
theorem dX11_init_199 : decode cX11_init 199 = .ok (.newarray .short, 2) := by decide +kernel
theorem dX11_init_201 : decode cX11_init 201 = .ok (.putfield 83, 3) := by decide +kernel
theorem dX11_init_204 : decode cX11_init 204 = .ok (.aload_n 0, 1) := by decide +kernel
theorem dX11_init_205 : decode cX11_init 205 = .ok (.ldc 86, 2) := by decide +kernel
theorem dX11_init_207 : decode cX11_init 207 = .ok (.newarray .short, 2) := by decide +kernel
theorem dX11_init_209 : decode cX11_init 209 = .ok (.putfield 87, 3) := by decide +kernel
theorem dX11_init_212 : decode cX11_init 212 = .ok (.aload_n 0, 1) := by decide +kernel
theorem dX11_init_213 : decode cX11_init 213 = .ok (.sipush 420, 3) := by decide +kernel
theorem dX11_init_216 : decode cX11_init 216 = .ok (.newarray .int, 2) := by decide +kernel
theorem dX11_init_218 : decode cX11_init 218 = .ok (.putfield 90, 3) := by decide +kernel
theorem dX11_init_221 : decode cX11_init 221 = .ok (.aload_n 0, 1) := by decide +kernel
theorem dX11_init_222 : decode cX11_init 222 = .ok (.ldc 86, 2) := by decide +kernel
theorem dX11_init_224 : decode cX11_init 224 = .ok (.newarray .short, 2) := by decide +kernel
theorem dX11_init_226 : decode cX11_init 226 = .ok (.putfield 93, 3) := by decide +kernel
theorem dX11_init_229 : decode cX11_init 229 = .ok (.aload_n 0, 1) := by decide +kernel
theorem dX11_init_230 : decode cX11_init 230 = .ok (.bipush 96, 2) := by decide +kernel
theorem dX11_init_232 : decode cX11_init 232 = .ok (.newarray .int, 2) := by decide +kernel
theorem dX11_init_234 : decode cX11_init 234 = .ok (.putfield 96, 3) := by decide +kernel
theorem dX11_init_237 : decode cX11_init 237 = .ok (.aload_n 0, 1) := by decide +kernel
theorem dX11_init_238 : decode cX11_init 238 = .ok (.ldc 99, 2) := by decide +kernel
theorem dX11_init_240 : decode cX11_init 240 = .ok (.newarray .int, 2) := by decide +kernel
theorem dX11_init_242 : decode cX11_init 242 = .ok (.putfield 100, 3) := by decide +kernel
theorem dX11_init_245 : decode cX11_init 245 = .ok (.aload_n 0, 1) := by decide +kernel
theorem dX11_init_246 : decode cX11_init 246 = .ok (.sipush 8910, 3) := by decide +kernel
theorem dX11_init_249 : decode cX11_init 249 = .ok (.newarray .int, 2) := by decide +kernel
theorem dX11_init_251 : decode cX11_init 251 = .ok (.putfield 103, 3) := by decide +kernel
theorem dX11_init_254 : decode cX11_init 254 = .ok (.aload_n 0, 1) := by decide +kernel
theorem dX11_init_255 : decode cX11_init 255 = .ok (.sipush 7560, 3) := by decide +kernel
theorem dX11_init_258 : decode cX11_init 258 = .ok (.newarray .int, 2) := by decide +kernel
theorem dX11_init_260 : decode cX11_init 260 = .ok (.putfield 106, 3) := by decide +kernel
theorem dX11_init_263 : decode cX11_init 263 = .ok (.aload_n 0, 1) := by decide +kernel
theorem dX11_init_264 : decode cX11_init 264 = .ok (.sipush 1296, 3) := by decide +kernel
theorem dX11_init_267 : decode cX11_init 267 = .ok (.newarray .int, 2) := by decide +kernel
theorem dX11_init_269 : decode cX11_init 269 = .ok (.putfield 109, 3) := by decide +kernel
theorem dX11_init_272 : decode cX11_init 272 = .ok (.aload_n 0, 1) := by decide +kernel
theorem dX11_init_273 : decode cX11_init 273 = .ok (.bipush 8, 2) := by decide +kernel
theorem dX11_init_275 : decode cX11_init 275 = .ok (.newarray .int, 2) := by decide +kernel
theorem dX11_init_277 : decode cX11_init 277 = .ok (.putfield 112, 3) := by decide +kernel
theorem dX11_init_280 : decode cX11_init 280 = .ok (.aload_n 0, 1) := by decide +kernel
theorem dX11_init_281 : decode cX11_init 281 = .ok (.bipush 8, 2) := by decide +kernel
theorem dX11_init_283 : decode cX11_init 283 = .ok (.newarray .int, 2) := by decide +kernel
theorem dX11_init_285 : decode cX11_init 285 = .ok (.putfield 115, 3) := by decide +kernel
theorem dX11_init_288 : decode cX11_init 288 = .ok (.aload_n 0, 1) := by decide +kernel
theorem dX11_init_289 : decode cX11_init 289 = .ok (.iconst 0, 1) := by decide +kernel
theorem dX11_init_290 : decode cX11_init 290 = .ok (.iconst 4, 1) := by decide +kernel
theorem dX11_init_291 : decode cX11_init 291 = .ok (.bipush 6, 2) := by decide +kernel
theorem dX11_init_293 : decode cX11_init 293 = .ok (.bipush 7, 2) := by decide +kernel
theorem dX11_init_295 : decode cX11_init 295 = .ok (.iconst 5, 1) := by decide +kernel
theorem dX11_init_296 : decode cX11_init 296 = .ok (.invokevirtual 118, 3) := by decide +kernel
theorem dX11_init_299 : decode cX11_init 299 = .ok (.aload_n 0, 1) := by decide +kernel
theorem dX11_init_300 : decode cX11_init 300 = .ok (.iconst 1, 1) := by decide +kernel
theorem dX11_init_301 : decode cX11_init 301 = .ok (.iconst 0, 1) := by decide +kernel
theorem dX11_init_302 : decode cX11_init 302 = .ok (.iconst 1, 1) := by decide +kernel
theorem dX11_init_303 : decode cX11_init 303 = .ok (.iconst 3, 1) := by decide +kernel
theorem dX11_init_304 : decode cX11_init 304 = .ok (.iconst 2, 1) := by decide +kernel
theorem dX11_init_305 : decode cX11_init 305 = .ok (.invokevirtual 118, 3) := by decide +kernel
theorem dX11_init_308 : decode cX11_init 308 = .ok (.aload_n 0, 1) := by decide +kernel
theorem dX11_init_309 : decode cX11_init 309 = .ok (.iconst 2, 1) := by decide +kernel
theorem dX11_init_310 : decode cX11_init 310 = .ok (.iconst 4, 1) := by decide +kernel
theorem dX11_init_311 : decode cX11_init 311 = .ok (.iconst 0, 1) := by decide +kernel
theorem dX11_init_312 : decode cX11_init 312 = .ok (.iconst 2, 1) := by decide +kernel
theorem dX11_init_313 : decode cX11_init 313 = .ok (.bipush 6, 2) := by decide +kernel
theorem dX11_init_315 : decode cX11_init 315 = .ok (.invokevirtual 118, 3) := by decide +kernel
theorem dX11_init_318 : decode cX11_init 318 = .ok (.aload_n 0, 1) := by decide +kernel
theorem dX11_init_319 : decode cX11_init 319 = .ok (.iconst 3, 1) := by decide +kernel
theorem dX11_init_320 : decode cX11_init 320 = .ok (.iconst 5, 1) := by decide +kernel
theorem dX11_init_321 : decode cX11_init 321 = .ok (.bipush 7, 2) := by decide +kernel
theorem dX11_init_323 : decode cX11_init 323 = .ok (.iconst 3, 1) := by decide +kernel
theorem dX11_init_324 : decode cX11_init 324 = .ok (.iconst 1, 1) := by decide +kernel
theorem dX11_init_325 : decode cX11_init 325 = .ok (.invokevirtual 118, 3) := by decide +kernel
theorem dX11_init_328 : decode cX11_init 328 = .ok (.aload_n 0, 1) := by decide +kernel
theorem dX11_init_329 : decode cX11_init 329 = .ok (.iconst 4, 1) := by decide +kernel
theorem dX11_init_330 : decode cX11_init 330 = .ok (.iconst 4, 1) := by decide +kernel
theorem dX11_init_331 : decode cX11_init 331 = .ok (.iconst 5, 1) := by decide +kernel
theorem dX11_init_332 : decode cX11_init 332 = .ok (.iconst 1, 1) := by decide +kernel
theorem dX11_init_333 : decode cX11_init 333 = .ok (.iconst 0, 1) := by decide +kernel
theorem dX11_init_334 : decode cX11_init 334 = .ok (.invokevirtual 118, 3) := by decide +kernel
theorem dX11_init_337 : decode cX11_init 337 = .ok (.aload_n 0, 1) := by decide +kernel
theorem dX11_init_338 : decode cX11_init 338 = .ok (.iconst 5, 1) := by decide +kernel
theorem dX11_init_339 : decode cX11_init 339 = .ok (.bipush 7, 2) := by decide +kernel
theorem dX11_init_341 : decode cX11_init 341 = .ok (.bipush 6, 2) := by decide +kernel
theorem dX11_init_343 : decode cX11_init 343 = .ok (.iconst 2, 1) := by decide +kernel
theorem dX11_init_344 : decode cX11_init 344 = .ok (.iconst 3, 1) := by decide +kernel
theorem dX11_init_345 : decode cX11_init 345 = .ok (.invokevirtual 118, 3) := by decide +kernel
theorem dX11_init_348 : decode cX11_init 348 = .ok (.aload_n 0, 1) := by decide +kernel
theorem dX11_init_349 : decode cX11_init 349 = .ok (.invokevirtual 122, 3) := by decide +kernel
theorem dX11_init_352 : decode cX11_init 352 = .ok (.return_, 1) := by decide +kernel
theorem dX11_between_0 : decode cX11_between 0 = .ok (.iload_n 0, 1) := by decide +kernel
theorem dX11_between_1 : decode cX11_between 1 = .ok (.iload_n 1, 1) := by decide +kernel
theorem dX11_between_2 : decode cX11_between 2 = .ok (.if_icmp .ge 7, 3) := by decide +kernel
theorem dX11_between_5 : decode cX11_between 5 = .ok (.iload_n 0, 1) := by decide +kernel
theorem dX11_between_6 : decode cX11_between 6 = .ok (.goto 4, 3) := by decide +kernel
theorem dX11_between_9 : decode cX11_between 9 = .ok (.iload_n 1, 1) := by decide +kernel
theorem dX11_between_10 : decode cX11_between 10 = .ok (.istore_n 2, 1) := by decide +kernel
theorem dX11_between_11 : decode cX11_between 11 = .ok (.iload_n 2, 1) := by decide +kernel
theorem dX11_between_12 : decode cX11_between 12 = .ok (.iconst 1, 1) := by decide +kernel
theorem dX11_between_13 : decode cX11_between 13 = .ok (.iand, 1) := by decide +kernel
theorem dX11_between_14 : decode cX11_between 14 = .ok (.istore_n 3, 1) := by decide +kernel
theorem dX11_between_15 : decode cX11_between 15 = .ok (.iload_n 2, 1) := by decide +kernel
theorem dX11_between_16 : decode cX11_between 16 = .ok (.iconst 1, 1) := by decide +kernel
theorem dX11_between_17 : decode cX11_between 17 = .ok (.ishr, 1) := by decide +kernel
theorem dX11_between_18 : decode cX11_between 18 = .ok (.iconst 1, 1) := by decide +kernel
theorem dX11_between_19 : decode cX11_between 19 = .ok (.iand, 1) := by decide +kernel
theorem dX11_between_20 : decode cX11_between 20 = .ok (.istore 4, 2) := by decide +kernel
theorem dX11_between_22 : decode cX11_between 22 = .ok (.iload_n 2, 1) := by decide +kernel
theorem dX11_between_23 : decode cX11_between 23 = .ok (.iconst 2, 1) := by decide +kernel
theorem dX11_between_24 : decode cX11_between 24 = .ok (.ishr, 1) := by decide +kernel
theorem dX11_between_25 : decode cX11_between 25 = .ok (.istore 5, 2) := by decide +kernel
theorem dX11_between_27 : decode cX11_between 27 = .ok (.iload_n 0, 1) := by decide +kernel
theorem dX11_between_28 : decode cX11_between 28 = .ok (.iload_n 1, 1) := by decide +kernel
theorem dX11_between_29 : decode cX11_between 29 = .ok (.ixor, 1) := by decide +kernel
theorem dX11_between_30 : decode cX11_between 30 = .ok (.istore 6, 2) := by decide +kernel
theorem dX11_between_32 : decode cX11_between 32 = .ok (.iload 6, 2) := by decide +kernel
theorem dX11_between_34 : decode cX11_between 34 = .ok (.iconst 1, 1) := by decide +kernel
theorem dX11_between_35 : decode cX11_between 35 = .ok (.if_icmp .ne 13, 3) := by decide +kernel
theorem dX11_between_38 : decode cX11_between 38 = .ok (.iconst 2, 1) := by decide +kernel
theorem dX11_between_39 : decode cX11_between 39 = .ok (.iload 5, 2) := by decide +kernel
theorem dX11_between_41 : decode cX11_between 41 = .ok (.imul, 1) := by decide +kernel
theorem dX11_between_42 : decode cX11_between 42 = .ok (.iload 4, 2) := by decide +kernel
theorem dX11_between_44 : decode cX11_between 44 = .ok (.iadd, 1) := by decide +kernel
theorem dX11_between_45 : decode cX11_between 45 = .ok (.goto 29, 3) := by decide +kernel
theorem dX11_between_48 : decode cX11_between 48 = .ok (.iload 6, 2) := by decide +kernel
theorem dX11_between_50 : decode cX11_between 50 = .ok (.iconst 2, 1) := by decide +kernel
theorem dX11_between_51 : decode cX11_between 51 = .ok (.if_icmp .ne 14, 3) := by decide +kernel
theorem dX11_between_54 : decode cX11_between 54 = .ok (.iconst 4, 1) := by decide +kernel
theorem dX11_between_55 : decode cX11_between 55 = .ok (.iconst 2, 1) := by decide +kernel
theorem dX11_between_56 : decode cX11_between 56 = .ok (.iload 5, 2) := by decide +kernel
theorem dX11_between_58 : decode cX11_between 58 = .ok (.imul, 1) := by decide +kernel
theorem dX11_between_59 : decode cX11_between 59 = .ok (.iadd, 1) := by decide +kernel
theorem dX11_between_60 : decode cX11_between 60 = .ok (.iload_n 3, 1) := by decide +kernel
theorem dX11_between_61 : decode cX11_between 61 = .ok (.iadd, 1) := by decide +kernel
theorem dX11_between_62 : decode cX11_between 62 = .ok (.goto 12, 3) := by decide +kernel
theorem dX11_between_65 : decode cX11_between 65 = .ok (.bipush 8, 2) := by decide +kernel
theorem dX11_between_67 : decode cX11_between 67 = .ok (.iconst 2, 1) := by decide +kernel
theorem dX11_between_68 : decode cX11_between 68 = .ok (.iload 4, 2) := by decide +kernel
theorem dX11_between_70 : decode cX11_between 70 = .ok (.imul, 1) := by decide +kernel
theorem dX11_between_71 : decode cX11_between 71 = .ok (.iadd, 1) := by decide +kernel
theorem dX11_between_72 : decode cX11_between 72 = .ok (.iload_n 3, 1) := by decide +kernel
theorem dX11_between_73 : decode cX11_between 73 = .ok (.iadd, 1) := by decide +kernel
theorem dX11_between_74 : decode cX11_between 74 = .ok (.ireturn, 1) := by decide +kernel
set_option maxRecDepth 20000 in
theorem ggX11_face_X11_between : GoodIn wsX11_face wsX11_between := goodIn_r _ [9] (by decide +kernel) (by decide +kernel)
set_option maxRecDepth 20000 in
theorem gX11_face_X11_between : GoodIn wsX11_face (va_wsS RX11 125 yX11_between wsX11_between) := goodIn_app (goodIn_of _ (by decide +kernel)) ggX11_face_X11_between
theorem dX11_face_0 : decode cX11_face 0 = .ok (.aload_n 0, 1) := by decide +kernel
theorem dX11_face_1 : decode cX11_face 1 = .ok (.getfield 112, 3) := by decide +kernel
theorem dX11_face_4 : decode cX11_face 4 = .ok (.astore 6, 2) := by decide +kernel
theorem dX11_face_6 : decode cX11_face 6 = .ok (.aload 6, 2) := by decide +kernel
theorem dX11_face_8 : decode cX11_face 8 = .ok (.iconst 0, 1) := by decide +kernel
theorem dX11_face_9 : decode cX11_face 9 = .ok (.iload_n 2, 1) := by decide +kernel
theorem dX11_face_10 : decode cX11_face 10 = .ok (.iastore, 1) := by decide +kernel
theorem dX11_face_11 : decode cX11_face 11 = .ok (.aload 6, 2) := by decide +kernel
theorem dX11_face_13 : decode cX11_face 13 = .ok (.iconst 1, 1) := by decide +kernel
theorem dX11_face_14 : decode cX11_face 14 = .ok (.iload_n 3, 1) := by decide +kernel
theorem dX11_face_15 : decode cX11_face 15 = .ok (.iastore, 1) := by decide +kernel
theorem dX11_face_16 : decode cX11_face 16 = .ok (.aload 6, 2) := by decide +kernel
theorem dX11_face_18 : decode cX11_face 18 = .ok (.iconst 2, 1) := by decide +kernel
theorem dX11_face_19 : decode cX11_face 19 = .ok (.iload 4, 2) := by decide +kernel
theorem dX11_face_21 : decode cX11_face 21 = .ok (.iastore, 1) := by decide +kernel
theorem dX11_face_22 : decode cX11_face 22 = .ok (.aload 6, 2) := by decide +kernel
theorem dX11_face_24 : decode cX11_face 24 = .ok (.iconst 3, 1) := by decide +kernel
theorem dX11_face_25 : decode cX11_face 25 = .ok (.iload 5, 2) := by decide +kernel
theorem dX11_face_27 : decode cX11_face 27 = .ok (.iastore, 1) := by decide +kernel
theorem dX11_face_28 : decode cX11_face 28 = .ok (.iconst 3, 1) := by decide +kernel
theorem dX11_face_29 : decode cX11_face 29 = .ok (.iload_n 1, 1) := by decide +kernel
theorem dX11_face_30 : decode cX11_face 30 = .ok (.imul, 1) := by decide +kernel
theorem dX11_face_31 : decode cX11_face 31 = .ok (.istore 7, 2) := by decide +kernel
theorem dX11_face_33 : decode cX11_face 33 = .ok (.iconst 0, 1) := by decide +kernel
theorem dX11_face_34 : decode cX11_face 34 = .ok (.istore 8, 2) := by decide +kernel
theorem dX11_face_36 : decode cX11_face 36 = .ok (.iload 8, 2) := by decide +kernel
theorem dX11_face_38 : decode cX11_face 38 = .ok (.bipush 8, 2) := by decide +kernel
theorem dX11_face_40 : decode cX11_face 40 = .ok (.if_icmp .ge 24, 3) := by decide +kernel
theorem dX11_face_43 : decode cX11_face 43 = .ok (.aload_n 0, 1) := by decide +kernel
theorem dX11_face_44 : decode cX11_face 44 = .ok (.getfield 40, 3) := by decide +kernel
theorem dX11_face_47 : decode cX11_face 47 = .ok (.bipush 8, 2) := by decide +kernel
theorem dX11_face_49 : decode cX11_face 49 = .ok (.iload 7, 2) := by decide +kernel
theorem dX11_face_51 : decode cX11_face 51 = .ok (.imul, 1) := by decide +kernel
theorem dX11_face_52 : decode cX11_face 52 = .ok (.iload 8, 2) := by decide +kernel
theorem dX11_face_54 : decode cX11_face 54 = .ok (.iadd, 1) := by decide +kernel
theorem dX11_face_55 : decode cX11_face 55 = .ok (.iload 8, 2) := by decide +kernel
theorem dX11_face_57 : decode cX11_face 57 = .ok (.iastore, 1) := by decide +kernel
theorem dX11_face_58 : decode cX11_face 58 = .ok (.iinc 8 1, 3) := by decide +kernel
theorem dX11_face_61 : decode cX11_face 61 = .ok (.goto (-25), 3) := by decide +kernel
theorem dX11_face_64 : decode cX11_face 64 = .ok (.iconst 0, 1) := by decide +kernel
theorem dX11_face_65 : decode cX11_face 65 = .ok (.istore 8, 2) := by decide +kernel
theorem dX11_face_67 : decode cX11_face 67 = .ok (.iload 8, 2) := by decide +kernel
theorem dX11_face_69 : decode cX11_face 69 = .ok (.bipush 12, 2) := by decide +kernel
theorem dX11_face_71 : decode cX11_face 71 = .ok (.if_icmp .ge 24, 3) := by decide +kernel
theorem dX11_face_74 : decode cX11_face 74 = .ok (.aload_n 0, 1) := by decide +kernel
theorem dX11_face_75 : decode cX11_face 75 = .ok (.getfield 46, 3) := by decide +kernel
theorem dX11_face_78 : decode cX11_face 78 = .ok (.bipush 12, 2) := by decide +kernel
theorem dX11_face_80 : decode cX11_face 80 = .ok (.iload 7, 2) := by decide +kernel
theorem dX11_face_82 : decode cX11_face 82 = .ok (.imul, 1) := by decide +kernel
theorem dX11_face_83 : decode cX11_face 83 = .ok (.iload 8, 2) := by decide +kernel
theorem dX11_face_85 : decode cX11_face 85 = .ok (.iadd, 1) := by decide +kernel
theorem dX11_face_86 : decode cX11_face 86 = .ok (.iload 8, 2) := by decide +kernel
theorem dX11_face_88 : decode cX11_face 88 = .ok (.iastore, 1) := by decide +kernel
theorem dX11_face_89 : decode cX11_face 89 = .ok (.iinc 8 1, 3) := by decide +kernel
theorem dX11_face_92 : decode cX11_face 92 = .ok (.goto (-25), 3) := by decide +kernel
theorem dX11_face_95 : decode cX11_face 95 = .ok (.iconst 0, 1) := by decide +kernel
theorem dX11_face_96 : decode cX11_face 96 = .ok (.istore 8, 2) := by decide +kernel
theorem dX11_face_98 : decode cX11_face 98 = .ok (.iload 8, 2) := by decide +kernel
theorem dX11_face_100 : decode cX11_face 100 = .ok (.iconst 4, 1) := by decide +kernel
theorem dX11_face_101 : decode cX11_face 101 = .ok (.if_icmp .ge 139, 3) := by decide +kernel
theorem dX11_face_104 : decode cX11_face 104 = .ok (.aload 6, 2) := by decide +kernel
theorem dX11_face_106 : decode cX11_face 106 = .ok (.iload 8, 2) := by decide +kernel
theorem dX11_face_108 : decode cX11_face 108 = .ok (.iaload, 1) := by decide +kernel
theorem dX11_face_109 : decode cX11_face 109 = .ok (.istore 9, 2) := by decide +kernel
theorem dX11_face_111 : decode cX11_face 111 = .ok (.aload 6, 2) := by decide +kernel
theorem dX11_face_113 : decode cX11_face 113 = .ok (.iload 8, 2) := by decide +kernel
theorem dX11_face_115 : decode cX11_face 115 = .ok (.iconst 1, 1) := by decide +kernel
theorem dX11_face_116 : decode cX11_face 116 = .ok (.iadd, 1) := by decide +kernel
theorem dX11_face_117 : decode cX11_face 117 = .ok (.iconst 4, 1) := by decide +kernel
theorem dX11_face_118 : decode cX11_face 118 = .ok (.irem, 1) := by decide +kernel
theorem dX11_face_119 : decode cX11_face 119 = .ok (.iaload, 1) := by decide +kernel
theorem dX11_face_120 : decode cX11_face 120 = .ok (.istore 10, 2) := by decide +kernel
theorem dX11_face_122 : decode cX11_face 122 = .ok (.aload_n 0, 1) := by decide +kernel
theorem dX11_face_123 : decode cX11_face 123 = .ok (.getfield 40, 3) := by decide +kernel
theorem dX11_face_126 : decode cX11_face 126 = .ok (.bipush 8, 2) := by decide +kernel
theorem dX11_face_128 : decode cX11_face 128 = .ok (.iload 7, 2) := by decide +kernel
theorem dX11_face_130 : decode cX11_face 130 = .ok (.imul, 1) := by decide +kernel
theorem dX11_face_131 : decode cX11_face 131 = .ok (.iload 10, 2) := by decide +kernel
theorem dX11_face_133 : decode cX11_face 133 = .ok (.iadd, 1) := by decide +kernel
theorem dX11_face_134 : decode cX11_face 134 = .ok (.iload 9, 2) := by decide +kernel
theorem dX11_face_136 : decode cX11_face 136 = .ok (.iastore, 1) := by decide +kernel
theorem dX11_face_137 : decode cX11_face 137 = .ok (.aload_n 0, 1) := by decide +kernel
theorem dX11_face_138 : decode cX11_face 138 = .ok (.getfield 43, 3) := by decide +kernel
theorem dX11_face_141 : decode cX11_face 141 = .ok (.bipush 8, 2) := by decide +kernel
theorem dX11_face_143 : decode cX11_face 143 = .ok (.iload 7, 2) := by decide +kernel
theorem dX11_face_145 : decode cX11_face 145 = .ok (.imul, 1) := by decide +kernel
theorem dX11_face_146 : decode cX11_face 146 = .ok (.iload 10, 2) := by decide +kernel
theorem dX11_face_148 : decode cX11_face 148 = .ok (.iadd, 1) := by decide +kernel
theorem dX11_face_149 : decode cX11_face 149 = .ok (.iload_n 1, 1) := by decide +kernel
theorem dX11_face_150 : decode cX11_face 150 = .ok (.iconst 2, 1) := by decide +kernel
theorem dX11_face_151 : decode cX11_face 151 = .ok (.if_icmp .ge 7, 3) := by decide +kernel
theorem dX11_face_154 : decode cX11_face 154 = .ok (.iconst 0, 1) := by decide +kernel
theorem dX11_face_155 : decode cX11_face 155 = .ok (.goto 19, 3) := by decide +kernel
theorem dX11_face_158 : decode cX11_face 158 = .ok (.iload 9, 2) := by decide +kernel
theorem dX11_face_160 : decode cX11_face 160 = .ok (.iconst 2, 1) := by decide +kernel
theorem dX11_face_161 : decode cX11_face 161 = .ok (.ishr, 1) := by decide +kernel
theorem dX11_face_162 : decode cX11_face 162 = .ok (.iload 10, 2) := by decide +kernel
theorem dX11_face_164 : decode cX11_face 164 = .ok (.iconst 2, 1) := by decide +kernel
theorem dX11_face_165 : decode cX11_face 165 = .ok (.ishr, 1) := by decide +kernel
theorem dX11_face_166 : decode cX11_face 166 = .ok (.if_icmp .ne 7, 3) := by decide +kernel
theorem dX11_face_169 : decode cX11_face 169 = .ok (.iconst 1, 1) := by decide +kernel
theorem dX11_face_170 : decode cX11_face 170 = .ok (.goto 4, 3) := by decide +kernel
theorem dX11_face_173 : decode cX11_face 173 = .ok (.iconst 2, 1) := by decide +kernel
theorem dX11_face_174 : decode cX11_face 174 = .ok (.iastore, 1) := by decide +kernel
theorem dX11_face_175 : decode cX11_face 175 = .ok (.iload 10, 2) := by decide +kernel
theorem dX11_face_177 : decode cX11_face 177 = .ok (.aload 6, 2) := by decide +kernel
theorem dX11_face_179 : decode cX11_face 179 = .ok (.iload 8, 2) := by decide +kernel
theorem dX11_face_181 : decode cX11_face 181 = .ok (.iconst 2, 1) := by decide +kernel
theorem dX11_face_182 : decode cX11_face 182 = .ok (.iadd, 1) := by decide +kernel
theorem dX11_face_183 : decode cX11_face 183 = .ok (.iconst 4, 1) := by decide +kernel
theorem dX11_face_184 : decode cX11_face 184 = .ok (.irem, 1) := by decide +kernel
theorem dX11_face_185 : decode cX11_face 185 = .ok (.iaload, 1) := by decide +kernel
theorem dX11_face_186 : decode cX11_face 186 = .ok (.invokestatic 125, 3) := by decide +kernel
theorem dX11_face_189 : decode cX11_face 189 = .ok (.istore 11, 2) := by decide +kernel
theorem dX11_face_191 : decode cX11_face 191 = .ok (.aload_n 0, 1) := by decide +kernel
theorem dX11_face_192 : decode cX11_face 192 = .ok (.getfield 46, 3) := by decide +kernel
theorem dX11_face_195 : decode cX11_face 195 = .ok (.bipush 12, 2) := by decide +kernel
theorem dX11_face_197 : decode cX11_face 197 = .ok (.iload 7, 2) := by decide +kernel
theorem dX11_face_199 : decode cX11_face 199 = .ok (.imul, 1) := by decide +kernel
theorem dX11_face_200 : decode cX11_face 200 = .ok (.iload 11, 2) := by decide +kernel
theorem dX11_face_202 : decode cX11_face 202 = .ok (.iadd, 1) := by decide +kernel
theorem dX11_face_203 : decode cX11_face 203 = .ok (.iload 9, 2) := by decide +kernel
theorem dX11_face_205 : decode cX11_face 205 = .ok (.iload 10, 2) := by decide +kernel
theorem dX11_face_207 : decode cX11_face 207 = .ok (.invokestatic 125, 3) := by decide +kernel
theorem dX11_face_210 : decode cX11_face 210 = .ok (.iastore, 1) := by decide +kernel
theorem dX11_face_211 : decode cX11_face 211 = .ok (.aload_n 0, 1) := by decide +kernel
theorem dX11_face_212 : decode cX11_face 212 = .ok (.getfield 49, 3) := by decide +kernel
theorem dX11_face_215 : decode cX11_face 215 = .ok (.bipush 12, 2) := by decide +kernel
theorem dX11_face_217 : decode cX11_face 217 = .ok (.iload 7, 2) := by decide +kernel
theorem dX11_face_219 : decode cX11_face 219 = .ok (.imul, 1) := by decide +kernel
theorem dX11_face_220 : decode cX11_face 220 = .ok (.iload 11, 2) := by decide +kernel
theorem dX11_face_222 : decode cX11_face 222 = .ok (.iadd, 1) := by decide +kernel
theorem dX11_face_223 : decode cX11_face 223 = .ok (.iload_n 1, 1) := by decide +kernel
theorem dX11_face_224 : decode cX11_face 224 = .ok (.iconst 3, 1) := by decide +kernel
theorem dX11_face_225 : decode cX11_face 225 = .ok (.if_icmp .le 7, 3) := by decide +kernel
theorem dX11_face_228 : decode cX11_face 228 = .ok (.iconst 1, 1) := by decide +kernel
theorem dX11_face_229 : decode cX11_face 229 = .ok (.goto 4, 3) := by decide +kernel
theorem dX11_face_232 : decode cX11_face 232 = .ok (.iconst 0, 1) := by decide +kernel
theorem dX11_face_233 : decode cX11_face 233 = .ok (.iastore, 1) := by decide +kernel
theorem dX11_face_234 : decode cX11_face 234 = .ok (.iinc 8 1, 3) := by decide +kernel
theorem dX11_face_237 : decode cX11_face 237 = .ok (.goto (-139), 3) := by decide +kernel
theorem dX11_face_240 : decode cX11_face 240 = .ok (.iconst 1, 1) := by decide +kernel
theorem dX11_face_241 : decode cX11_face 241 = .ok (.istore 8, 2) := by decide +kernel
theorem dX11_face_243 : decode cX11_face 243 = .ok (.iload 8, 2) := by decide +kernel
theorem dX11_face_245 : decode cX11_face 245 = .ok (.iconst 3, 1) := by decide +kernel
theorem dX11_face_246 : decode cX11_face 246 = .ok (.if_icmp .ge 237, 3) := by decide +kernel
theorem dX11_face_249 : decode cX11_face 249 = .ok (.iconst 0, 1) := by decide +kernel
theorem dX11_face_250 : decode cX11_face 250 = .ok (.istore 9, 2) := by decide +kernel
theorem dX11_face_252 : decode cX11_face 252 = .ok (.iload 9, 2) := by decide +kernel
theorem dX11_face_254 : decode cX11_face 254 = .ok (.bipush 8, 2) := by decide +kernel
theorem dX11_face_256 : decode cX11_face 256 = .ok (.if_icmp .ge 108, 3) := by decide +kernel
theorem dX11_face_259 : decode cX11_face 259 = .ok (.aload_n 0, 1) := by decide +kernel
theorem dX11_face_260 : decode cX11_face 260 = .ok (.getfield 40, 3) := by decide +kernel
theorem dX11_face_263 : decode cX11_face 263 = .ok (.bipush 8, 2) := by decide +kernel
theorem dX11_face_265 : decode cX11_face 265 = .ok (.iload 7, 2) := by decide +kernel
theorem dX11_face_267 : decode cX11_face 267 = .ok (.imul, 1) := by decide +kernel
theorem dX11_face_268 : decode cX11_face 268 = .ok (.iload 9, 2) := by decide +kernel
theorem dX11_face_270 : decode cX11_face 270 = .ok (.iadd, 1) := by decide +kernel
theorem dX11_face_271 : decode cX11_face 271 = .ok (.iaload, 1) := by decide +kernel
theorem dX11_face_272 : decode cX11_face 272 = .ok (.istore 10, 2) := by decide +kernel
theorem dX11_face_274 : decode cX11_face 274 = .ok (.aload_n 0, 1) := by decide +kernel
theorem dX11_face_275 : decode cX11_face 275 = .ok (.getfield 40, 3) := by decide +kernel
theorem dX11_face_278 : decode cX11_face 278 = .ok (.bipush 8, 2) := by decide +kernel
theorem dX11_face_280 : decode cX11_face 280 = .ok (.iload 7, 2) := by decide +kernel
theorem dX11_face_282 : decode cX11_face 282 = .ok (.iload 8, 2) := by decide +kernel
theorem dX11_face_284 : decode cX11_face 284 = .ok (.iadd, 1) := by decide +kernel
theorem dX11_face_285 : decode cX11_face 285 = .ok (.imul, 1) := by decide +kernel
theorem dX11_face_286 : decode cX11_face 286 = .ok (.iload 9, 2) := by decide +kernel
theorem dX11_face_288 : decode cX11_face 288 = .ok (.iadd, 1) := by decide +kernel
theorem dX11_face_289 : decode cX11_face 289 = .ok (.aload_n 0, 1) := by decide +kernel
theorem dX11_face_290 : decode cX11_face 290 = .ok (.getfield 40, 3) := by decide +kernel
theorem dX11_face_293 : decode cX11_face 293 = .ok (.bipush 8, 2) := by decide +kernel
theorem dX11_face_295 : decode cX11_face 295 = .ok (.iload 7, 2) := by decide +kernel
theorem dX11_face_297 : decode cX11_face 297 = .ok (.iload 8, 2) := by decide +kernel
theorem dX11_face_299 : decode cX11_face 299 = .ok (.iadd, 1) := by decide +kernel
theorem dX11_face_300 : decode cX11_face 300 = .ok (.iconst 1, 1) := by decide +kernel
theorem dX11_face_301 : decode cX11_face 301 = .ok (.isub, 1) := by decide +kernel
theorem dX11_face_302 : decode cX11_face 302 = .ok (.imul, 1) := by decide +kernel
theorem dX11_face_303 : decode cX11_face 303 = .ok (.iload 10, 2) := by decide +kernel
theorem dX11_face_305 : decode cX11_face 305 = .ok (.iadd, 1) := by decide +kernel
theorem dX11_face_306 : decode cX11_face 306 = .ok (.iaload, 1) := by decide +kernel
theorem dX11_face_307 : decode cX11_face 307 = .ok (.iastore, 1) := by decide +kernel
theorem dX11_face_308 : decode cX11_face 308 = .ok (.aload_n 0, 1) := by decide +kernel
theorem dX11_face_309 : decode cX11_face 309 = .ok (.getfield 43, 3) := by decide +kernel
theorem dX11_face_312 : decode cX11_face 312 = .ok (.bipush 8, 2) := by decide +kernel
theorem dX11_face_314 : decode cX11_face 314 = .ok (.iload 7, 2) := by decide +kernel
theorem dX11_face_316 : decode cX11_face 316 = .ok (.iload 8, 2) := by decide +kernel
theorem dX11_face_318 : decode cX11_face 318 = .ok (.iadd, 1) := by decide +kernel
theorem dX11_face_319 : decode cX11_face 319 = .ok (.imul, 1) := by decide +kernel
theorem dX11_face_320 : decode cX11_face 320 = .ok (.iload 9, 2) := by decide +kernel
theorem dX11_face_322 : decode cX11_face 322 = .ok (.iadd, 1) := by decide +kernel
theorem dX11_face_323 : decode cX11_face 323 = .ok (.aload_n 0, 1) := by decide +kernel
theorem dX11_face_324 : decode cX11_face 324 = .ok (.getfield 43, 3) := by decide +kernel
theorem dX11_face_327 : decode cX11_face 327 = .ok (.bipush 8, 2) := by decide +kernel
theorem dX11_face_329 : decode cX11_face 329 = .ok (.iload 7, 2) := by decide +kernel
theorem dX11_face_331 : decode cX11_face 331 = .ok (.iload 8, 2) := by decide +kernel
theorem dX11_face_333 : decode cX11_face 333 = .ok (.iadd, 1) := by decide +kernel
theorem dX11_face_334 : decode cX11_face 334 = .ok (.iconst 1, 1) := by decide +kernel
theorem dX11_face_335 : decode cX11_face 335 = .ok (.isub, 1) := by decide +kernel
theorem dX11_face_336 : decode cX11_face 336 = .ok (.imul, 1) := by decide +kernel
theorem dX11_face_337 : decode cX11_face 337 = .ok (.iload 10, 2) := by decide +kernel
theorem dX11_face_339 : decode cX11_face 339 = .ok (.iadd, 1) := by decide +kernel
theorem dX11_face_340 : decode cX11_face 340 = .ok (.iaload, 1) := by decide +kernel
theorem dX11_face_341 : decode cX11_face 341 = .ok (.aload_n 0, 1) := by decide +kernel
theorem dX11_face_342 : decode cX11_face 342 = .ok (.getfield 43, 3) := by decide +kernel
theorem dX11_face_345 : decode cX11_face 345 = .ok (.bipush 8, 2) := by decide +kernel
theorem dX11_face_347 : decode cX11_face 347 = .ok (.iload 7, 2) := by decide +kernel
theorem dX11_face_349 : decode cX11_face 349 = .ok (.imul, 1) := by decide +kernel
theorem dX11_face_350 : decode cX11_face 350 = .ok (.iload 9, 2) := by decide +kernel
theorem dX11_face_352 : decode cX11_face 352 = .ok (.iadd, 1) := by decide +kernel
theorem dX11_face_353 : decode cX11_face 353 = .ok (.iaload, 1) := by decide +kernel
theorem dX11_face_354 : decode cX11_face 354 = .ok (.iadd, 1) := by decide +kernel
theorem dX11_face_355 : decode cX11_face 355 = .ok (.iconst 3, 1) := by decide +kernel
theorem dX11_face_356 : decode cX11_face 356 = .ok (.irem, 1) := by decide +kernel
theorem dX11_face_357 : decode cX11_face 357 = .ok (.iastore, 1) := by decide +kernel
theorem dX11_face_358 : decode cX11_face 358 = .ok (.iinc 9 1, 3) := by decide +kernel
theorem dX11_face_361 : decode cX11_face 361 = .ok (.goto (-109), 3) := by decide +kernel
theorem dX11_face_364 : decode cX11_face 364 = .ok (.iconst 0, 1) := by decide +kernel
theorem dX11_face_365 : decode cX11_face 365 = .ok (.istore 9, 2) := by decide +kernel
theorem dX11_face_367 : decode cX11_face 367 = .ok (.iload 9, 2) := by decide +kernel
theorem dX11_face_369 : decode cX11_face 369 = .ok (.bipush 12, 2) := by decide +kernel
theorem dX11_face_371 : decode cX11_face 371 = .ok (.if_icmp .ge 106, 3) := by decide +kernel
theorem dX11_face_374 : decode cX11_face 374 = .ok (.aload_n 0, 1) := by decide +kernel
theorem dX11_face_375 : decode cX11_face 375 = .ok (.getfield 46, 3) := by decide +kernel
theorem dX11_face_378 : decode cX11_face 378 = .ok (.bipush 12, 2) := by decide +kernel
theorem dX11_face_380 : decode cX11_face 380 = .ok (.iload 7, 2) := by decide +kernel
theorem dX11_face_382 : decode cX11_face 382 = .ok (.imul, 1) := by decide +kernel
theorem dX11_face_383 : decode cX11_face 383 = .ok (.iload 9, 2) := by decide +kernel
theorem dX11_face_385 : decode cX11_face 385 = .ok (.iadd, 1) := by decide +kernel
theorem dX11_face_386 : decode cX11_face 386 = .ok (.iaload, 1) := by decide +kernel
theorem dX11_face_387 : decode cX11_face 387 = .ok (.istore 10, 2) := by decide +kernel
theorem dX11_face_389 : decode cX11_face 389 = .ok (.aload_n 0, 1) := by decide +kernel
theorem dX11_face_390 : decode cX11_face 390 = .ok (.getfield 46, 3) := by decide +kernel
theorem dX11_face_393 : decode cX11_face 393 = .ok (.bipush 12, 2) := by decide +kernel
theorem dX11_face_395 : decode cX11_face 395 = .ok (.iload 7, 2) := by decide +kernel
theorem dX11_face_397 : decode cX11_face 397 = .ok (.iload 8, 2) := by decide +kernel
theorem dX11_face_399 : decode cX11_face 399 = .ok (.iadd, 1) := by decide +kernel
theorem dX11_face_400 : decode cX11_face 400 = .ok (.imul, 1) := by decide +kernel
theorem dX11_face_401 : decode cX11_face 401 = .ok (.iload 9, 2) := by decide +kernel
theorem dX11_face_403 : decode cX11_face 403 = .ok (.iadd, 1) := by decide +kernel
theorem dX11_face_404 : decode cX11_face 404 = .ok (.aload_n 0, 1) := by decide +kernel
theorem dX11_face_405 : decode cX11_face 405 = .ok (.getfield 46, 3) := by decide +kernel
theorem dX11_face_408 : decode cX11_face 408 = .ok (.bipush 12, 2) := by decide +kernel
theorem dX11_face_410 : decode cX11_face 410 = .ok (.iload 7, 2) := by decide +kernel
theorem dX11_face_412 : decode cX11_face 412 = .ok (.iload 8, 2) := by decide +kernel
theorem dX11_face_414 : decode cX11_face 414 = .ok (.iadd, 1) := by decide +kernel
theorem dX11_face_415 : decode cX11_face 415 = .ok (.iconst 1, 1) := by decide +kernel
theorem dX11_face_416 : decode cX11_face 416 = .ok (.isub, 1) := by decide +kernel
theorem dX11_face_417 : decode cX11_face 417 = .ok (.imul, 1) := by decide +kernel
theorem dX11_face_418 : decode cX11_face 418 = .ok (.iload 10, 2) := by decide +kernel
theorem dX11_face_420 : decode cX11_face 420 = .ok (.iadd, 1) := by decide +kernel
theorem dX11_face_421 : decode cX11_face 421 = .ok (.iaload, 1) := by decide +kernel
theorem dX11_face_422 : decode cX11_face 422 = .ok (.iastore, 1) := by decide +kernel
theorem dX11_face_423 : decode cX11_face 423 = .ok (.aload_n 0, 1) := by decide +kernel
theorem dX11_face_424 : decode cX11_face 424 = .ok (.getfield 49, 3) := by decide +kernel
theorem dX11_face_427 : decode cX11_face 427 = .ok (.bipush 12, 2) := by decide +kernel
theorem dX11_face_429 : decode cX11_face 429 = .ok (.iload 7, 2) := by decide +kernel
theorem dX11_face_431 : decode cX11_face 431 = .ok (.iload 8, 2) := by decide +kernel
theorem dX11_face_433 : decode cX11_face 433 = .ok (.iadd, 1) := by decide +kernel
theorem dX11_face_434 : decode cX11_face 434 = .ok (.imul, 1) := by decide +kernel
theorem dX11_face_435 : decode cX11_face 435 = .ok (.iload 9, 2) := by decide +kernel
theorem dX11_face_437 : decode cX11_face 437 = .ok (.iadd, 1) := by decide +kernel
theorem dX11_face_438 : decode cX11_face 438 = .ok (.aload_n 0, 1) := by decide +kernel
theorem dX11_face_439 : decode cX11_face 439 = .ok (.getfield 49, 3) := by decide +kernel
theorem dX11_face_442 : decode cX11_face 442 = .ok (.bipush 12, 2) := by decide +kernel
theorem dX11_face_444 : decode cX11_face 444 = .ok (.iload 7, 2) := by decide +kernel
theorem dX11_face_446 : decode cX11_face 446 = .ok (.iload 8, 2) := by decide +kernel
theorem dX11_face_448 : decode cX11_face 448 = .ok (.iadd, 1) := by decide +kernel
theorem dX11_face_449 : decode cX11_face 449 = .ok (.iconst 1, 1) := by decide +kernel
theorem dX11_face_450 : decode cX11_face 450 = .ok (.isub, 1) := by decide +kernel
theorem dX11_face_451 : decode cX11_face 451 = .ok (.imul, 1) := by decide +kernel
theorem dX11_face_452 : decode cX11_face 452 = .ok (.iload 10, 2) := by decide +kernel
theorem dX11_face_454 : decode cX11_face 454 = .ok (.iadd, 1) := by decide +kernel
theorem dX11_face_455 : decode cX11_face 455 = .ok (.iaload, 1) := by decide +kernel
theorem dX11_face_456 : decode cX11_face 456 = .ok (.aload_n 0, 1) := by decide +kernel
theorem dX11_face_457 : decode cX11_face 457 = .ok (.getfield 49, 3) := by decide +kernel
theorem dX11_face_460 : decode cX11_face 460 = .ok (.bipush 12, 2) := by decide +kernel
theorem dX11_face_462 : decode cX11_face 462 = .ok (.iload 7, 2) := by decide +kernel
theorem dX11_face_464 : decode cX11_face 464 = .ok (.imul, 1) := by decide +kernel
theorem dX11_face_465 : decode cX11_face 465 = .ok (.iload 9, 2) := by decide +kernel
theorem dX11_face_467 : decode cX11_face 467 = .ok (.iadd, 1) := by decide +kernel
theorem dX11_face_468 : decode cX11_face 468 = .ok (.iaload, 1) := by decide +kernel
theorem dX11_face_469 : decode cX11_face 469 = .ok (.ixor, 1) := by decide +kernel
theorem dX11_face_470 : decode cX11_face 470 = .ok (.iastore, 1) := by decide +kernel
theorem dX11_face_471 : decode cX11_face 471 = .ok (.iinc 9 1, 3) := by decide +kernel
theorem dX11_face_474 : decode cX11_face 474 = .ok (.goto (-107), 3) := by decide +kernel
theorem dX11_face_477 : decode cX11_face 477 = .ok (.iinc 8 1, 3) := by decide +kernel
theorem dX11_face_480 : decode cX11_face 480 = .ok (.goto (-237), 3) := by decide +kernel
theorem dX11_face_483 : decode cX11_face 483 = .ok (.return_, 1) := by decide +kernel
theorem dX11_bringHome_0 : decode cX11_bringHome 0 = .ok (.iconst 0, 1) := by decide +kernel
theorem dX11_bringHome_1 : decode cX11_bringHome 1 = .ok (.istore_n 1, 1) := by decide +kernel
theorem dX11_bringHome_2 : decode cX11_bringHome 2 = .ok (.iload_n 1, 1) := by decide +kernel
theorem dX11_bringHome_3 : decode cX11_bringHome 3 = .ok (.bipush 12, 2) := by decide +kernel
theorem dX11_bringHome_5 : decode cX11_bringHome 5 = .ok (.if_icmp .ge 43, 3) := by decide +kernel
theorem dX11_bringHome_8 : decode cX11_bringHome 8 = .ok (.aload_n 0, 1) := by decide +kernel
theorem dX11_bringHome_9 : decode cX11_bringHome 9 = .ok (.getfield 16, 3) := by decide +kernel
theorem dX11_bringHome_12 : decode cX11_bringHome 12 = .ok (.iload_n 1, 1) := by decide +kernel
theorem dX11_bringHome_13 : decode cX11_bringHome 13 = .ok (.iload_n 1, 1) := by decide +kernel
theorem dX11_bringHome_14 : decode cX11_bringHome 14 = .ok (.iastore, 1) := by decide +kernel
theorem dX11_bringHome_15 : decode cX11_bringHome 15 = .ok (.aload_n 0, 1) := by decide +kernel
theorem dX11_bringHome_16 : decode cX11_bringHome 16 = .ok (.getfield 19, 3) := by decide +kernel
theorem dX11_bringHome_19 : decode cX11_bringHome 19 = .ok (.iload_n 1, 1) := by decide +kernel
theorem dX11_bringHome_20 : decode cX11_bringHome 20 = .ok (.iconst 0, 1) := by decide +kernel
theorem dX11_bringHome_21 : decode cX11_bringHome 21 = .ok (.iastore, 1) := by decide +kernel
theorem dX11_bringHome_22 : decode cX11_bringHome 22 = .ok (.iload_n 1, 1) := by decide +kernel
theorem dX11_bringHome_23 : decode cX11_bringHome 23 = .ok (.bipush 8, 2) := by decide +kernel
theorem dX11_bringHome_25 : decode cX11_bringHome 25 = .ok (.if_icmp .ge 17, 3) := by decide +kernel
theorem dX11_bringHome_28 : decode cX11_bringHome 28 = .ok (.aload_n 0, 1) := by decide +kernel
theorem dX11_bringHome_29 : decode cX11_bringHome 29 = .ok (.getfield 7, 3) := by decide +kernel
theorem dX11_bringHome_32 : decode cX11_bringHome 32 = .ok (.iload_n 1, 1) := by decide +kernel
theorem dX11_bringHome_33 : decode cX11_bringHome 33 = .ok (.iload_n 1, 1) := by decide +kernel
theorem dX11_bringHome_34 : decode cX11_bringHome 34 = .ok (.iastore, 1) := by decide +kernel
theorem dX11_bringHome_35 : decode cX11_bringHome 35 = .ok (.aload_n 0, 1) := by decide +kernel
theorem dX11_bringHome_36 : decode cX11_bringHome 36 = .ok (.getfield 13, 3) := by decide +kernel
theorem dX11_bringHome_39 : decode cX11_bringHome 39 = .ok (.iload_n 1, 1) := by decide +kernel
theorem dX11_bringHome_40 : decode cX11_bringHome 40 = .ok (.iconst 0, 1) := by decide +kernel
theorem dX11_bringHome_41 : decode cX11_bringHome 41 = .ok (.iastore, 1) := by decide +kernel
theorem dX11_bringHome_42 : decode cX11_bringHome 42 = .ok (.iinc 1 1, 3) := by decide +kernel
theorem dX11_bringHome_45 : decode cX11_bringHome 45 = .ok (.goto (-43), 3) := by decide +kernel
theorem dX11_bringHome_48 : decode cX11_bringHome 48 = .ok (.return_, 1) := by decide +kernel
theorem dX11_turnIt_0 : decode cX11_turnIt 0 = .ok (.iconst 0, 1) := by decide +kernel
theorem dX11_turnIt_1 : decode cX11_turnIt 1 = .ok (.istore_n 2, 1) := by decide +kernel
theorem dX11_turnIt_2 : decode cX11_turnIt 2 = .ok (.iload_n 2, 1) := by decide +kernel
theorem dX11_turnIt_3 : decode cX11_turnIt 3 = .ok (.bipush 8, 2) := by decide +kernel
theorem dX11_turnIt_5 : decode cX11_turnIt 5 = .ok (.if_icmp .ge 33, 3) := by decide +kernel
theorem dX11_turnIt_8 : decode cX11_turnIt 8 = .ok (.aload_n 0, 1) := by decide +kernel
theorem dX11_turnIt_9 : decode cX11_turnIt 9 = .ok (.getfield 34, 3) := by decide +kernel
theorem dX11_turnIt_12 : decode cX11_turnIt 12 = .ok (.iload_n 2, 1) := by decide +kernel
theorem dX11_turnIt_13 : decode cX11_turnIt 13 = .ok (.aload_n 0, 1) := by decide +kernel
theorem dX11_turnIt_14 : decode cX11_turnIt 14 = .ok (.getfield 22, 3) := by decide +kernel
theorem dX11_turnIt_17 : decode cX11_turnIt 17 = .ok (.iload_n 2, 1) := by decide +kernel
theorem dX11_turnIt_18 : decode cX11_turnIt 18 = .ok (.iaload, 1) := by decide +kernel
theorem dX11_turnIt_19 : decode cX11_turnIt 19 = .ok (.iastore, 1) := by decide +kernel
theorem dX11_turnIt_20 : decode cX11_turnIt 20 = .ok (.aload_n 0, 1) := by decide +kernel
theorem dX11_turnIt_21 : decode cX11_turnIt 21 = .ok (.getfield 37, 3) := by decide +kernel
theorem dX11_turnIt_24 : decode cX11_turnIt 24 = .ok (.iload_n 2, 1) := by decide +kernel
theorem dX11_turnIt_25 : decode cX11_turnIt 25 = .ok (.aload_n 0, 1) := by decide +kernel
theorem dX11_turnIt_26 : decode cX11_turnIt 26 = .ok (.getfield 25, 3) := by decide +kernel
theorem dX11_turnIt_29 : decode cX11_turnIt 29 = .ok (.iload_n 2, 1) := by decide +kernel
theorem dX11_turnIt_30 : decode cX11_turnIt 30 = .ok (.iaload, 1) := by decide +kernel
theorem dX11_turnIt_31 : decode cX11_turnIt 31 = .ok (.iastore, 1) := by decide +kernel
theorem dX11_turnIt_32 : decode cX11_turnIt 32 = .ok (.iinc 2 1, 3) := by decide +kernel
theorem dX11_turnIt_35 : decode cX11_turnIt 35 = .ok (.goto (-33), 3) := by decide +kernel
theorem dX11_turnIt_38 : decode cX11_turnIt 38 = .ok (.iconst 0, 1) := by decide +kernel
theorem dX11_turnIt_39 : decode cX11_turnIt 39 = .ok (.istore_n 2, 1) := by decide +kernel
theorem dX11_turnIt_40 : decode cX11_turnIt 40 = .ok (.iload_n 2, 1) := by decide +kernel
theorem dX11_turnIt_41 : decode cX11_turnIt 41 = .ok (.bipush 8, 2) := by decide +kernel
theorem dX11_turnIt_43 : decode cX11_turnIt 43 = .ok (.if_icmp .ge 59, 3) := by decide +kernel
theorem dX11_turnIt_46 : decode cX11_turnIt 46 = .ok (.aload_n 0, 1) := by decide +kernel
theorem dX11_turnIt_47 : decode cX11_turnIt 47 = .ok (.getfield 40, 3) := by decide +kernel
theorem dX11_turnIt_50 : decode cX11_turnIt 50 = .ok (.bipush 8, 2) := by decide +kernel
theorem dX11_turnIt_52 : decode cX11_turnIt 52 = .ok (.iload_n 1, 1) := by decide +kernel
theorem dX11_turnIt_53 : decode cX11_turnIt 53 = .ok (.imul, 1) := by decide +kernel
theorem dX11_turnIt_54 : decode cX11_turnIt 54 = .ok (.iload_n 2, 1) := by decide +kernel
theorem dX11_turnIt_55 : decode cX11_turnIt 55 = .ok (.iadd, 1) := by decide +kernel
theorem dX11_turnIt_56 : decode cX11_turnIt 56 = .ok (.iaload, 1) := by decide +kernel
theorem dX11_turnIt_57 : decode cX11_turnIt 57 = .ok (.istore_n 3, 1) := by decide +kernel
theorem dX11_turnIt_58 : decode cX11_turnIt 58 = .ok (.aload_n 0, 1) := by decide +kernel
theorem dX11_turnIt_59 : decode cX11_turnIt 59 = .ok (.getfield 22, 3) := by decide +kernel
theorem dX11_turnIt_62 : decode cX11_turnIt 62 = .ok (.iload_n 2, 1) := by decide +kernel
theorem dX11_turnIt_63 : decode cX11_turnIt 63 = .ok (.aload_n 0, 1) := by decide +kernel
theorem dX11_turnIt_64 : decode cX11_turnIt 64 = .ok (.getfield 34, 3) := by decide +kernel
theorem dX11_turnIt_67 : decode cX11_turnIt 67 = .ok (.iload_n 3, 1) := by decide +kernel
theorem dX11_turnIt_68 : decode cX11_turnIt 68 = .ok (.iaload, 1) := by decide +kernel
theorem dX11_turnIt_69 : decode cX11_turnIt 69 = .ok (.iastore, 1) := by decide +kernel
theorem dX11_turnIt_70 : decode cX11_turnIt 70 = .ok (.aload_n 0, 1) := by decide +kernel
theorem dX11_turnIt_71 : decode cX11_turnIt 71 = .ok (.getfield 25, 3) := by decide +kernel
theorem dX11_turnIt_74 : decode cX11_turnIt 74 = .ok (.iload_n 2, 1) := by decide +kernel
theorem dX11_turnIt_75 : decode cX11_turnIt 75 = .ok (.aload_n 0, 1) := by decide +kernel
theorem dX11_turnIt_76 : decode cX11_turnIt 76 = .ok (.getfield 37, 3) := by decide +kernel
theorem dX11_turnIt_79 : decode cX11_turnIt 79 = .ok (.iload_n 3, 1) := by decide +kernel
theorem dX11_turnIt_80 : decode cX11_turnIt 80 = .ok (.iaload, 1) := by decide +kernel
theorem dX11_turnIt_81 : decode cX11_turnIt 81 = .ok (.aload_n 0, 1) := by decide +kernel
theorem dX11_turnIt_82 : decode cX11_turnIt 82 = .ok (.getfield 43, 3) := by decide +kernel
theorem dX11_turnIt_85 : decode cX11_turnIt 85 = .ok (.bipush 8, 2) := by decide +kernel
theorem dX11_turnIt_87 : decode cX11_turnIt 87 = .ok (.iload_n 1, 1) := by decide +kernel
theorem dX11_turnIt_88 : decode cX11_turnIt 88 = .ok (.imul, 1) := by decide +kernel
theorem dX11_turnIt_89 : decode cX11_turnIt 89 = .ok (.iload_n 2, 1) := by decide +kernel
theorem dX11_turnIt_90 : decode cX11_turnIt 90 = .ok (.iadd, 1) := by decide +kernel
theorem dX11_turnIt_91 : decode cX11_turnIt 91 = .ok (.iaload, 1) := by decide +kernel
theorem dX11_turnIt_92 : decode cX11_turnIt 92 = .ok (.iadd, 1) := by decide +kernel
theorem dX11_turnIt_93 : decode cX11_turnIt 93 = .ok (.iconst 3, 1) := by decide +kernel
theorem dX11_turnIt_94 : decode cX11_turnIt 94 = .ok (.irem, 1) := by decide +kernel
theorem dX11_turnIt_95 : decode cX11_turnIt 95 = .ok (.iastore, 1) := by decide +kernel
theorem dX11_turnIt_96 : decode cX11_turnIt 96 = .ok (.iinc 2 1, 3) := by decide +kernel
theorem dX11_turnIt_99 : decode cX11_turnIt 99 = .ok (.goto (-59), 3) := by decide +kernel
theorem dX11_turnIt_102 : decode cX11_turnIt 102 = .ok (.iconst 0, 1) := by decide +kernel
theorem dX11_turnIt_103 : decode cX11_turnIt 103 = .ok (.istore_n 2, 1) := by decide +kernel
theorem dX11_turnIt_104 : decode cX11_turnIt 104 = .ok (.iload_n 2, 1) := by decide +kernel
theorem dX11_turnIt_105 : decode cX11_turnIt 105 = .ok (.bipush 12, 2) := by decide +kernel
theorem dX11_turnIt_107 : decode cX11_turnIt 107 = .ok (.if_icmp .ge 33, 3) := by decide +kernel
theorem dX11_turnIt_110 : decode cX11_turnIt 110 = .ok (.aload_n 0, 1) := by decide +kernel
theorem dX11_turnIt_111 : decode cX11_turnIt 111 = .ok (.getfield 34, 3) := by decide +kernel
theorem dX11_turnIt_114 : decode cX11_turnIt 114 = .ok (.iload_n 2, 1) := by decide +kernel
theorem dX11_turnIt_115 : decode cX11_turnIt 115 = .ok (.aload_n 0, 1) := by decide +kernel
theorem dX11_turnIt_116 : decode cX11_turnIt 116 = .ok (.getfield 28, 3) := by decide +kernel
theorem dX11_turnIt_119 : decode cX11_turnIt 119 = .ok (.iload_n 2, 1) := by decide +kernel
theorem dX11_turnIt_120 : decode cX11_turnIt 120 = .ok (.iaload, 1) := by decide +kernel
theorem dX11_turnIt_121 : decode cX11_turnIt 121 = .ok (.iastore, 1) := by decide +kernel
theorem dX11_turnIt_122 : decode cX11_turnIt 122 = .ok (.aload_n 0, 1) := by decide +kernel
theorem dX11_turnIt_123 : decode cX11_turnIt 123 = .ok (.getfield 37, 3) := by decide +kernel
theorem dX11_turnIt_126 : decode cX11_turnIt 126 = .ok (.iload_n 2, 1) := by decide +kernel
theorem dX11_turnIt_127 : decode cX11_turnIt 127 = .ok (.aload_n 0, 1) := by decide +kernel
theorem dX11_turnIt_128 : decode cX11_turnIt 128 = .ok (.getfield 31, 3) := by decide +kernel
theorem dX11_turnIt_131 : decode cX11_turnIt 131 = .ok (.iload_n 2, 1) := by decide +kernel
theorem dX11_turnIt_132 : decode cX11_turnIt 132 = .ok (.iaload, 1) := by decide +kernel
theorem dX11_turnIt_133 : decode cX11_turnIt 133 = .ok (.iastore, 1) := by decide +kernel
theorem dX11_turnIt_134 : decode cX11_turnIt 134 = .ok (.iinc 2 1, 3) := by decide +kernel
theorem dX11_turnIt_137 : decode cX11_turnIt 137 = .ok (.goto (-33), 3) := by decide +kernel
theorem dX11_turnIt_140 : decode cX11_turnIt 140 = .ok (.iconst 0, 1) := by decide +kernel
theorem dX11_turnIt_141 : decode cX11_turnIt 141 = .ok (.istore_n 2, 1) := by decide +kernel
theorem dX11_turnIt_142 : decode cX11_turnIt 142 = .ok (.iload_n 2, 1) := by decide +kernel
theorem dX11_turnIt_143 : decode cX11_turnIt 143 = .ok (.bipush 12, 2) := by decide +kernel
theorem dX11_turnIt_145 : decode cX11_turnIt 145 = .ok (.if_icmp .ge 57, 3) := by decide +kernel
theorem dX11_turnIt_148 : decode cX11_turnIt 148 = .ok (.aload_n 0, 1) := by decide +kernel
theorem dX11_turnIt_149 : decode cX11_turnIt 149 = .ok (.getfield 46, 3) := by decide +kernel
theorem dX11_turnIt_152 : decode cX11_turnIt 152 = .ok (.bipush 12, 2) := by decide +kernel
theorem dX11_turnIt_154 : decode cX11_turnIt 154 = .ok (.iload_n 1, 1) := by decide +kernel
theorem dX11_turnIt_155 : decode cX11_turnIt 155 = .ok (.imul, 1) := by decide +kernel
theorem dX11_turnIt_156 : decode cX11_turnIt 156 = .ok (.iload_n 2, 1) := by decide +kernel
theorem dX11_turnIt_157 : decode cX11_turnIt 157 = .ok (.iadd, 1) := by decide +kernel
theorem dX11_turnIt_158 : decode cX11_turnIt 158 = .ok (.iaload, 1) := by decide +kernel
theorem dX11_turnIt_159 : decode cX11_turnIt 159 = .ok (.istore_n 3, 1) := by decide +kernel
theorem dX11_turnIt_160 : decode cX11_turnIt 160 = .ok (.aload_n 0, 1) := by decide +kernel
theorem dX11_turnIt_161 : decode cX11_turnIt 161 = .ok (.getfield 28, 3) := by decide +kernel
theorem dX11_turnIt_164 : decode cX11_turnIt 164 = .ok (.iload_n 2, 1) := by decide +kernel
theorem dX11_turnIt_165 : decode cX11_turnIt 165 = .ok (.aload_n 0, 1) := by decide +kernel
theorem dX11_turnIt_166 : decode cX11_turnIt 166 = .ok (.getfield 34, 3) := by decide +kernel
theorem dX11_turnIt_169 : decode cX11_turnIt 169 = .ok (.iload_n 3, 1) := by decide +kernel
theorem dX11_turnIt_170 : decode cX11_turnIt 170 = .ok (.iaload, 1) := by decide +kernel
theorem dX11_turnIt_171 : decode cX11_turnIt 171 = .ok (.iastore, 1) := by decide +kernel
theorem dX11_turnIt_172 : decode cX11_turnIt 172 = .ok (.aload_n 0, 1) := by decide +kernel
theorem dX11_turnIt_173 : decode cX11_turnIt 173 = .ok (.getfield 31, 3) := by decide +kernel
theorem dX11_turnIt_176 : decode cX11_turnIt 176 = .ok (.iload_n 2, 1) := by decide +kernel
theorem dX11_turnIt_177 : decode cX11_turnIt 177 = .ok (.aload_n 0, 1) := by decide +kernel
theorem dX11_turnIt_178 : decode cX11_turnIt 178 = .ok (.getfield 37, 3) := by decide +kernel
theorem dX11_turnIt_181 : decode cX11_turnIt 181 = .ok (.iload_n 3, 1) := by decide +kernel
theorem dX11_turnIt_182 : decode cX11_turnIt 182 = .ok (.iaload, 1) := by decide +kernel
theorem dX11_turnIt_183 : decode cX11_turnIt 183 = .ok (.aload_n 0, 1) := by decide +kernel
theorem dX11_turnIt_184 : decode cX11_turnIt 184 = .ok (.getfield 49, 3) := by decide +kernel
theorem dX11_turnIt_187 : decode cX11_turnIt 187 = .ok (.bipush 12, 2) := by decide +kernel
theorem dX11_turnIt_189 : decode cX11_turnIt 189 = .ok (.iload_n 1, 1) := by decide +kernel
theorem dX11_turnIt_190 : decode cX11_turnIt 190 = .ok (.imul, 1) := by decide +kernel
theorem dX11_turnIt_191 : decode cX11_turnIt 191 = .ok (.iload_n 2, 1) := by decide +kernel
theorem dX11_turnIt_192 : decode cX11_turnIt 192 = .ok (.iadd, 1) := by decide +kernel
theorem dX11_turnIt_193 : decode cX11_turnIt 193 = .ok (.iaload, 1) := by decide +kernel
theorem dX11_turnIt_194 : decode cX11_turnIt 194 = .ok (.ixor, 1) := by decide +kernel
theorem dX11_turnIt_195 : decode cX11_turnIt 195 = .ok (.iastore, 1) := by decide +kernel
theorem dX11_turnIt_196 : decode cX11_turnIt 196 = .ok (.iinc 2 1, 3) := by decide +kernel
theorem dX11_turnIt_199 : decode cX11_turnIt 199 = .ok (.goto (-57), 3) := by decide +kernel
theorem dX11_turnIt_202 : decode cX11_turnIt 202 = .ok (.return_, 1) := by decide +kernel
theorem dX11_look_0 : decode cX11_look 0 = .ok (.iconst 0, 1) := by decide +kernel
theorem dX11_look_1 : decode cX11_look 1 = .ok (.istore_n 1, 1) := by decide +kernel
theorem dX11_look_2 : decode cX11_look 2 = .ok (.iload_n 1, 1) := by decide +kernel
theorem dX11_look_3 : decode cX11_look 3 = .ok (.bipush 12, 2) := by decide +kernel
theorem dX11_look_5 : decode cX11_look 5 = .ok (.if_icmp .ge 63, 3) := by decide +kernel
theorem dX11_look_8 : decode cX11_look 8 = .ok (.aload_n 0, 1) := by decide +kernel
theorem dX11_look_9 : decode cX11_look 9 = .ok (.getfield 28, 3) := by decide +kernel
theorem dX11_look_12 : decode cX11_look 12 = .ok (.iload_n 1, 1) := by decide +kernel
theorem dX11_look_13 : decode cX11_look 13 = .ok (.aload_n 0, 1) := by decide +kernel
theorem dX11_look_14 : decode cX11_look 14 = .ok (.getfield 16, 3) := by decide +kernel
theorem dX11_look_17 : decode cX11_look 17 = .ok (.iload_n 1, 1) := by decide +kernel
theorem dX11_look_18 : decode cX11_look 18 = .ok (.iaload, 1) := by decide +kernel
theorem dX11_look_19 : decode cX11_look 19 = .ok (.iastore, 1) := by decide +kernel
theorem dX11_look_20 : decode cX11_look 20 = .ok (.aload_n 0, 1) := by decide +kernel
theorem dX11_look_21 : decode cX11_look 21 = .ok (.getfield 31, 3) := by decide +kernel
theorem dX11_look_24 : decode cX11_look 24 = .ok (.iload_n 1, 1) := by decide +kernel
theorem dX11_look_25 : decode cX11_look 25 = .ok (.aload_n 0, 1) := by decide +kernel
theorem dX11_look_26 : decode cX11_look 26 = .ok (.getfield 19, 3) := by decide +kernel
theorem dX11_look_29 : decode cX11_look 29 = .ok (.iload_n 1, 1) := by decide +kernel
theorem dX11_look_30 : decode cX11_look 30 = .ok (.iaload, 1) := by decide +kernel
theorem dX11_look_31 : decode cX11_look 31 = .ok (.iastore, 1) := by decide +kernel
theorem dX11_look_32 : decode cX11_look 32 = .ok (.iload_n 1, 1) := by decide +kernel
theorem dX11_look_33 : decode cX11_look 33 = .ok (.bipush 8, 2) := by decide +kernel
theorem dX11_look_35 : decode cX11_look 35 = .ok (.if_icmp .ge 27, 3) := by decide +kernel
theorem dX11_look_38 : decode cX11_look 38 = .ok (.aload_n 0, 1) := by decide +kernel
theorem dX11_look_39 : decode cX11_look 39 = .ok (.getfield 22, 3) := by decide +kernel
theorem dX11_look_42 : decode cX11_look 42 = .ok (.iload_n 1, 1) := by decide +kernel
theorem dX11_look_43 : decode cX11_look 43 = .ok (.aload_n 0, 1) := by decide +kernel
theorem dX11_look_44 : decode cX11_look 44 = .ok (.getfield 7, 3) := by decide +kernel
theorem dX11_look_47 : decode cX11_look 47 = .ok (.iload_n 1, 1) := by decide +kernel
theorem dX11_look_48 : decode cX11_look 48 = .ok (.iaload, 1) := by decide +kernel
theorem dX11_look_49 : decode cX11_look 49 = .ok (.iastore, 1) := by decide +kernel
theorem dX11_look_50 : decode cX11_look 50 = .ok (.aload_n 0, 1) := by decide +kernel
theorem dX11_look_51 : decode cX11_look 51 = .ok (.getfield 25, 3) := by decide +kernel
theorem dX11_look_54 : decode cX11_look 54 = .ok (.iload_n 1, 1) := by decide +kernel
theorem dX11_look_55 : decode cX11_look 55 = .ok (.aload_n 0, 1) := by decide +kernel
theorem dX11_look_56 : decode cX11_look 56 = .ok (.getfield 13, 3) := by decide +kernel
theorem dX11_look_59 : decode cX11_look 59 = .ok (.iload_n 1, 1) := by decide +kernel
theorem dX11_look_60 : decode cX11_look 60 = .ok (.iaload, 1) := by decide +kernel
theorem dX11_look_61 : decode cX11_look 61 = .ok (.iastore, 1) := by decide +kernel
theorem dX11_look_62 : decode cX11_look 62 = .ok (.iinc 1 1, 3) := by decide +kernel
theorem dX11_look_65 : decode cX11_look 65 = .ok (.goto (-63), 3) := by decide +kernel
theorem dX11_look_68 : decode cX11_look 68 = .ok (.return_, 1) := by decide +kernel
theorem dX11_corner_0 : decode cX11_corner 0 = .ok (.iload_n 1, 1) := by decide +kernel
theorem dX11_corner_1 : decode cX11_corner 1 = .ok (.ifCond .lt 28, 3) := by decide +kernel
theorem dX11_corner_4 : decode cX11_corner 4 = .ok (.iload_n 1, 1) := by decide +kernel
theorem dX11_corner_5 : decode cX11_corner 5 = .ok (.bipush 7, 2) := by decide +kernel
theorem dX11_corner_7 : decode cX11_corner 7 = .ok (.if_icmp .gt 22, 3) := by decide +kernel
theorem dX11_corner_10 : decode cX11_corner 10 = .ok (.iload_n 2, 1) := by decide +kernel
theorem dX11_corner_11 : decode cX11_corner 11 = .ok (.ifCond .lt 18, 3) := by decide +kernel
theorem dX11_corner_14 : decode cX11_corner 14 = .ok (.iload_n 2, 1) := by decide +kernel
theorem dX11_corner_15 : decode cX11_corner 15 = .ok (.bipush 7, 2) := by decide +kernel
theorem dX11_corner_17 : decode cX11_corner 17 = .ok (.if_icmp .gt 12, 3) := by decide +kernel
theorem dX11_corner_20 : decode cX11_corner 20 = .ok (.iload_n 3, 1) := by decide +kernel
theorem dX11_corner_21 : decode cX11_corner 21 = .ok (.ifCond .lt 8, 3) := by decide +kernel
theorem dX11_corner_24 : decode cX11_corner 24 = .ok (.iload_n 3, 1) := by decide +kernel
theorem dX11_corner_25 : decode cX11_corner 25 = .ok (.iconst 2, 1) := by decide +kernel
theorem dX11_corner_26 : decode cX11_corner 26 = .ok (.if_icmp .le 5, 3) := by decide +kernel
theorem dX11_corner_29 : decode cX11_corner 29 = .ok (.iconst (-1), 1) := by decide +kernel
theorem dX11_corner_30 : decode cX11_corner 30 = .ok (.ireturn, 1) := by decide +kernel
theorem dX11_corner_31 : decode cX11_corner 31 = .ok (.aload_n 0, 1) := by decide +kernel
theorem dX11_corner_32 : decode cX11_corner 32 = .ok (.getfield 7, 3) := by decide +kernel
theorem dX11_corner_35 : decode cX11_corner 35 = .ok (.iload_n 1, 1) := by decide +kernel
theorem dX11_corner_36 : decode cX11_corner 36 = .ok (.iload_n 2, 1) := by decide +kernel
theorem dX11_corner_37 : decode cX11_corner 37 = .ok (.iastore, 1) := by decide +kernel
theorem dX11_corner_38 : decode cX11_corner 38 = .ok (.aload_n 0, 1) := by decide +kernel
theorem dX11_corner_39 : decode cX11_corner 39 = .ok (.getfield 13, 3) := by decide +kernel
theorem dX11_corner_42 : decode cX11_corner 42 = .ok (.iload_n 1, 1) := by decide +kernel
theorem dX11_corner_43 : decode cX11_corner 43 = .ok (.iload_n 3, 1) := by decide +kernel
theorem dX11_corner_44 : decode cX11_corner 44 = .ok (.iastore, 1) := by decide +kernel
theorem dX11_corner_45 : decode cX11_corner 45 = .ok (.iconst 1, 1) := by decide +kernel
theorem dX11_corner_46 : decode cX11_corner 46 = .ok (.ireturn, 1) := by decide +kernel
theorem dX11_edge_0 : decode cX11_edge 0 = .ok (.iload_n 1, 1) := by decide +kernel
theorem dX11_edge_1 : decode cX11_edge 1 = .ok (.ifCond .lt 28, 3) := by decide +kernel
theorem dX11_edge_4 : decode cX11_edge 4 = .ok (.iload_n 1, 1) := by decide +kernel
theorem dX11_edge_5 : decode cX11_edge 5 = .ok (.bipush 11, 2) := by decide +kernel
theorem dX11_edge_7 : decode cX11_edge 7 = .ok (.if_icmp .gt 22, 3) := by decide +kernel
theorem dX11_edge_10 : decode cX11_edge 10 = .ok (.iload_n 2, 1) := by decide +kernel
theorem dX11_edge_11 : decode cX11_edge 11 = .ok (.ifCond .lt 18, 3) := by decide +kernel
theorem dX11_edge_14 : decode cX11_edge 14 = .ok (.iload_n 2, 1) := by decide +kernel
theorem dX11_edge_15 : decode cX11_edge 15 = .ok (.bipush 11, 2) := by decide +kernel
theorem dX11_edge_17 : decode cX11_edge 17 = .ok (.if_icmp .gt 12, 3) := by decide +kernel
theorem dX11_edge_20 : decode cX11_edge 20 = .ok (.iload_n 3, 1) := by decide +kernel
theorem dX11_edge_21 : decode cX11_edge 21 = .ok (.ifCond .lt 8, 3) := by decide +kernel
theorem dX11_edge_24 : decode cX11_edge 24 = .ok (.iload_n 3, 1) := by decide +kernel
theorem dX11_edge_25 : decode cX11_edge 25 = .ok (.iconst 1, 1) := by decide +kernel
theorem dX11_edge_26 : decode cX11_edge 26 = .ok (.if_icmp .le 5, 3) := by decide +kernel
theorem dX11_edge_29 : decode cX11_edge 29 = .ok (.iconst (-1), 1) := by decide +kernel
theorem dX11_edge_30 : decode cX11_edge 30 = .ok (.ireturn, 1) := by decide +kernel
theorem dX11_edge_31 : decode cX11_edge 31 = .ok (.aload_n 0, 1) := by decide +kernel
theorem dX11_edge_32 : decode cX11_edge 32 = .ok (.getfield 16, 3) := by decide +kernel
theorem dX11_edge_35 : decode cX11_edge 35 = .ok (.iload_n 1, 1) := by decide +kernel
theorem dX11_edge_36 : decode cX11_edge 36 = .ok (.iload_n 2, 1) := by decide +kernel
theorem dX11_edge_37 : decode cX11_edge 37 = .ok (.iastore, 1) := by decide +kernel
theorem dX11_edge_38 : decode cX11_edge 38 = .ok (.aload_n 0, 1) := by decide +kernel
theorem dX11_edge_39 : decode cX11_edge 39 = .ok (.getfield 19, 3) := by decide +kernel
theorem dX11_edge_42 : decode cX11_edge 42 = .ok (.iload_n 1, 1) := by decide +kernel
theorem dX11_edge_43 : decode cX11_edge 43 = .ok (.iload_n 3, 1) := by decide +kernel
theorem dX11_edge_44 : decode cX11_edge 44 = .ok (.iastore, 1) := by decide +kernel
theorem dX11_edge_45 : decode cX11_edge 45 = .ok (.iconst 1, 1) := by decide +kernel
theorem dX11_edge_46 : decode cX11_edge 46 = .ok (.ireturn, 1) := by decide +kernel
theorem dX11_at_0 : decode cX11_at 0 = .ok (.iload_n 1, 1) := by decide +kernel
theorem dX11_at_1 : decode cX11_at 1 = .ok (.ifCond .ne 29, 3) := by decide +kernel
theorem dX11_at_4 : decode cX11_at 4 = .ok (.iload_n 2, 1) := by decide +kernel
theorem dX11_at_5 : decode cX11_at 5 = .ok (.ifCond .lt 25, 3) := by decide +kernel
theorem dX11_at_8 : decode cX11_at 8 = .ok (.iload_n 2, 1) := by decide +kernel
theorem dX11_at_9 : decode cX11_at 9 = .ok (.bipush 8, 2) := by decide +kernel
theorem dX11_at_11 : decode cX11_at 11 = .ok (.if_icmp .ge 19, 3) := by decide +kernel
theorem dX11_at_14 : decode cX11_at 14 = .ok (.iconst 3, 1) := by decide +kernel
theorem dX11_at_15 : decode cX11_at 15 = .ok (.aload_n 0, 1) := by decide +kernel
theorem dX11_at_16 : decode cX11_at 16 = .ok (.getfield 7, 3) := by decide +kernel
theorem dX11_at_19 : decode cX11_at 19 = .ok (.iload_n 2, 1) := by decide +kernel
theorem dX11_at_20 : decode cX11_at 20 = .ok (.iaload, 1) := by decide +kernel
theorem dX11_at_21 : decode cX11_at 21 = .ok (.imul, 1) := by decide +kernel
theorem dX11_at_22 : decode cX11_at 22 = .ok (.aload_n 0, 1) := by decide +kernel
theorem dX11_at_23 : decode cX11_at 23 = .ok (.getfield 13, 3) := by decide +kernel
theorem dX11_at_26 : decode cX11_at 26 = .ok (.iload_n 2, 1) := by decide +kernel
theorem dX11_at_27 : decode cX11_at 27 = .ok (.iaload, 1) := by decide +kernel
theorem dX11_at_28 : decode cX11_at 28 = .ok (.iadd, 1) := by decide +kernel
theorem dX11_at_29 : decode cX11_at 29 = .ok (.ireturn, 1) := by decide +kernel
theorem dX11_at_30 : decode cX11_at 30 = .ok (.iload_n 1, 1) := by decide +kernel
theorem dX11_at_31 : decode cX11_at 31 = .ok (.iconst 1, 1) := by decide +kernel
theorem dX11_at_32 : decode cX11_at 32 = .ok (.if_icmp .ne 31, 3) := by decide +kernel
theorem dX11_at_35 : decode cX11_at 35 = .ok (.iload_n 2, 1) := by decide +kernel
theorem dX11_at_36 : decode cX11_at 36 = .ok (.ifCond .lt 27, 3) := by decide +kernel
theorem dX11_at_39 : decode cX11_at 39 = .ok (.iload_n 2, 1) := by decide +kernel
theorem dX11_at_40 : decode cX11_at 40 = .ok (.bipush 12, 2) := by decide +kernel
theorem dX11_at_42 : decode cX11_at 42 = .ok (.if_icmp .ge 21, 3) := by decide +kernel
theorem dX11_at_45 : decode cX11_at 45 = .ok (.iconst 2, 1) := by decide +kernel
theorem dX11_at_46 : decode cX11_at 46 = .ok (.aload_n 0, 1) := by decide +kernel
theorem dX11_at_47 : decode cX11_at 47 = .ok (.getfield 16, 3) := by decide +kernel
theorem dX11_at_50 : decode cX11_at 50 = .ok (.iload_n 2, 1) := by decide +kernel
theorem dX11_at_51 : decode cX11_at 51 = .ok (.iaload, 1) := by decide +kernel
theorem dX11_at_52 : decode cX11_at 52 = .ok (.imul, 1) := by decide +kernel
theorem dX11_at_53 : decode cX11_at 53 = .ok (.aload_n 0, 1) := by decide +kernel
theorem dX11_at_54 : decode cX11_at 54 = .ok (.getfield 19, 3) := by decide +kernel
theorem dX11_at_57 : decode cX11_at 57 = .ok (.iload_n 2, 1) := by decide +kernel
theorem dX11_at_58 : decode cX11_at 58 = .ok (.iaload, 1) := by decide +kernel
theorem dX11_at_59 : decode cX11_at 59 = .ok (.iadd, 1) := by decide +kernel
theorem dX11_at_60 : decode cX11_at 60 = .ok (.goto 4, 3) := by decide +kernel
theorem dX11_at_63 : decode cX11_at 63 = .ok (.iconst (-1), 1) := by decide +kernel
theorem dX11_at_64 : decode cX11_at 64 = .ok (.ireturn, 1) := by decide +kernel
theorem dX11_lawful_0 : decode cX11_lawful 0 = .ok (.iconst 0, 1) := by decide +kernel
theorem dX11_lawful_1 : decode cX11_lawful 1 = .ok (.istore_n 1, 1) := by decide +kernel
theorem dX11_lawful_2 : decode cX11_lawful 2 = .ok (.iconst 0, 1) := by decide +kernel
theorem dX11_lawful_3 : decode cX11_lawful 3 = .ok (.istore_n 2, 1) := by decide +kernel
theorem dX11_lawful_4 : decode cX11_lawful 4 = .ok (.iconst 0, 1) := by decide +kernel
theorem dX11_lawful_5 : decode cX11_lawful 5 = .ok (.istore_n 3, 1) := by decide +kernel
theorem dX11_lawful_6 : decode cX11_lawful 6 = .ok (.iconst 0, 1) := by decide +kernel
theorem dX11_lawful_7 : decode cX11_lawful 7 = .ok (.istore 4, 2) := by decide +kernel
theorem dX11_lawful_9 : decode cX11_lawful 9 = .ok (.iload 4, 2) := by decide +kernel
theorem dX11_lawful_11 : decode cX11_lawful 11 = .ok (.bipush 8, 2) := by decide +kernel
theorem dX11_lawful_13 : decode cX11_lawful 13 = .ok (.if_icmp .ge 72, 3) := by decide +kernel
theorem dX11_lawful_16 : decode cX11_lawful 16 = .ok (.iload_n 1, 1) := by decide +kernel
theorem dX11_lawful_17 : decode cX11_lawful 17 = .ok (.iconst 1, 1) := by decide +kernel
theorem dX11_lawful_18 : decode cX11_lawful 18 = .ok (.aload_n 0, 1) := by decide +kernel
theorem dX11_lawful_19 : decode cX11_lawful 19 = .ok (.getfield 7, 3) := by decide +kernel
theorem dX11_lawful_22 : decode cX11_lawful 22 = .ok (.iload 4, 2) := by decide +kernel
theorem dX11_lawful_24 : decode cX11_lawful 24 = .ok (.iaload, 1) := by decide +kernel
theorem dX11_lawful_25 : decode cX11_lawful 25 = .ok (.ishl, 1) := by decide +kernel
theorem dX11_lawful_26 : decode cX11_lawful 26 = .ok (.ior, 1) := by decide +kernel
theorem dX11_lawful_27 : decode cX11_lawful 27 = .ok (.istore_n 1, 1) := by decide +kernel
theorem dX11_lawful_28 : decode cX11_lawful 28 = .ok (.iload_n 2, 1) := by decide +kernel
theorem dX11_lawful_29 : decode cX11_lawful 29 = .ok (.aload_n 0, 1) := by decide +kernel
theorem dX11_lawful_30 : decode cX11_lawful 30 = .ok (.getfield 13, 3) := by decide +kernel
theorem dX11_lawful_33 : decode cX11_lawful 33 = .ok (.iload 4, 2) := by decide +kernel
theorem dX11_lawful_35 : decode cX11_lawful 35 = .ok (.iaload, 1) := by decide +kernel
theorem dX11_lawful_36 : decode cX11_lawful 36 = .ok (.iadd, 1) := by decide +kernel
theorem dX11_lawful_37 : decode cX11_lawful 37 = .ok (.istore_n 2, 1) := by decide +kernel
theorem dX11_lawful_38 : decode cX11_lawful 38 = .ok (.iconst 0, 1) := by decide +kernel
theorem dX11_lawful_39 : decode cX11_lawful 39 = .ok (.istore 5, 2) := by decide +kernel
theorem dX11_lawful_41 : decode cX11_lawful 41 = .ok (.iload 5, 2) := by decide +kernel
theorem dX11_lawful_43 : decode cX11_lawful 43 = .ok (.iload 4, 2) := by decide +kernel
theorem dX11_lawful_45 : decode cX11_lawful 45 = .ok (.if_icmp .ge 34, 3) := by decide +kernel
theorem dX11_lawful_48 : decode cX11_lawful 48 = .ok (.iload_n 3, 1) := by decide +kernel
theorem dX11_lawful_49 : decode cX11_lawful 49 = .ok (.aload_n 0, 1) := by decide +kernel
theorem dX11_lawful_50 : decode cX11_lawful 50 = .ok (.getfield 7, 3) := by decide +kernel
theorem dX11_lawful_53 : decode cX11_lawful 53 = .ok (.iload 5, 2) := by decide +kernel
theorem dX11_lawful_55 : decode cX11_lawful 55 = .ok (.iaload, 1) := by decide +kernel
theorem dX11_lawful_56 : decode cX11_lawful 56 = .ok (.aload_n 0, 1) := by decide +kernel
theorem dX11_lawful_57 : decode cX11_lawful 57 = .ok (.getfield 7, 3) := by decide +kernel
theorem dX11_lawful_60 : decode cX11_lawful 60 = .ok (.iload 4, 2) := by decide +kernel
theorem dX11_lawful_62 : decode cX11_lawful 62 = .ok (.iaload, 1) := by decide +kernel
theorem dX11_lawful_63 : decode cX11_lawful 63 = .ok (.if_icmp .le 7, 3) := by decide +kernel
theorem dX11_lawful_66 : decode cX11_lawful 66 = .ok (.iconst 1, 1) := by decide +kernel
theorem dX11_lawful_67 : decode cX11_lawful 67 = .ok (.goto 4, 3) := by decide +kernel
theorem dX11_lawful_70 : decode cX11_lawful 70 = .ok (.iconst 0, 1) := by decide +kernel
theorem dX11_lawful_71 : decode cX11_lawful 71 = .ok (.iadd, 1) := by decide +kernel
theorem dX11_lawful_72 : decode cX11_lawful 72 = .ok (.istore_n 3, 1) := by decide +kernel
theorem dX11_lawful_73 : decode cX11_lawful 73 = .ok (.iinc 5 1, 3) := by decide +kernel
theorem dX11_lawful_76 : decode cX11_lawful 76 = .ok (.goto (-35), 3) := by decide +kernel
theorem dX11_lawful_79 : decode cX11_lawful 79 = .ok (.iinc 4 1, 3) := by decide +kernel
theorem dX11_lawful_82 : decode cX11_lawful 82 = .ok (.goto (-73), 3) := by decide +kernel
theorem dX11_lawful_85 : decode cX11_lawful 85 = .ok (.iconst 0, 1) := by decide +kernel
theorem dX11_lawful_86 : decode cX11_lawful 86 = .ok (.istore 4, 2) := by decide +kernel
theorem dX11_lawful_88 : decode cX11_lawful 88 = .ok (.iconst 0, 1) := by decide +kernel
theorem dX11_lawful_89 : decode cX11_lawful 89 = .ok (.istore 5, 2) := by decide +kernel
theorem dX11_lawful_91 : decode cX11_lawful 91 = .ok (.iconst 0, 1) := by decide +kernel
theorem dX11_lawful_92 : decode cX11_lawful 92 = .ok (.istore 6, 2) := by decide +kernel
theorem dX11_lawful_94 : decode cX11_lawful 94 = .ok (.iload 6, 2) := by decide +kernel
theorem dX11_lawful_96 : decode cX11_lawful 96 = .ok (.bipush 12, 2) := by decide +kernel
theorem dX11_lawful_98 : decode cX11_lawful 98 = .ok (.if_icmp .ge 76, 3) := by decide +kernel
theorem dX11_lawful_101 : decode cX11_lawful 101 = .ok (.iload 4, 2) := by decide +kernel
theorem dX11_lawful_103 : decode cX11_lawful 103 = .ok (.iconst 1, 1) := by decide +kernel
theorem dX11_lawful_104 : decode cX11_lawful 104 = .ok (.aload_n 0, 1) := by decide +kernel
theorem dX11_lawful_105 : decode cX11_lawful 105 = .ok (.getfield 16, 3) := by decide +kernel
theorem dX11_lawful_108 : decode cX11_lawful 108 = .ok (.iload 6, 2) := by decide +kernel
theorem dX11_lawful_110 : decode cX11_lawful 110 = .ok (.iaload, 1) := by decide +kernel
theorem dX11_lawful_111 : decode cX11_lawful 111 = .ok (.ishl, 1) := by decide +kernel
theorem dX11_lawful_112 : decode cX11_lawful 112 = .ok (.ior, 1) := by decide +kernel
theorem dX11_lawful_113 : decode cX11_lawful 113 = .ok (.istore 4, 2) := by decide +kernel
theorem dX11_lawful_115 : decode cX11_lawful 115 = .ok (.iload 5, 2) := by decide +kernel
theorem dX11_lawful_117 : decode cX11_lawful 117 = .ok (.aload_n 0, 1) := by decide +kernel
theorem dX11_lawful_118 : decode cX11_lawful 118 = .ok (.getfield 19, 3) := by decide +kernel
theorem dX11_lawful_121 : decode cX11_lawful 121 = .ok (.iload 6, 2) := by decide +kernel
theorem dX11_lawful_123 : decode cX11_lawful 123 = .ok (.iaload, 1) := by decide +kernel
theorem dX11_lawful_124 : decode cX11_lawful 124 = .ok (.iadd, 1) := by decide +kernel
theorem dX11_lawful_125 : decode cX11_lawful 125 = .ok (.istore 5, 2) := by decide +kernel
theorem dX11_lawful_127 : decode cX11_lawful 127 = .ok (.iconst 0, 1) := by decide +kernel
end
section
theorem dX11_lawful_128 : decode cX11_lawful 128 = .ok (.istore 7, 2) := by decide +kernel
theorem dX11_lawful_130 : decode cX11_lawful 130 = .ok (.iload 7, 2) := by decide +kernel
theorem dX11_lawful_132 : decode cX11_lawful 132 = .ok (.iload 6, 2) := by decide +kernel
theorem dX11_lawful_134 : decode cX11_lawful 134 = .ok (.if_icmp .ge 34, 3) := by decide +kernel
theorem dX11_lawful_137 : decode cX11_lawful 137 = .ok (.iload_n 3, 1) := by decide +kernel
theorem dX11_lawful_138 : decode cX11_lawful 138 = .ok (.aload_n 0, 1) := by decide +kernel
theorem dX11_lawful_139 : decode cX11_lawful 139 = .ok (.getfield 16, 3) := by decide +kernel
theorem dX11_lawful_142 : decode cX11_lawful 142 = .ok (.iload 7, 2) := by decide +kernel
theorem dX11_lawful_144 : decode cX11_lawful 144 = .ok (.iaload, 1) := by decide +kernel
theorem dX11_lawful_145 : decode cX11_lawful 145 = .ok (.aload_n 0, 1) := by decide +kernel
theorem dX11_lawful_146 : decode cX11_lawful 146 = .ok (.getfield 16, 3) := by decide +kernel
theorem dX11_lawful_149 : decode cX11_lawful 149 = .ok (.iload 6, 2) := by decide +kernel
theorem dX11_lawful_151 : decode cX11_lawful 151 = .ok (.iaload, 1) := by decide +kernel
theorem dX11_lawful_152 : decode cX11_lawful 152 = .ok (.if_icmp .le 7, 3) := by decide +kernel
theorem dX11_lawful_155 : decode cX11_lawful 155 = .ok (.iconst 1, 1) := by decide +kernel
theorem dX11_lawful_156 : decode cX11_lawful 156 = .ok (.goto 4, 3) := by decide +kernel
theorem dX11_lawful_159 : decode cX11_lawful 159 = .ok (.iconst 0, 1) := by decide +kernel
theorem dX11_lawful_160 : decode cX11_lawful 160 = .ok (.iadd, 1) := by decide +kernel
theorem dX11_lawful_161 : decode cX11_lawful 161 = .ok (.istore_n 3, 1) := by decide +kernel
theorem dX11_lawful_162 : decode cX11_lawful 162 = .ok (.iinc 7 1, 3) := by decide +kernel
theorem dX11_lawful_165 : decode cX11_lawful 165 = .ok (.goto (-35), 3) := by decide +kernel
theorem dX11_lawful_168 : decode cX11_lawful 168 = .ok (.iinc 6 1, 3) := by decide +kernel
theorem dX11_lawful_171 : decode cX11_lawful 171 = .ok (.goto (-77), 3) := by decide +kernel
theorem dX11_lawful_174 : decode cX11_lawful 174 = .ok (.iload_n 1, 1) := by decide +kernel
theorem dX11_lawful_175 : decode cX11_lawful 175 = .ok (.sipush 255, 3) := by decide +kernel
theorem dX11_lawful_178 : decode cX11_lawful 178 = .ok (.if_icmp .eq 6, 3) := by decide +kernel
theorem dX11_lawful_181 : decode cX11_lawful 181 = .ok (.bipush (-2), 2) := by decide +kernel
theorem dX11_lawful_183 : decode cX11_lawful 183 = .ok (.ireturn, 1) := by decide +kernel
theorem dX11_lawful_184 : decode cX11_lawful 184 = .ok (.iload 4, 2) := by decide +kernel
theorem dX11_lawful_186 : decode cX11_lawful 186 = .ok (.sipush 4095, 3) := by decide +kernel
theorem dX11_lawful_189 : decode cX11_lawful 189 = .ok (.if_icmp .eq 6, 3) := by decide +kernel
theorem dX11_lawful_192 : decode cX11_lawful 192 = .ok (.bipush (-3), 2) := by decide +kernel
theorem dX11_lawful_194 : decode cX11_lawful 194 = .ok (.ireturn, 1) := by decide +kernel
theorem dX11_lawful_195 : decode cX11_lawful 195 = .ok (.iload_n 2, 1) := by decide +kernel
theorem dX11_lawful_196 : decode cX11_lawful 196 = .ok (.iconst 3, 1) := by decide +kernel
theorem dX11_lawful_197 : decode cX11_lawful 197 = .ok (.irem, 1) := by decide +kernel
theorem dX11_lawful_198 : decode cX11_lawful 198 = .ok (.ifCond .eq 8, 3) := by decide +kernel
theorem dX11_lawful_201 : decode cX11_lawful 201 = .ok (.bipush (-4), 2) := by decide +kernel
theorem dX11_lawful_203 : decode cX11_lawful 203 = .ok (.goto 27, 3) := by decide +kernel
theorem dX11_lawful_206 : decode cX11_lawful 206 = .ok (.iload 5, 2) := by decide +kernel
theorem dX11_lawful_208 : decode cX11_lawful 208 = .ok (.iconst 2, 1) := by decide +kernel
theorem dX11_lawful_209 : decode cX11_lawful 209 = .ok (.irem, 1) := by decide +kernel
theorem dX11_lawful_210 : decode cX11_lawful 210 = .ok (.ifCond .eq 8, 3) := by decide +kernel
theorem dX11_lawful_213 : decode cX11_lawful 213 = .ok (.bipush (-5), 2) := by decide +kernel
theorem dX11_lawful_215 : decode cX11_lawful 215 = .ok (.goto 15, 3) := by decide +kernel
theorem dX11_lawful_218 : decode cX11_lawful 218 = .ok (.iload_n 3, 1) := by decide +kernel
theorem dX11_lawful_219 : decode cX11_lawful 219 = .ok (.iconst 2, 1) := by decide +kernel
theorem dX11_lawful_220 : decode cX11_lawful 220 = .ok (.irem, 1) := by decide +kernel
theorem dX11_lawful_221 : decode cX11_lawful 221 = .ok (.ifCond .eq 8, 3) := by decide +kernel
theorem dX11_lawful_224 : decode cX11_lawful 224 = .ok (.bipush (-6), 2) := by decide +kernel
theorem dX11_lawful_226 : decode cX11_lawful 226 = .ok (.goto 4, 3) := by decide +kernel
theorem dX11_lawful_229 : decode cX11_lawful 229 = .ok (.iconst 1, 1) := by decide +kernel
theorem dX11_lawful_230 : decode cX11_lawful 230 = .ok (.ireturn, 1) := by decide +kernel
set_option maxRecDepth 20000 in
theorem ggX11_turn_X11_look : GoodIn wsX11_turn wsX11_look := goodIn_r _ [14, 2, 1, 4, 3, 6, 5, 8, 7, 25, 26, 27, 28, 29, 30, 31, 32, 33, 34, 35, 36, 37, 38, 39, 40, 41, 42, 43, 44, 45, 46, 47, 48, 49, 50, 51, 52, 53, 54, 55, 56, 57, 58, 59, 60, 61, 62] (by decide +kernel) (by decide +kernel)
set_option maxRecDepth 20000 in
theorem gX11_turn_X11_look : GoodIn wsX11_turn (wsV RX11 129 RX11 yX11_look wsX11_look) := goodIn_app (goodIn_of _ (by decide +kernel)) ggX11_turn_X11_look
set_option maxRecDepth 20000 in
theorem ggX11_turn_X11_turnIt : GoodIn wsX11_turn wsX11_turnIt := goodIn_r _ [18, 19, 6, 20, 8, 21, 22, 2, 4, 23, 24, 25, 26, 27, 28, 29, 30, 31, 32, 33, 34, 35, 36, 37, 38, 39, 40, 41, 42, 43, 44, 45, 46, 47, 48, 49, 50, 51, 52, 53, 54, 55, 56, 57, 58, 59, 60, 61, 62] (by decide +kernel) (by decide +kernel)
set_option maxRecDepth 20000 in
theorem gX11_turn_X11_turnIt : GoodIn wsX11_turn (wsV RX11 132 RX11 yX11_turnIt wsX11_turnIt) := goodIn_app (goodIn_of _ (by decide +kernel)) ggX11_turn_X11_turnIt
theorem dX11_turn_0 : decode cX11_turn 0 = .ok (.iload_n 1, 1) := by decide +kernel
theorem dX11_turn_1 : decode cX11_turn 1 = .ok (.ifCond .lt 9, 3) := by decide +kernel
theorem dX11_turn_4 : decode cX11_turn 4 = .ok (.iload_n 1, 1) := by decide +kernel
theorem dX11_turn_5 : decode cX11_turn 5 = .ok (.bipush 18, 2) := by decide +kernel
theorem dX11_turn_7 : decode cX11_turn 7 = .ok (.if_icmp .lt 5, 3) := by decide +kernel
theorem dX11_turn_10 : decode cX11_turn 10 = .ok (.iconst (-1), 1) := by decide +kernel
theorem dX11_turn_11 : decode cX11_turn 11 = .ok (.ireturn, 1) := by decide +kernel
theorem dX11_turn_12 : decode cX11_turn 12 = .ok (.aload_n 0, 1) := by decide +kernel
theorem dX11_turn_13 : decode cX11_turn 13 = .ok (.invokevirtual 129, 3) := by decide +kernel
theorem dX11_turn_16 : decode cX11_turn 16 = .ok (.aload_n 0, 1) := by decide +kernel
theorem dX11_turn_17 : decode cX11_turn 17 = .ok (.iload_n 1, 1) := by decide +kernel
theorem dX11_turn_18 : decode cX11_turn 18 = .ok (.invokevirtual 132, 3) := by decide +kernel
theorem dX11_turn_21 : decode cX11_turn 21 = .ok (.iconst 0, 1) := by decide +kernel
theorem dX11_turn_22 : decode cX11_turn 22 = .ok (.istore_n 2, 1) := by decide +kernel
theorem dX11_turn_23 : decode cX11_turn 23 = .ok (.iload_n 2, 1) := by decide +kernel
theorem dX11_turn_24 : decode cX11_turn 24 = .ok (.bipush 12, 2) := by decide +kernel
theorem dX11_turn_26 : decode cX11_turn 26 = .ok (.if_icmp .ge 63, 3) := by decide +kernel
theorem dX11_turn_29 : decode cX11_turn 29 = .ok (.aload_n 0, 1) := by decide +kernel
theorem dX11_turn_30 : decode cX11_turn 30 = .ok (.getfield 16, 3) := by decide +kernel
theorem dX11_turn_33 : decode cX11_turn 33 = .ok (.iload_n 2, 1) := by decide +kernel
theorem dX11_turn_34 : decode cX11_turn 34 = .ok (.aload_n 0, 1) := by decide +kernel
theorem dX11_turn_35 : decode cX11_turn 35 = .ok (.getfield 28, 3) := by decide +kernel
theorem dX11_turn_38 : decode cX11_turn 38 = .ok (.iload_n 2, 1) := by decide +kernel
theorem dX11_turn_39 : decode cX11_turn 39 = .ok (.iaload, 1) := by decide +kernel
theorem dX11_turn_40 : decode cX11_turn 40 = .ok (.iastore, 1) := by decide +kernel
theorem dX11_turn_41 : decode cX11_turn 41 = .ok (.aload_n 0, 1) := by decide +kernel
theorem dX11_turn_42 : decode cX11_turn 42 = .ok (.getfield 19, 3) := by decide +kernel
theorem dX11_turn_45 : decode cX11_turn 45 = .ok (.iload_n 2, 1) := by decide +kernel
theorem dX11_turn_46 : decode cX11_turn 46 = .ok (.aload_n 0, 1) := by decide +kernel
theorem dX11_turn_47 : decode cX11_turn 47 = .ok (.getfield 31, 3) := by decide +kernel
theorem dX11_turn_50 : decode cX11_turn 50 = .ok (.iload_n 2, 1) := by decide +kernel
theorem dX11_turn_51 : decode cX11_turn 51 = .ok (.iaload, 1) := by decide +kernel
theorem dX11_turn_52 : decode cX11_turn 52 = .ok (.iastore, 1) := by decide +kernel
theorem dX11_turn_53 : decode cX11_turn 53 = .ok (.iload_n 2, 1) := by decide +kernel
theorem dX11_turn_54 : decode cX11_turn 54 = .ok (.bipush 8, 2) := by decide +kernel
theorem dX11_turn_56 : decode cX11_turn 56 = .ok (.if_icmp .ge 27, 3) := by decide +kernel
theorem dX11_turn_59 : decode cX11_turn 59 = .ok (.aload_n 0, 1) := by decide +kernel
theorem dX11_turn_60 : decode cX11_turn 60 = .ok (.getfield 7, 3) := by decide +kernel
theorem dX11_turn_63 : decode cX11_turn 63 = .ok (.iload_n 2, 1) := by decide +kernel
theorem dX11_turn_64 : decode cX11_turn 64 = .ok (.aload_n 0, 1) := by decide +kernel
theorem dX11_turn_65 : decode cX11_turn 65 = .ok (.getfield 22, 3) := by decide +kernel
theorem dX11_turn_68 : decode cX11_turn 68 = .ok (.iload_n 2, 1) := by decide +kernel
theorem dX11_turn_69 : decode cX11_turn 69 = .ok (.iaload, 1) := by decide +kernel
theorem dX11_turn_70 : decode cX11_turn 70 = .ok (.iastore, 1) := by decide +kernel
theorem dX11_turn_71 : decode cX11_turn 71 = .ok (.aload_n 0, 1) := by decide +kernel
theorem dX11_turn_72 : decode cX11_turn 72 = .ok (.getfield 13, 3) := by decide +kernel
theorem dX11_turn_75 : decode cX11_turn 75 = .ok (.iload_n 2, 1) := by decide +kernel
theorem dX11_turn_76 : decode cX11_turn 76 = .ok (.aload_n 0, 1) := by decide +kernel
theorem dX11_turn_77 : decode cX11_turn 77 = .ok (.getfield 25, 3) := by decide +kernel
theorem dX11_turn_80 : decode cX11_turn 80 = .ok (.iload_n 2, 1) := by decide +kernel
theorem dX11_turn_81 : decode cX11_turn 81 = .ok (.iaload, 1) := by decide +kernel
theorem dX11_turn_82 : decode cX11_turn 82 = .ok (.iastore, 1) := by decide +kernel
theorem dX11_turn_83 : decode cX11_turn 83 = .ok (.iinc 2 1, 3) := by decide +kernel
theorem dX11_turn_86 : decode cX11_turn 86 = .ok (.goto (-63), 3) := by decide +kernel
theorem dX11_turn_89 : decode cX11_turn 89 = .ok (.aload_n 0, 1) := by decide +kernel
theorem dX11_turn_90 : decode cX11_turn 90 = .ok (.dup, 1) := by decide +kernel
theorem dX11_turn_91 : decode cX11_turn 91 = .ok (.getfield 136, 3) := by decide +kernel
theorem dX11_turn_94 : decode cX11_turn 94 = .ok (.iconst 1, 1) := by decide +kernel
theorem dX11_turn_95 : decode cX11_turn 95 = .ok (.iadd, 1) := by decide +kernel
theorem dX11_turn_96 : decode cX11_turn 96 = .ok (.putfield 136, 3) := by decide +kernel
theorem dX11_turn_99 : decode cX11_turn 99 = .ok (.iconst 1, 1) := by decide +kernel
theorem dX11_turn_100 : decode cX11_turn 100 = .ok (.ireturn, 1) := by decide +kernel
set_option maxRecDepth 20000 in
theorem ggX11_home_X11_bringHome : GoodIn wsX11_home wsX11_bringHome := goodIn_r _ [6, 7, 8, 9, 10, 11, 12, 13, 14, 15, 16, 17, 18, 19, 20, 21, 22, 23, 24, 25, 26, 27, 28, 29, 30, 31, 32, 33, 34, 35, 36, 37, 38, 39, 40, 41, 42, 43, 44, 45, 46, 47, 48] (by decide +kernel) (by decide +kernel)
set_option maxRecDepth 20000 in
theorem gX11_home_X11_bringHome : GoodIn wsX11_home (wsV RX11 122 RX11 yX11_bringHome wsX11_bringHome) := goodIn_app (goodIn_of _ (by decide +kernel)) ggX11_home_X11_bringHome
theorem dX11_home_0 : decode cX11_home 0 = .ok (.aload_n 0, 1) := by decide +kernel
theorem dX11_home_1 : decode cX11_home 1 = .ok (.getfield 136, 3) := by decide +kernel
theorem dX11_home_4 : decode cX11_home 4 = .ok (.istore_n 1, 1) := by decide +kernel
theorem dX11_home_5 : decode cX11_home 5 = .ok (.aload_n 0, 1) := by decide +kernel
theorem dX11_home_6 : decode cX11_home 6 = .ok (.iconst 0, 1) := by decide +kernel
theorem dX11_home_7 : decode cX11_home 7 = .ok (.putfield 136, 3) := by decide +kernel
theorem dX11_home_10 : decode cX11_home 10 = .ok (.aload_n 0, 1) := by decide +kernel
theorem dX11_home_11 : decode cX11_home 11 = .ok (.invokevirtual 122, 3) := by decide +kernel
theorem dX11_home_14 : decode cX11_home 14 = .ok (.iload_n 1, 1) := by decide +kernel
theorem dX11_home_15 : decode cX11_home 15 = .ok (.ireturn, 1) := by decide +kernel
theorem dX11_isHome_0 : decode cX11_isHome 0 = .ok (.iconst 1, 1) := by decide +kernel
theorem dX11_isHome_1 : decode cX11_isHome 1 = .ok (.istore_n 1, 1) := by decide +kernel
theorem dX11_isHome_2 : decode cX11_isHome 2 = .ok (.iconst 0, 1) := by decide +kernel
theorem dX11_isHome_3 : decode cX11_isHome 3 = .ok (.istore_n 2, 1) := by decide +kernel
theorem dX11_isHome_4 : decode cX11_isHome 4 = .ok (.iload_n 2, 1) := by decide +kernel
theorem dX11_isHome_5 : decode cX11_isHome 5 = .ok (.bipush 12, 2) := by decide +kernel
theorem dX11_isHome_7 : decode cX11_isHome 7 = .ok (.if_icmp .ge 63, 3) := by decide +kernel
theorem dX11_isHome_10 : decode cX11_isHome 10 = .ok (.iload_n 1, 1) := by decide +kernel
theorem dX11_isHome_11 : decode cX11_isHome 11 = .ok (.ifCond .eq 51, 3) := by decide +kernel
theorem dX11_isHome_14 : decode cX11_isHome 14 = .ok (.aload_n 0, 1) := by decide +kernel
theorem dX11_isHome_15 : decode cX11_isHome 15 = .ok (.getfield 16, 3) := by decide +kernel
theorem dX11_isHome_18 : decode cX11_isHome 18 = .ok (.iload_n 2, 1) := by decide +kernel
theorem dX11_isHome_19 : decode cX11_isHome 19 = .ok (.iaload, 1) := by decide +kernel
theorem dX11_isHome_20 : decode cX11_isHome 20 = .ok (.iload_n 2, 1) := by decide +kernel
theorem dX11_isHome_21 : decode cX11_isHome 21 = .ok (.if_icmp .ne 41, 3) := by decide +kernel
theorem dX11_isHome_24 : decode cX11_isHome 24 = .ok (.aload_n 0, 1) := by decide +kernel
theorem dX11_isHome_25 : decode cX11_isHome 25 = .ok (.getfield 19, 3) := by decide +kernel
theorem dX11_isHome_28 : decode cX11_isHome 28 = .ok (.iload_n 2, 1) := by decide +kernel
theorem dX11_isHome_29 : decode cX11_isHome 29 = .ok (.iaload, 1) := by decide +kernel
theorem dX11_isHome_30 : decode cX11_isHome 30 = .ok (.ifCond .ne 32, 3) := by decide +kernel
theorem dX11_isHome_33 : decode cX11_isHome 33 = .ok (.iload_n 2, 1) := by decide +kernel
theorem dX11_isHome_34 : decode cX11_isHome 34 = .ok (.bipush 7, 2) := by decide +kernel
theorem dX11_isHome_36 : decode cX11_isHome 36 = .ok (.if_icmp .gt 22, 3) := by decide +kernel
theorem dX11_isHome_39 : decode cX11_isHome 39 = .ok (.aload_n 0, 1) := by decide +kernel
theorem dX11_isHome_40 : decode cX11_isHome 40 = .ok (.getfield 7, 3) := by decide +kernel
theorem dX11_isHome_43 : decode cX11_isHome 43 = .ok (.iload_n 2, 1) := by decide +kernel
theorem dX11_isHome_44 : decode cX11_isHome 44 = .ok (.iaload, 1) := by decide +kernel
theorem dX11_isHome_45 : decode cX11_isHome 45 = .ok (.iload_n 2, 1) := by decide +kernel
theorem dX11_isHome_46 : decode cX11_isHome 46 = .ok (.if_icmp .ne 16, 3) := by decide +kernel
theorem dX11_isHome_49 : decode cX11_isHome 49 = .ok (.aload_n 0, 1) := by decide +kernel
theorem dX11_isHome_50 : decode cX11_isHome 50 = .ok (.getfield 13, 3) := by decide +kernel
theorem dX11_isHome_53 : decode cX11_isHome 53 = .ok (.iload_n 2, 1) := by decide +kernel
theorem dX11_isHome_54 : decode cX11_isHome 54 = .ok (.iaload, 1) := by decide +kernel
theorem dX11_isHome_55 : decode cX11_isHome 55 = .ok (.ifCond .ne 7, 3) := by decide +kernel
theorem dX11_isHome_58 : decode cX11_isHome 58 = .ok (.iconst 1, 1) := by decide +kernel
theorem dX11_isHome_59 : decode cX11_isHome 59 = .ok (.goto 4, 3) := by decide +kernel
theorem dX11_isHome_62 : decode cX11_isHome 62 = .ok (.iconst 0, 1) := by decide +kernel
theorem dX11_isHome_63 : decode cX11_isHome 63 = .ok (.istore_n 1, 1) := by decide +kernel
theorem dX11_isHome_64 : decode cX11_isHome 64 = .ok (.iinc 2 1, 3) := by decide +kernel
theorem dX11_isHome_67 : decode cX11_isHome 67 = .ok (.goto (-63), 3) := by decide +kernel
theorem dX11_isHome_70 : decode cX11_isHome 70 = .ok (.iload_n 1, 1) := by decide +kernel
theorem dX11_isHome_71 : decode cX11_isHome 71 = .ok (.ifCond .eq 7, 3) := by decide +kernel
theorem dX11_isHome_74 : decode cX11_isHome 74 = .ok (.iconst 1, 1) := by decide +kernel
theorem dX11_isHome_75 : decode cX11_isHome 75 = .ok (.goto 4, 3) := by decide +kernel
theorem dX11_isHome_78 : decode cX11_isHome 78 = .ok (.iconst 0, 1) := by decide +kernel
theorem dX11_isHome_79 : decode cX11_isHome 79 = .ok (.ireturn, 1) := by decide +kernel
theorem dX11_may_0 : decode cX11_may 0 = .ok (.iload_n 1, 1) := by decide +kernel
theorem dX11_may_1 : decode cX11_may 1 = .ok (.iconst 3, 1) := by decide +kernel
theorem dX11_may_2 : decode cX11_may 2 = .ok (.irem, 1) := by decide +kernel
theorem dX11_may_3 : decode cX11_may 3 = .ok (.iconst 1, 1) := by decide +kernel
theorem dX11_may_4 : decode cX11_may 4 = .ok (.if_icmp .ne 7, 3) := by decide +kernel
theorem dX11_may_7 : decode cX11_may 7 = .ok (.iconst 1, 1) := by decide +kernel
theorem dX11_may_8 : decode cX11_may 8 = .ok (.goto 4, 3) := by decide +kernel
theorem dX11_may_11 : decode cX11_may 11 = .ok (.iconst 0, 1) := by decide +kernel
theorem dX11_may_12 : decode cX11_may 12 = .ok (.istore_n 2, 1) := by decide +kernel
theorem dX11_may_13 : decode cX11_may 13 = .ok (.iload_n 1, 1) := by decide +kernel
theorem dX11_may_14 : decode cX11_may 14 = .ok (.iconst 3, 1) := by decide +kernel
theorem dX11_may_15 : decode cX11_may 15 = .ok (.idiv, 1) := by decide +kernel
theorem dX11_may_16 : decode cX11_may 16 = .ok (.istore_n 3, 1) := by decide +kernel
theorem dX11_may_17 : decode cX11_may 17 = .ok (.iload_n 0, 1) := by decide +kernel
theorem dX11_may_18 : decode cX11_may 18 = .ok (.ifCond .eq 27, 3) := by decide +kernel
theorem dX11_may_21 : decode cX11_may 21 = .ok (.iload_n 2, 1) := by decide +kernel
theorem dX11_may_22 : decode cX11_may 22 = .ok (.ifCond .ne 23, 3) := by decide +kernel
theorem dX11_may_25 : decode cX11_may 25 = .ok (.iload_n 0, 1) := by decide +kernel
theorem dX11_may_26 : decode cX11_may 26 = .ok (.iconst 1, 1) := by decide +kernel
theorem dX11_may_27 : decode cX11_may 27 = .ok (.if_icmp .ne 8, 3) := by decide +kernel
theorem dX11_may_30 : decode cX11_may 30 = .ok (.iload_n 3, 1) := by decide +kernel
theorem dX11_may_31 : decode cX11_may 31 = .ok (.iconst 4, 1) := by decide +kernel
theorem dX11_may_32 : decode cX11_may 32 = .ok (.if_icmp .lt 13, 3) := by decide +kernel
theorem dX11_may_35 : decode cX11_may 35 = .ok (.iload_n 0, 1) := by decide +kernel
theorem dX11_may_36 : decode cX11_may 36 = .ok (.iconst 2, 1) := by decide +kernel
theorem dX11_may_37 : decode cX11_may 37 = .ok (.if_icmp .ne 12, 3) := by decide +kernel
theorem dX11_may_40 : decode cX11_may 40 = .ok (.iload_n 3, 1) := by decide +kernel
theorem dX11_may_41 : decode cX11_may 41 = .ok (.iconst 2, 1) := by decide +kernel
theorem dX11_may_42 : decode cX11_may 42 = .ok (.if_icmp .ge 7, 3) := by decide +kernel
theorem dX11_may_45 : decode cX11_may 45 = .ok (.iconst 1, 1) := by decide +kernel
theorem dX11_may_46 : decode cX11_may 46 = .ok (.goto 4, 3) := by decide +kernel
theorem dX11_may_49 : decode cX11_may 49 = .ok (.iconst 0, 1) := by decide +kernel
theorem dX11_may_50 : decode cX11_may 50 = .ok (.ireturn, 1) := by decide +kernel
theorem dX11_rank_0 : decode cX11_rank 0 = .ok (.iconst 0, 1) := by decide +kernel
theorem dX11_rank_1 : decode cX11_rank 1 = .ok (.istore_n 2, 1) := by decide +kernel
theorem dX11_rank_2 : decode cX11_rank 2 = .ok (.iconst 0, 1) := by decide +kernel
theorem dX11_rank_3 : decode cX11_rank 3 = .ok (.istore_n 3, 1) := by decide +kernel
theorem dX11_rank_4 : decode cX11_rank 4 = .ok (.iload_n 3, 1) := by decide +kernel
theorem dX11_rank_5 : decode cX11_rank 5 = .ok (.iload_n 1, 1) := by decide +kernel
theorem dX11_rank_6 : decode cX11_rank 6 = .ok (.if_icmp .ge 64, 3) := by decide +kernel
theorem dX11_rank_9 : decode cX11_rank 9 = .ok (.iconst 0, 1) := by decide +kernel
theorem dX11_rank_10 : decode cX11_rank 10 = .ok (.istore 4, 2) := by decide +kernel
theorem dX11_rank_12 : decode cX11_rank 12 = .ok (.iload_n 3, 1) := by decide +kernel
theorem dX11_rank_13 : decode cX11_rank 13 = .ok (.iconst 1, 1) := by decide +kernel
theorem dX11_rank_14 : decode cX11_rank 14 = .ok (.iadd, 1) := by decide +kernel
theorem dX11_rank_15 : decode cX11_rank 15 = .ok (.istore 5, 2) := by decide +kernel
theorem dX11_rank_17 : decode cX11_rank 17 = .ok (.iload 5, 2) := by decide +kernel
theorem dX11_rank_19 : decode cX11_rank 19 = .ok (.iload_n 1, 1) := by decide +kernel
theorem dX11_rank_20 : decode cX11_rank 20 = .ok (.if_icmp .ge 35, 3) := by decide +kernel
theorem dX11_rank_23 : decode cX11_rank 23 = .ok (.iload 4, 2) := by decide +kernel
theorem dX11_rank_25 : decode cX11_rank 25 = .ok (.aload_n 0, 1) := by decide +kernel
theorem dX11_rank_26 : decode cX11_rank 26 = .ok (.getfield 112, 3) := by decide +kernel
theorem dX11_rank_29 : decode cX11_rank 29 = .ok (.iload 5, 2) := by decide +kernel
theorem dX11_rank_31 : decode cX11_rank 31 = .ok (.iaload, 1) := by decide +kernel
theorem dX11_rank_32 : decode cX11_rank 32 = .ok (.aload_n 0, 1) := by decide +kernel
theorem dX11_rank_33 : decode cX11_rank 33 = .ok (.getfield 112, 3) := by decide +kernel
theorem dX11_rank_36 : decode cX11_rank 36 = .ok (.iload_n 3, 1) := by decide +kernel
theorem dX11_rank_37 : decode cX11_rank 37 = .ok (.iaload, 1) := by decide +kernel
theorem dX11_rank_38 : decode cX11_rank 38 = .ok (.if_icmp .ge 7, 3) := by decide +kernel
theorem dX11_rank_41 : decode cX11_rank 41 = .ok (.iconst 1, 1) := by decide +kernel
theorem dX11_rank_42 : decode cX11_rank 42 = .ok (.goto 4, 3) := by decide +kernel
theorem dX11_rank_45 : decode cX11_rank 45 = .ok (.iconst 0, 1) := by decide +kernel
theorem dX11_rank_46 : decode cX11_rank 46 = .ok (.iadd, 1) := by decide +kernel
theorem dX11_rank_47 : decode cX11_rank 47 = .ok (.istore 4, 2) := by decide +kernel
theorem dX11_rank_49 : decode cX11_rank 49 = .ok (.iinc 5 1, 3) := by decide +kernel
theorem dX11_rank_52 : decode cX11_rank 52 = .ok (.goto (-35), 3) := by decide +kernel
theorem dX11_rank_55 : decode cX11_rank 55 = .ok (.iload_n 2, 1) := by decide +kernel
theorem dX11_rank_56 : decode cX11_rank 56 = .ok (.iload_n 1, 1) := by decide +kernel
theorem dX11_rank_57 : decode cX11_rank 57 = .ok (.iload_n 3, 1) := by decide +kernel
theorem dX11_rank_58 : decode cX11_rank 58 = .ok (.isub, 1) := by decide +kernel
theorem dX11_rank_59 : decode cX11_rank 59 = .ok (.imul, 1) := by decide +kernel
theorem dX11_rank_60 : decode cX11_rank 60 = .ok (.iload 4, 2) := by decide +kernel
theorem dX11_rank_62 : decode cX11_rank 62 = .ok (.iadd, 1) := by decide +kernel
theorem dX11_rank_63 : decode cX11_rank 63 = .ok (.istore_n 2, 1) := by decide +kernel
theorem dX11_rank_64 : decode cX11_rank 64 = .ok (.iinc 3 1, 3) := by decide +kernel
theorem dX11_rank_67 : decode cX11_rank 67 = .ok (.goto (-63), 3) := by decide +kernel
theorem dX11_rank_70 : decode cX11_rank 70 = .ok (.iload_n 2, 1) := by decide +kernel
theorem dX11_rank_71 : decode cX11_rank 71 = .ok (.ireturn, 1) := by decide +kernel
theorem dX11_unrank_0 : decode cX11_unrank 0 = .ok (.iload_n 2, 1) := by decide +kernel
theorem dX11_unrank_1 : decode cX11_unrank 1 = .ok (.istore_n 3, 1) := by decide +kernel
theorem dX11_unrank_2 : decode cX11_unrank 2 = .ok (.iload_n 1, 1) := by decide +kernel
theorem dX11_unrank_3 : decode cX11_unrank 3 = .ok (.iconst 1, 1) := by decide +kernel
theorem dX11_unrank_4 : decode cX11_unrank 4 = .ok (.isub, 1) := by decide +kernel
theorem dX11_unrank_5 : decode cX11_unrank 5 = .ok (.istore 4, 2) := by decide +kernel
theorem dX11_unrank_7 : decode cX11_unrank 7 = .ok (.iload 4, 2) := by decide +kernel
theorem dX11_unrank_9 : decode cX11_unrank 9 = .ok (.ifCond .lt 31, 3) := by decide +kernel
theorem dX11_unrank_12 : decode cX11_unrank 12 = .ok (.iload_n 1, 1) := by decide +kernel
theorem dX11_unrank_13 : decode cX11_unrank 13 = .ok (.iload 4, 2) := by decide +kernel
theorem dX11_unrank_15 : decode cX11_unrank 15 = .ok (.isub, 1) := by decide +kernel
theorem dX11_unrank_16 : decode cX11_unrank 16 = .ok (.istore 5, 2) := by decide +kernel
theorem dX11_unrank_18 : decode cX11_unrank 18 = .ok (.aload_n 0, 1) := by decide +kernel
theorem dX11_unrank_19 : decode cX11_unrank 19 = .ok (.getfield 112, 3) := by decide +kernel
theorem dX11_unrank_22 : decode cX11_unrank 22 = .ok (.iload 4, 2) := by decide +kernel
theorem dX11_unrank_24 : decode cX11_unrank 24 = .ok (.iload_n 3, 1) := by decide +kernel
theorem dX11_unrank_25 : decode cX11_unrank 25 = .ok (.iload 5, 2) := by decide +kernel
theorem dX11_unrank_27 : decode cX11_unrank 27 = .ok (.irem, 1) := by decide +kernel
theorem dX11_unrank_28 : decode cX11_unrank 28 = .ok (.iastore, 1) := by decide +kernel
theorem dX11_unrank_29 : decode cX11_unrank 29 = .ok (.iload_n 3, 1) := by decide +kernel
theorem dX11_unrank_30 : decode cX11_unrank 30 = .ok (.iload 5, 2) := by decide +kernel
theorem dX11_unrank_32 : decode cX11_unrank 32 = .ok (.idiv, 1) := by decide +kernel
theorem dX11_unrank_33 : decode cX11_unrank 33 = .ok (.istore_n 3, 1) := by decide +kernel
theorem dX11_unrank_34 : decode cX11_unrank 34 = .ok (.iinc 4 (-1), 3) := by decide +kernel
theorem dX11_unrank_37 : decode cX11_unrank 37 = .ok (.goto (-30), 3) := by decide +kernel
theorem dX11_unrank_40 : decode cX11_unrank 40 = .ok (.iload_n 1, 1) := by decide +kernel
theorem dX11_unrank_41 : decode cX11_unrank 41 = .ok (.iconst 2, 1) := by decide +kernel
theorem dX11_unrank_42 : decode cX11_unrank 42 = .ok (.isub, 1) := by decide +kernel
theorem dX11_unrank_43 : decode cX11_unrank 43 = .ok (.istore 4, 2) := by decide +kernel
theorem dX11_unrank_45 : decode cX11_unrank 45 = .ok (.iload 4, 2) := by decide +kernel
theorem dX11_unrank_47 : decode cX11_unrank 47 = .ok (.ifCond .lt 59, 3) := by decide +kernel
theorem dX11_unrank_50 : decode cX11_unrank 50 = .ok (.iload 4, 2) := by decide +kernel
theorem dX11_unrank_52 : decode cX11_unrank 52 = .ok (.iconst 1, 1) := by decide +kernel
theorem dX11_unrank_53 : decode cX11_unrank 53 = .ok (.iadd, 1) := by decide +kernel
theorem dX11_unrank_54 : decode cX11_unrank 54 = .ok (.istore 5, 2) := by decide +kernel
theorem dX11_unrank_56 : decode cX11_unrank 56 = .ok (.iload 5, 2) := by decide +kernel
theorem dX11_unrank_58 : decode cX11_unrank 58 = .ok (.iload_n 1, 1) := by decide +kernel
theorem dX11_unrank_59 : decode cX11_unrank 59 = .ok (.if_icmp .ge 41, 3) := by decide +kernel
theorem dX11_unrank_62 : decode cX11_unrank 62 = .ok (.aload_n 0, 1) := by decide +kernel
theorem dX11_unrank_63 : decode cX11_unrank 63 = .ok (.getfield 112, 3) := by decide +kernel
theorem dX11_unrank_66 : decode cX11_unrank 66 = .ok (.iload 5, 2) := by decide +kernel
theorem dX11_unrank_68 : decode cX11_unrank 68 = .ok (.dup2, 1) := by decide +kernel
theorem dX11_unrank_69 : decode cX11_unrank 69 = .ok (.iaload, 1) := by decide +kernel
theorem dX11_unrank_70 : decode cX11_unrank 70 = .ok (.aload_n 0, 1) := by decide +kernel
theorem dX11_unrank_71 : decode cX11_unrank 71 = .ok (.getfield 112, 3) := by decide +kernel
theorem dX11_unrank_74 : decode cX11_unrank 74 = .ok (.iload 5, 2) := by decide +kernel
theorem dX11_unrank_76 : decode cX11_unrank 76 = .ok (.iaload, 1) := by decide +kernel
theorem dX11_unrank_77 : decode cX11_unrank 77 = .ok (.aload_n 0, 1) := by decide +kernel
theorem dX11_unrank_78 : decode cX11_unrank 78 = .ok (.getfield 112, 3) := by decide +kernel
theorem dX11_unrank_81 : decode cX11_unrank 81 = .ok (.iload 4, 2) := by decide +kernel
theorem dX11_unrank_83 : decode cX11_unrank 83 = .ok (.iaload, 1) := by decide +kernel
theorem dX11_unrank_84 : decode cX11_unrank 84 = .ok (.if_icmp .lt 7, 3) := by decide +kernel
theorem dX11_unrank_87 : decode cX11_unrank 87 = .ok (.iconst 1, 1) := by decide +kernel
theorem dX11_unrank_88 : decode cX11_unrank 88 = .ok (.goto 4, 3) := by decide +kernel
theorem dX11_unrank_91 : decode cX11_unrank 91 = .ok (.iconst 0, 1) := by decide +kernel
theorem dX11_unrank_92 : decode cX11_unrank 92 = .ok (.iadd, 1) := by decide +kernel
theorem dX11_unrank_93 : decode cX11_unrank 93 = .ok (.iastore, 1) := by decide +kernel
theorem dX11_unrank_94 : decode cX11_unrank 94 = .ok (.iinc 5 1, 3) := by decide +kernel
theorem dX11_unrank_97 : decode cX11_unrank 97 = .ok (.goto (-41), 3) := by decide +kernel
theorem dX11_unrank_100 : decode cX11_unrank 100 = .ok (.iinc 4 (-1), 3) := by decide +kernel
theorem dX11_unrank_103 : decode cX11_unrank 103 = .ok (.goto (-58), 3) := by decide +kernel
theorem dX11_unrank_106 : decode cX11_unrank 106 = .ok (.return_, 1) := by decide +kernel
theorem dX11_turnRow_0 : decode cX11_turnRow 0 = .ok (.iconst 0, 1) := by decide +kernel
theorem dX11_turnRow_1 : decode cX11_turnRow 1 = .ok (.istore_n 2, 1) := by decide +kernel
theorem dX11_turnRow_2 : decode cX11_turnRow 2 = .ok (.iload_n 2, 1) := by decide +kernel
theorem dX11_turnRow_3 : decode cX11_turnRow 3 = .ok (.bipush 8, 2) := by decide +kernel
theorem dX11_turnRow_5 : decode cX11_turnRow 5 = .ok (.if_icmp .ge 21, 3) := by decide +kernel
theorem dX11_turnRow_8 : decode cX11_turnRow 8 = .ok (.aload_n 0, 1) := by decide +kernel
theorem dX11_turnRow_9 : decode cX11_turnRow 9 = .ok (.getfield 115, 3) := by decide +kernel
theorem dX11_turnRow_12 : decode cX11_turnRow 12 = .ok (.iload_n 2, 1) := by decide +kernel
theorem dX11_turnRow_13 : decode cX11_turnRow 13 = .ok (.aload_n 0, 1) := by decide +kernel
theorem dX11_turnRow_14 : decode cX11_turnRow 14 = .ok (.getfield 112, 3) := by decide +kernel
theorem dX11_turnRow_17 : decode cX11_turnRow 17 = .ok (.iload_n 2, 1) := by decide +kernel
theorem dX11_turnRow_18 : decode cX11_turnRow 18 = .ok (.iaload, 1) := by decide +kernel
theorem dX11_turnRow_19 : decode cX11_turnRow 19 = .ok (.iastore, 1) := by decide +kernel
theorem dX11_turnRow_20 : decode cX11_turnRow 20 = .ok (.iinc 2 1, 3) := by decide +kernel
theorem dX11_turnRow_23 : decode cX11_turnRow 23 = .ok (.goto (-21), 3) := by decide +kernel
theorem dX11_turnRow_26 : decode cX11_turnRow 26 = .ok (.iconst 0, 1) := by decide +kernel
theorem dX11_turnRow_27 : decode cX11_turnRow 27 = .ok (.istore_n 2, 1) := by decide +kernel
theorem dX11_turnRow_28 : decode cX11_turnRow 28 = .ok (.iload_n 2, 1) := by decide +kernel
theorem dX11_turnRow_29 : decode cX11_turnRow 29 = .ok (.bipush 8, 2) := by decide +kernel
theorem dX11_turnRow_31 : decode cX11_turnRow 31 = .ok (.if_icmp .ge 31, 3) := by decide +kernel
theorem dX11_turnRow_34 : decode cX11_turnRow 34 = .ok (.aload_n 0, 1) := by decide +kernel
theorem dX11_turnRow_35 : decode cX11_turnRow 35 = .ok (.getfield 112, 3) := by decide +kernel
theorem dX11_turnRow_38 : decode cX11_turnRow 38 = .ok (.iload_n 2, 1) := by decide +kernel
theorem dX11_turnRow_39 : decode cX11_turnRow 39 = .ok (.aload_n 0, 1) := by decide +kernel
theorem dX11_turnRow_40 : decode cX11_turnRow 40 = .ok (.getfield 115, 3) := by decide +kernel
theorem dX11_turnRow_43 : decode cX11_turnRow 43 = .ok (.aload_n 0, 1) := by decide +kernel
theorem dX11_turnRow_44 : decode cX11_turnRow 44 = .ok (.getfield 40, 3) := by decide +kernel
theorem dX11_turnRow_47 : decode cX11_turnRow 47 = .ok (.bipush 8, 2) := by decide +kernel
theorem dX11_turnRow_49 : decode cX11_turnRow 49 = .ok (.iload_n 1, 1) := by decide +kernel
theorem dX11_turnRow_50 : decode cX11_turnRow 50 = .ok (.imul, 1) := by decide +kernel
theorem dX11_turnRow_51 : decode cX11_turnRow 51 = .ok (.iload_n 2, 1) := by decide +kernel
theorem dX11_turnRow_52 : decode cX11_turnRow 52 = .ok (.iadd, 1) := by decide +kernel
theorem dX11_turnRow_53 : decode cX11_turnRow 53 = .ok (.iaload, 1) := by decide +kernel
theorem dX11_turnRow_54 : decode cX11_turnRow 54 = .ok (.iaload, 1) := by decide +kernel
theorem dX11_turnRow_55 : decode cX11_turnRow 55 = .ok (.iastore, 1) := by decide +kernel
theorem dX11_turnRow_56 : decode cX11_turnRow 56 = .ok (.iinc 2 1, 3) := by decide +kernel
theorem dX11_turnRow_59 : decode cX11_turnRow 59 = .ok (.goto (-31), 3) := by decide +kernel
theorem dX11_turnRow_62 : decode cX11_turnRow 62 = .ok (.return_, 1) := by decide +kernel
theorem dX11_maskBy_0 : decode cX11_maskBy 0 = .ok (.iconst 0, 1) := by decide +kernel
theorem dX11_maskBy_1 : decode cX11_maskBy 1 = .ok (.istore 4, 2) := by decide +kernel
theorem dX11_maskBy_3 : decode cX11_maskBy 3 = .ok (.iconst 0, 1) := by decide +kernel
theorem dX11_maskBy_4 : decode cX11_maskBy 4 = .ok (.istore 5, 2) := by decide +kernel
theorem dX11_maskBy_6 : decode cX11_maskBy 6 = .ok (.iload 5, 2) := by decide +kernel
theorem dX11_maskBy_8 : decode cX11_maskBy 8 = .ok (.iload_n 3, 1) := by decide +kernel
theorem dX11_maskBy_9 : decode cX11_maskBy 9 = .ok (.if_icmp .ge 33, 3) := by decide +kernel
theorem dX11_maskBy_12 : decode cX11_maskBy 12 = .ok (.iload 4, 2) := by decide +kernel
theorem dX11_maskBy_14 : decode cX11_maskBy 14 = .ok (.iload_n 1, 1) := by decide +kernel
theorem dX11_maskBy_15 : decode cX11_maskBy 15 = .ok (.aload_n 0, 1) := by decide +kernel
theorem dX11_maskBy_16 : decode cX11_maskBy 16 = .ok (.getfield 46, 3) := by decide +kernel
theorem dX11_maskBy_19 : decode cX11_maskBy 19 = .ok (.bipush 12, 2) := by decide +kernel
theorem dX11_maskBy_21 : decode cX11_maskBy 21 = .ok (.iload_n 2, 1) := by decide +kernel
theorem dX11_maskBy_22 : decode cX11_maskBy 22 = .ok (.imul, 1) := by decide +kernel
theorem dX11_maskBy_23 : decode cX11_maskBy 23 = .ok (.iload 5, 2) := by decide +kernel
theorem dX11_maskBy_25 : decode cX11_maskBy 25 = .ok (.iadd, 1) := by decide +kernel
theorem dX11_maskBy_26 : decode cX11_maskBy 26 = .ok (.iaload, 1) := by decide +kernel
theorem dX11_maskBy_27 : decode cX11_maskBy 27 = .ok (.ishr, 1) := by decide +kernel
theorem dX11_maskBy_28 : decode cX11_maskBy 28 = .ok (.iconst 1, 1) := by decide +kernel
theorem dX11_maskBy_29 : decode cX11_maskBy 29 = .ok (.iand, 1) := by decide +kernel
theorem dX11_maskBy_30 : decode cX11_maskBy 30 = .ok (.iload 5, 2) := by decide +kernel
theorem dX11_maskBy_32 : decode cX11_maskBy 32 = .ok (.ishl, 1) := by decide +kernel
theorem dX11_maskBy_33 : decode cX11_maskBy 33 = .ok (.ior, 1) := by decide +kernel
theorem dX11_maskBy_34 : decode cX11_maskBy 34 = .ok (.istore 4, 2) := by decide +kernel
theorem dX11_maskBy_36 : decode cX11_maskBy 36 = .ok (.iinc 5 1, 3) := by decide +kernel
theorem dX11_maskBy_39 : decode cX11_maskBy 39 = .ok (.goto (-33), 3) := by decide +kernel
theorem dX11_maskBy_42 : decode cX11_maskBy 42 = .ok (.iload 4, 2) := by decide +kernel
theorem dX11_maskBy_44 : decode cX11_maskBy 44 = .ok (.ireturn, 1) := by decide +kernel
theorem dX11_ones_0 : decode cX11_ones 0 = .ok (.iconst 0, 1) := by decide +kernel
theorem dX11_ones_1 : decode cX11_ones 1 = .ok (.istore_n 1, 1) := by decide +kernel
theorem dX11_ones_2 : decode cX11_ones 2 = .ok (.iload_n 0, 1) := by decide +kernel
theorem dX11_ones_3 : decode cX11_ones 3 = .ok (.istore_n 2, 1) := by decide +kernel
theorem dX11_ones_4 : decode cX11_ones 4 = .ok (.iload_n 2, 1) := by decide +kernel
theorem dX11_ones_5 : decode cX11_ones 5 = .ok (.ifCond .le 16, 3) := by decide +kernel
theorem dX11_ones_8 : decode cX11_ones 8 = .ok (.iload_n 1, 1) := by decide +kernel
theorem dX11_ones_9 : decode cX11_ones 9 = .ok (.iload_n 2, 1) := by decide +kernel
theorem dX11_ones_10 : decode cX11_ones 10 = .ok (.iconst 1, 1) := by decide +kernel
theorem dX11_ones_11 : decode cX11_ones 11 = .ok (.iand, 1) := by decide +kernel
theorem dX11_ones_12 : decode cX11_ones 12 = .ok (.iadd, 1) := by decide +kernel
theorem dX11_ones_13 : decode cX11_ones 13 = .ok (.istore_n 1, 1) := by decide +kernel
theorem dX11_ones_14 : decode cX11_ones 14 = .ok (.iload_n 2, 1) := by decide +kernel
theorem dX11_ones_15 : decode cX11_ones 15 = .ok (.iconst 1, 1) := by decide +kernel
theorem dX11_ones_16 : decode cX11_ones 16 = .ok (.ishr, 1) := by decide +kernel
theorem dX11_ones_17 : decode cX11_ones 17 = .ok (.istore_n 2, 1) := by decide +kernel
theorem dX11_ones_18 : decode cX11_ones 18 = .ok (.goto (-14), 3) := by decide +kernel
theorem dX11_ones_21 : decode cX11_ones 21 = .ok (.iload_n 1, 1) := by decide +kernel
theorem dX11_ones_22 : decode cX11_ones 22 = .ok (.ireturn, 1) := by decide +kernel
set_option maxRecDepth 20000 in
theorem ggX11_make_X11_makeFirst : GoodIn wsX11_make wsX11_makeFirst := goodIn_r _ [6, 7, 8, 9, 87, 88, 89, 90, 91, 92, 93, 94, 95, 96, 97, 98, 99, 100, 101, 102, 103, 104, 105, 106, 107, 108, 109, 110, 111, 112, 113, 114, 115, 116, 117, 118, 119, 120, 121, 122, 123, 124] (by decide +kernel) (by decide +kernel)
set_option maxRecDepth 20000 in
theorem gX11_make_X11_makeFirst : GoodIn wsX11_make (wsV RX11 144 RX11 yX11_makeFirst wsX11_makeFirst) := goodIn_app (goodIn_of _ (by decide +kernel)) ggX11_make_X11_makeFirst
set_option maxRecDepth 20000 in
theorem ggX11_make_X11_makeNumbers : GoodIn wsX11_make wsX11_makeNumbers := goodIn_r _ [13, 14, 15, 16, 17, 18, 19, 5, 20, 87, 88, 89, 90, 91, 92, 93, 94, 95, 96, 97, 98, 99, 100, 101, 102, 103, 104, 105, 106, 107, 108, 109, 110, 111, 112, 113, 114, 115, 116, 117, 118, 119, 120, 121, 122, 123, 124] (by decide +kernel) (by decide +kernel)
set_option maxRecDepth 20000 in
theorem gX11_make_X11_makeNumbers : GoodIn wsX11_make (wsV RX11 147 RX11 yX11_makeNumbers wsX11_makeNumbers) := goodIn_app (goodIn_of _ (by decide +kernel)) ggX11_make_X11_makeNumbers
set_option maxRecDepth 20000 in
theorem ggX11_make_X11_makeSecond : GoodIn wsX11_make wsX11_makeSecond := goodIn_r _ [24, 25, 26, 27, 28, 29, 14, 15, 30, 31, 32, 33, 34, 5, 35, 8, 36, 37, 38, 39, 40, 41, 42, 87, 88, 89, 90, 91, 92, 93, 94, 95, 96, 97, 98, 99, 100, 101, 102, 103, 104, 105, 106, 107, 108, 109, 110, 111, 112, 113, 114, 115, 116, 117, 118, 119, 120, 121, 122, 123, 124] (by decide +kernel) (by decide +kernel)
set_option maxRecDepth 20000 in
theorem gX11_make_X11_makeSecond : GoodIn wsX11_make (wsV RX11 150 RX11 yX11_makeSecond wsX11_makeSecond) := goodIn_app (goodIn_of _ (by decide +kernel)) ggX11_make_X11_makeSecond
set_option maxRecDepth 20000 in
theorem ggX11_make_X11_makeKinds : GoodIn wsX11_make wsX11_makeKinds := goodIn_r _ [46, 47, 48, 49, 50, 51, 52, 53, 54, 5, 55, 25, 56, 57, 58, 59, 60, 26, 61, 62, 63, 64, 65, 66, 67, 68, 69, 87, 88, 89, 90, 91, 92, 93, 94, 95, 96, 97, 98, 99, 100, 101, 102, 103, 104, 105, 106, 107, 108, 109, 110, 111, 112, 113, 114, 115, 116, 117, 118, 119, 120, 121, 122, 123, 124] (by decide +kernel) (by decide +kernel)
set_option maxRecDepth 20000 in
theorem gX11_make_X11_makeKinds : GoodIn wsX11_make (wsV RX11 153 RX11 yX11_makeKinds wsX11_makeKinds) := goodIn_app (goodIn_of _ (by decide +kernel)) ggX11_make_X11_makeKinds
set_option maxRecDepth 20000 in
theorem ggX11_make_X11_makeThird : GoodIn wsX11_make wsX11_makeThird := goodIn_r _ [73, 51, 74, 49, 75, 16, 17, 52, 53, 54, 5, 55, 25, 56, 57, 58, 59, 60, 26, 61, 62, 63, 64, 40, 41, 42, 32, 33, 34, 35, 8, 87, 88, 89, 90, 91, 92, 93, 94, 95, 96, 97, 98, 99, 100, 101, 102, 103, 104, 105, 106, 107, 108, 109, 110, 111, 112, 113, 114, 115, 116, 117, 118, 119, 120, 121, 122, 123, 124] (by decide +kernel) (by decide +kernel)
set_option maxRecDepth 20000 in
theorem gX11_make_X11_makeThird : GoodIn wsX11_make (wsV RX11 156 RX11 yX11_makeThird wsX11_makeThird) := goodIn_app (goodIn_of _ (by decide +kernel)) ggX11_make_X11_makeThird
set_option maxRecDepth 20000 in
theorem ggX11_make_X11_makeFourth : GoodIn wsX11_make wsX11_makeFourth := goodIn_r _ [79, 60, 25, 8, 80, 50, 48, 81, 82, 52, 53, 54, 5, 55, 61, 62, 63, 64, 56, 57, 58, 59, 26, 83, 84, 85, 86, 87, 88, 89, 90, 91, 92, 93, 94, 95, 96, 97, 98, 99, 100, 101, 102, 103, 104, 105, 106, 107, 108, 109, 110, 111, 112, 113, 114, 115, 116, 117, 118, 119, 120, 121, 122, 123, 124] (by decide +kernel) (by decide +kernel)
set_option maxRecDepth 20000 in
theorem gX11_make_X11_makeFourth : GoodIn wsX11_make (wsV RX11 159 RX11 yX11_makeFourth wsX11_makeFourth) := goodIn_app (goodIn_of _ (by decide +kernel)) ggX11_make_X11_makeFourth
theorem dX11_make_0 : decode cX11_make 0 = .ok (.aload_n 0, 1) := by decide +kernel
theorem dX11_make_1 : decode cX11_make 1 = .ok (.getfield 140, 3) := by decide +kernel
theorem dX11_make_4 : decode cX11_make 4 = .ok (.ifCond .eq 4, 3) := by decide +kernel
theorem dX11_make_7 : decode cX11_make 7 = .ok (.return_, 1) := by decide +kernel
theorem dX11_make_8 : decode cX11_make 8 = .ok (.aload_n 0, 1) := by decide +kernel
theorem dX11_make_9 : decode cX11_make 9 = .ok (.iconst 1, 1) := by decide +kernel
theorem dX11_make_10 : decode cX11_make 10 = .ok (.putfield 140, 3) := by decide +kernel
theorem dX11_make_13 : decode cX11_make 13 = .ok (.aload_n 0, 1) := by decide +kernel
theorem dX11_make_14 : decode cX11_make 14 = .ok (.invokevirtual 144, 3) := by decide +kernel
theorem dX11_make_17 : decode cX11_make 17 = .ok (.aload_n 0, 1) := by decide +kernel
theorem dX11_make_18 : decode cX11_make 18 = .ok (.invokevirtual 147, 3) := by decide +kernel
theorem dX11_make_21 : decode cX11_make 21 = .ok (.aload_n 0, 1) := by decide +kernel
theorem dX11_make_22 : decode cX11_make 22 = .ok (.invokevirtual 150, 3) := by decide +kernel
theorem dX11_make_25 : decode cX11_make 25 = .ok (.aload_n 0, 1) := by decide +kernel
theorem dX11_make_26 : decode cX11_make 26 = .ok (.invokevirtual 153, 3) := by decide +kernel
theorem dX11_make_29 : decode cX11_make 29 = .ok (.aload_n 0, 1) := by decide +kernel
theorem dX11_make_30 : decode cX11_make 30 = .ok (.invokevirtual 156, 3) := by decide +kernel
theorem dX11_make_33 : decode cX11_make 33 = .ok (.aload_n 0, 1) := by decide +kernel
theorem dX11_make_34 : decode cX11_make 34 = .ok (.invokevirtual 159, 3) := by decide +kernel
theorem dX11_make_37 : decode cX11_make 37 = .ok (.return_, 1) := by decide +kernel
theorem dX11_makeFirst_0 : decode cX11_makeFirst 0 = .ok (.iconst 0, 1) := by decide +kernel
theorem dX11_makeFirst_1 : decode cX11_makeFirst 1 = .ok (.istore_n 1, 1) := by decide +kernel
theorem dX11_makeFirst_2 : decode cX11_makeFirst 2 = .ok (.iload_n 1, 1) := by decide +kernel
theorem dX11_makeFirst_3 : decode cX11_makeFirst 3 = .ok (.sipush 4096, 3) := by decide +kernel
theorem dX11_makeFirst_6 : decode cX11_makeFirst 6 = .ok (.if_icmp .ge 17, 3) := by decide +kernel
theorem dX11_makeFirst_9 : decode cX11_makeFirst 9 = .ok (.aload_n 0, 1) := by decide +kernel
theorem dX11_makeFirst_10 : decode cX11_makeFirst 10 = .ok (.getfield 58, 3) := by decide +kernel
theorem dX11_makeFirst_13 : decode cX11_makeFirst 13 = .ok (.iload_n 1, 1) := by decide +kernel
theorem dX11_makeFirst_14 : decode cX11_makeFirst 14 = .ok (.bipush 100, 2) := by decide +kernel
theorem dX11_makeFirst_16 : decode cX11_makeFirst 16 = .ok (.bastore, 1) := by decide +kernel
theorem dX11_makeFirst_17 : decode cX11_makeFirst 17 = .ok (.iinc 1 1, 3) := by decide +kernel
theorem dX11_makeFirst_20 : decode cX11_makeFirst 20 = .ok (.goto (-18), 3) := by decide +kernel
theorem dX11_makeFirst_23 : decode cX11_makeFirst 23 = .ok (.aload_n 0, 1) := by decide +kernel
theorem dX11_makeFirst_24 : decode cX11_makeFirst 24 = .ok (.getfield 58, 3) := by decide +kernel
theorem dX11_makeFirst_27 : decode cX11_makeFirst 27 = .ok (.iconst 0, 1) := by decide +kernel
theorem dX11_makeFirst_28 : decode cX11_makeFirst 28 = .ok (.iconst 0, 1) := by decide +kernel
theorem dX11_makeFirst_29 : decode cX11_makeFirst 29 = .ok (.bastore, 1) := by decide +kernel
theorem dX11_makeFirst_30 : decode cX11_makeFirst 30 = .ok (.iconst 1, 1) := by decide +kernel
theorem dX11_makeFirst_31 : decode cX11_makeFirst 31 = .ok (.istore_n 1, 1) := by decide +kernel
theorem dX11_makeFirst_32 : decode cX11_makeFirst 32 = .ok (.iconst 0, 1) := by decide +kernel
theorem dX11_makeFirst_33 : decode cX11_makeFirst 33 = .ok (.istore_n 2, 1) := by decide +kernel
theorem dX11_makeFirst_34 : decode cX11_makeFirst 34 = .ok (.iload_n 1, 1) := by decide +kernel
theorem dX11_makeFirst_35 : decode cX11_makeFirst 35 = .ok (.ifCond .eq 135, 3) := by decide +kernel
theorem dX11_makeFirst_38 : decode cX11_makeFirst 38 = .ok (.iconst 0, 1) := by decide +kernel
theorem dX11_makeFirst_39 : decode cX11_makeFirst 39 = .ok (.istore_n 1, 1) := by decide +kernel
theorem dX11_makeFirst_40 : decode cX11_makeFirst 40 = .ok (.iconst 0, 1) := by decide +kernel
theorem dX11_makeFirst_41 : decode cX11_makeFirst 41 = .ok (.istore_n 3, 1) := by decide +kernel
theorem dX11_makeFirst_42 : decode cX11_makeFirst 42 = .ok (.iload_n 3, 1) := by decide +kernel
theorem dX11_makeFirst_43 : decode cX11_makeFirst 43 = .ok (.sipush 4096, 3) := by decide +kernel
theorem dX11_makeFirst_46 : decode cX11_makeFirst 46 = .ok (.if_icmp .ge 118, 3) := by decide +kernel
theorem dX11_makeFirst_49 : decode cX11_makeFirst 49 = .ok (.iconst 0, 1) := by decide +kernel
theorem dX11_makeFirst_50 : decode cX11_makeFirst 50 = .ok (.istore 4, 2) := by decide +kernel
theorem dX11_makeFirst_52 : decode cX11_makeFirst 52 = .ok (.iload 4, 2) := by decide +kernel
theorem dX11_makeFirst_54 : decode cX11_makeFirst 54 = .ok (.bipush 18, 2) := by decide +kernel
theorem dX11_makeFirst_56 : decode cX11_makeFirst 56 = .ok (.if_icmp .ge 102, 3) := by decide +kernel
theorem dX11_makeFirst_59 : decode cX11_makeFirst 59 = .ok (.aload_n 0, 1) := by decide +kernel
theorem dX11_makeFirst_60 : decode cX11_makeFirst 60 = .ok (.getfield 58, 3) := by decide +kernel
theorem dX11_makeFirst_63 : decode cX11_makeFirst 63 = .ok (.iload_n 3, 1) := by decide +kernel
theorem dX11_makeFirst_64 : decode cX11_makeFirst 64 = .ok (.baload, 1) := by decide +kernel
theorem dX11_makeFirst_65 : decode cX11_makeFirst 65 = .ok (.iload_n 2, 1) := by decide +kernel
theorem dX11_makeFirst_66 : decode cX11_makeFirst 66 = .ok (.if_icmp .ne 92, 3) := by decide +kernel
theorem dX11_makeFirst_69 : decode cX11_makeFirst 69 = .ok (.iconst 0, 1) := by decide +kernel
theorem dX11_makeFirst_70 : decode cX11_makeFirst 70 = .ok (.istore 5, 2) := by decide +kernel
theorem dX11_makeFirst_72 : decode cX11_makeFirst 72 = .ok (.iconst 0, 1) := by decide +kernel
theorem dX11_makeFirst_73 : decode cX11_makeFirst 73 = .ok (.istore 6, 2) := by decide +kernel
theorem dX11_makeFirst_75 : decode cX11_makeFirst 75 = .ok (.iload 6, 2) := by decide +kernel
theorem dX11_makeFirst_77 : decode cX11_makeFirst 77 = .ok (.bipush 12, 2) := by decide +kernel
theorem dX11_makeFirst_79 : decode cX11_makeFirst 79 = .ok (.if_icmp .ge 48, 3) := by decide +kernel
theorem dX11_makeFirst_82 : decode cX11_makeFirst 82 = .ok (.iload 5, 2) := by decide +kernel
theorem dX11_makeFirst_84 : decode cX11_makeFirst 84 = .ok (.iload_n 3, 1) := by decide +kernel
theorem dX11_makeFirst_85 : decode cX11_makeFirst 85 = .ok (.aload_n 0, 1) := by decide +kernel
theorem dX11_makeFirst_86 : decode cX11_makeFirst 86 = .ok (.getfield 46, 3) := by decide +kernel
theorem dX11_makeFirst_89 : decode cX11_makeFirst 89 = .ok (.bipush 12, 2) := by decide +kernel
theorem dX11_makeFirst_91 : decode cX11_makeFirst 91 = .ok (.iload 4, 2) := by decide +kernel
theorem dX11_makeFirst_93 : decode cX11_makeFirst 93 = .ok (.imul, 1) := by decide +kernel
theorem dX11_makeFirst_94 : decode cX11_makeFirst 94 = .ok (.iload 6, 2) := by decide +kernel
theorem dX11_makeFirst_96 : decode cX11_makeFirst 96 = .ok (.iadd, 1) := by decide +kernel
theorem dX11_makeFirst_97 : decode cX11_makeFirst 97 = .ok (.iaload, 1) := by decide +kernel
theorem dX11_makeFirst_98 : decode cX11_makeFirst 98 = .ok (.ishr, 1) := by decide +kernel
theorem dX11_makeFirst_99 : decode cX11_makeFirst 99 = .ok (.iconst 1, 1) := by decide +kernel
theorem dX11_makeFirst_100 : decode cX11_makeFirst 100 = .ok (.iand, 1) := by decide +kernel
theorem dX11_makeFirst_101 : decode cX11_makeFirst 101 = .ok (.aload_n 0, 1) := by decide +kernel
theorem dX11_makeFirst_102 : decode cX11_makeFirst 102 = .ok (.getfield 49, 3) := by decide +kernel
theorem dX11_makeFirst_105 : decode cX11_makeFirst 105 = .ok (.bipush 12, 2) := by decide +kernel
theorem dX11_makeFirst_107 : decode cX11_makeFirst 107 = .ok (.iload 4, 2) := by decide +kernel
theorem dX11_makeFirst_109 : decode cX11_makeFirst 109 = .ok (.imul, 1) := by decide +kernel
theorem dX11_makeFirst_110 : decode cX11_makeFirst 110 = .ok (.iload 6, 2) := by decide +kernel
theorem dX11_makeFirst_112 : decode cX11_makeFirst 112 = .ok (.iadd, 1) := by decide +kernel
theorem dX11_makeFirst_113 : decode cX11_makeFirst 113 = .ok (.iaload, 1) := by decide +kernel
theorem dX11_makeFirst_114 : decode cX11_makeFirst 114 = .ok (.ixor, 1) := by decide +kernel
theorem dX11_makeFirst_115 : decode cX11_makeFirst 115 = .ok (.iload 6, 2) := by decide +kernel
theorem dX11_makeFirst_117 : decode cX11_makeFirst 117 = .ok (.ishl, 1) := by decide +kernel
theorem dX11_makeFirst_118 : decode cX11_makeFirst 118 = .ok (.ior, 1) := by decide +kernel
theorem dX11_makeFirst_119 : decode cX11_makeFirst 119 = .ok (.istore 5, 2) := by decide +kernel
theorem dX11_makeFirst_121 : decode cX11_makeFirst 121 = .ok (.iinc 6 1, 3) := by decide +kernel
theorem dX11_makeFirst_124 : decode cX11_makeFirst 124 = .ok (.goto (-49), 3) := by decide +kernel
theorem dX11_makeFirst_127 : decode cX11_makeFirst 127 = .ok (.aload_n 0, 1) := by decide +kernel
theorem dX11_makeFirst_128 : decode cX11_makeFirst 128 = .ok (.getfield 58, 3) := by decide +kernel
theorem dX11_makeFirst_131 : decode cX11_makeFirst 131 = .ok (.iload 5, 2) := by decide +kernel
theorem dX11_makeFirst_133 : decode cX11_makeFirst 133 = .ok (.baload, 1) := by decide +kernel
theorem dX11_makeFirst_134 : decode cX11_makeFirst 134 = .ok (.bipush 100, 2) := by decide +kernel
theorem dX11_makeFirst_136 : decode cX11_makeFirst 136 = .ok (.if_icmp .ne 16, 3) := by decide +kernel
theorem dX11_makeFirst_139 : decode cX11_makeFirst 139 = .ok (.aload_n 0, 1) := by decide +kernel
theorem dX11_makeFirst_140 : decode cX11_makeFirst 140 = .ok (.getfield 58, 3) := by decide +kernel
theorem dX11_makeFirst_143 : decode cX11_makeFirst 143 = .ok (.iload 5, 2) := by decide +kernel
theorem dX11_makeFirst_145 : decode cX11_makeFirst 145 = .ok (.iload_n 2, 1) := by decide +kernel
theorem dX11_makeFirst_146 : decode cX11_makeFirst 146 = .ok (.iconst 1, 1) := by decide +kernel
theorem dX11_makeFirst_147 : decode cX11_makeFirst 147 = .ok (.iadd, 1) := by decide +kernel
theorem dX11_makeFirst_148 : decode cX11_makeFirst 148 = .ok (.i2b, 1) := by decide +kernel
theorem dX11_makeFirst_149 : decode cX11_makeFirst 149 = .ok (.bastore, 1) := by decide +kernel
theorem dX11_makeFirst_150 : decode cX11_makeFirst 150 = .ok (.iconst 1, 1) := by decide +kernel
theorem dX11_makeFirst_151 : decode cX11_makeFirst 151 = .ok (.istore_n 1, 1) := by decide +kernel
theorem dX11_makeFirst_152 : decode cX11_makeFirst 152 = .ok (.iinc 4 1, 3) := by decide +kernel
theorem dX11_makeFirst_155 : decode cX11_makeFirst 155 = .ok (.goto (-103), 3) := by decide +kernel
theorem dX11_makeFirst_158 : decode cX11_makeFirst 158 = .ok (.iinc 3 1, 3) := by decide +kernel
theorem dX11_makeFirst_161 : decode cX11_makeFirst 161 = .ok (.goto (-119), 3) := by decide +kernel
theorem dX11_makeFirst_164 : decode cX11_makeFirst 164 = .ok (.iinc 2 1, 3) := by decide +kernel
theorem dX11_makeFirst_167 : decode cX11_makeFirst 167 = .ok (.goto (-133), 3) := by decide +kernel
theorem dX11_makeFirst_170 : decode cX11_makeFirst 170 = .ok (.return_, 1) := by decide +kernel
set_option maxRecDepth 20000 in
theorem ggX11_makeNumbers_X11_ones : GoodIn wsX11_makeNumbers wsX11_ones := goodIn_r _ [8] (by decide +kernel) (by decide +kernel)
set_option maxRecDepth 20000 in
theorem gX11_makeNumbers_X11_ones : GoodIn wsX11_makeNumbers (va_wsS RX11 162 yX11_ones wsX11_ones) := goodIn_app (goodIn_of _ (by decide +kernel)) ggX11_makeNumbers_X11_ones
theorem dX11_makeNumbers_0 : decode cX11_makeNumbers 0 = .ok (.iconst 0, 1) := by decide +kernel
theorem dX11_makeNumbers_1 : decode cX11_makeNumbers 1 = .ok (.istore_n 1, 1) := by decide +kernel
theorem dX11_makeNumbers_2 : decode cX11_makeNumbers 2 = .ok (.iconst 0, 1) := by decide +kernel
theorem dX11_makeNumbers_3 : decode cX11_makeNumbers 3 = .ok (.istore_n 2, 1) := by decide +kernel
theorem dX11_makeNumbers_4 : decode cX11_makeNumbers 4 = .ok (.iload_n 2, 1) := by decide +kernel
theorem dX11_makeNumbers_5 : decode cX11_makeNumbers 5 = .ok (.sipush 4096, 3) := by decide +kernel
theorem dX11_makeNumbers_8 : decode cX11_makeNumbers 8 = .ok (.if_icmp .ge 36, 3) := by decide +kernel
theorem dX11_makeNumbers_11 : decode cX11_makeNumbers 11 = .ok (.iload_n 2, 1) := by decide +kernel
theorem dX11_makeNumbers_12 : decode cX11_makeNumbers 12 = .ok (.invokestatic 162, 3) := by decide +kernel
theorem dX11_makeNumbers_15 : decode cX11_makeNumbers 15 = .ok (.iconst 4, 1) := by decide +kernel
theorem dX11_makeNumbers_16 : decode cX11_makeNumbers 16 = .ok (.if_icmp .ne 22, 3) := by decide +kernel
theorem dX11_makeNumbers_19 : decode cX11_makeNumbers 19 = .ok (.aload_n 0, 1) := by decide +kernel
theorem dX11_makeNumbers_20 : decode cX11_makeNumbers 20 = .ok (.getfield 73, 3) := by decide +kernel
theorem dX11_makeNumbers_23 : decode cX11_makeNumbers 23 = .ok (.iload_n 2, 1) := by decide +kernel
theorem dX11_makeNumbers_24 : decode cX11_makeNumbers 24 = .ok (.iload_n 1, 1) := by decide +kernel
theorem dX11_makeNumbers_25 : decode cX11_makeNumbers 25 = .ok (.i2s, 1) := by decide +kernel
theorem dX11_makeNumbers_26 : decode cX11_makeNumbers 26 = .ok (.sastore, 1) := by decide +kernel
theorem dX11_makeNumbers_27 : decode cX11_makeNumbers 27 = .ok (.aload_n 0, 1) := by decide +kernel
theorem dX11_makeNumbers_28 : decode cX11_makeNumbers 28 = .ok (.getfield 77, 3) := by decide +kernel
theorem dX11_makeNumbers_31 : decode cX11_makeNumbers 31 = .ok (.iload_n 1, 1) := by decide +kernel
theorem dX11_makeNumbers_32 : decode cX11_makeNumbers 32 = .ok (.iload_n 2, 1) := by decide +kernel
theorem dX11_makeNumbers_33 : decode cX11_makeNumbers 33 = .ok (.i2s, 1) := by decide +kernel
theorem dX11_makeNumbers_34 : decode cX11_makeNumbers 34 = .ok (.sastore, 1) := by decide +kernel
theorem dX11_makeNumbers_35 : decode cX11_makeNumbers 35 = .ok (.iinc 1 1, 3) := by decide +kernel
theorem dX11_makeNumbers_38 : decode cX11_makeNumbers 38 = .ok (.iinc 2 1, 3) := by decide +kernel
theorem dX11_makeNumbers_41 : decode cX11_makeNumbers 41 = .ok (.goto (-37), 3) := by decide +kernel
theorem dX11_makeNumbers_44 : decode cX11_makeNumbers 44 = .ok (.iconst 0, 1) := by decide +kernel
theorem dX11_makeNumbers_45 : decode cX11_makeNumbers 45 = .ok (.istore_n 1, 1) := by decide +kernel
theorem dX11_makeNumbers_46 : decode cX11_makeNumbers 46 = .ok (.iconst 0, 1) := by decide +kernel
theorem dX11_makeNumbers_47 : decode cX11_makeNumbers 47 = .ok (.istore_n 2, 1) := by decide +kernel
theorem dX11_makeNumbers_48 : decode cX11_makeNumbers 48 = .ok (.iload_n 2, 1) := by decide +kernel
theorem dX11_makeNumbers_49 : decode cX11_makeNumbers 49 = .ok (.sipush 256, 3) := by decide +kernel
theorem dX11_makeNumbers_52 : decode cX11_makeNumbers 52 = .ok (.if_icmp .ge 36, 3) := by decide +kernel
theorem dX11_makeNumbers_55 : decode cX11_makeNumbers 55 = .ok (.iload_n 2, 1) := by decide +kernel
theorem dX11_makeNumbers_56 : decode cX11_makeNumbers 56 = .ok (.invokestatic 162, 3) := by decide +kernel
theorem dX11_makeNumbers_59 : decode cX11_makeNumbers 59 = .ok (.iconst 4, 1) := by decide +kernel
theorem dX11_makeNumbers_60 : decode cX11_makeNumbers 60 = .ok (.if_icmp .ne 22, 3) := by decide +kernel
theorem dX11_makeNumbers_63 : decode cX11_makeNumbers 63 = .ok (.aload_n 0, 1) := by decide +kernel
theorem dX11_makeNumbers_64 : decode cX11_makeNumbers 64 = .ok (.getfield 80, 3) := by decide +kernel
theorem dX11_makeNumbers_67 : decode cX11_makeNumbers 67 = .ok (.iload_n 2, 1) := by decide +kernel
theorem dX11_makeNumbers_68 : decode cX11_makeNumbers 68 = .ok (.iload_n 1, 1) := by decide +kernel
theorem dX11_makeNumbers_69 : decode cX11_makeNumbers 69 = .ok (.i2s, 1) := by decide +kernel
theorem dX11_makeNumbers_70 : decode cX11_makeNumbers 70 = .ok (.sastore, 1) := by decide +kernel
theorem dX11_makeNumbers_71 : decode cX11_makeNumbers 71 = .ok (.aload_n 0, 1) := by decide +kernel
theorem dX11_makeNumbers_72 : decode cX11_makeNumbers 72 = .ok (.getfield 83, 3) := by decide +kernel
theorem dX11_makeNumbers_75 : decode cX11_makeNumbers 75 = .ok (.iload_n 1, 1) := by decide +kernel
theorem dX11_makeNumbers_76 : decode cX11_makeNumbers 76 = .ok (.iload_n 2, 1) := by decide +kernel
theorem dX11_makeNumbers_77 : decode cX11_makeNumbers 77 = .ok (.i2s, 1) := by decide +kernel
theorem dX11_makeNumbers_78 : decode cX11_makeNumbers 78 = .ok (.sastore, 1) := by decide +kernel
theorem dX11_makeNumbers_79 : decode cX11_makeNumbers 79 = .ok (.iinc 1 1, 3) := by decide +kernel
theorem dX11_makeNumbers_82 : decode cX11_makeNumbers 82 = .ok (.iinc 2 1, 3) := by decide +kernel
theorem dX11_makeNumbers_85 : decode cX11_makeNumbers 85 = .ok (.goto (-37), 3) := by decide +kernel
theorem dX11_makeNumbers_88 : decode cX11_makeNumbers 88 = .ok (.return_, 1) := by decide +kernel
set_option maxRecDepth 20000 in
theorem ggX11_makeSecond_X11_maskBy : GoodIn wsX11_makeSecond wsX11_maskBy := goodIn_r _ [14, 15, 23, 24, 25, 26, 27, 28, 29, 30, 31, 32, 33, 34, 35, 36, 37, 38, 39, 40, 41, 42, 43, 44, 45, 46, 47, 48, 49, 50, 51, 52, 53, 54, 55, 56, 57, 58, 59, 60] (by decide +kernel) (by decide +kernel)
set_option maxRecDepth 20000 in
theorem gX11_makeSecond_X11_maskBy : GoodIn wsX11_makeSecond (wsV RX11 166 RX11 yX11_maskBy wsX11_maskBy) := goodIn_app (goodIn_of _ (by decide +kernel)) ggX11_makeSecond_X11_maskBy
set_option maxRecDepth 20000 in
theorem ggX11_makeSecond_X11_spread2 : GoodIn wsX11_makeSecond wsX11_spread2 := goodIn_r _ [19, 4, 5, 9, 20, 21, 13, 22, 23, 24, 25, 26, 27, 28, 29, 30, 31, 32, 33, 34, 35, 36, 37, 38, 39, 40, 41, 42, 43, 44, 45, 46, 47, 48, 49, 50, 51, 52, 53, 54, 55, 56, 57, 58, 59, 60] (by decide +kernel) (by decide +kernel)
set_option maxRecDepth 20000 in
theorem gX11_makeSecond_X11_spread2 : GoodIn wsX11_makeSecond (wsV RX11 170 RX11 yX11_spread2 wsX11_spread2) := goodIn_app (goodIn_of _ (by decide +kernel)) ggX11_makeSecond_X11_spread2
theorem dX11_makeSecond_0 : decode cX11_makeSecond 0 = .ok (.iconst 0, 1) := by decide +kernel
theorem dX11_makeSecond_1 : decode cX11_makeSecond 1 = .ok (.istore_n 1, 1) := by decide +kernel
theorem dX11_makeSecond_2 : decode cX11_makeSecond 2 = .ok (.iload_n 1, 1) := by decide +kernel
theorem dX11_makeSecond_3 : decode cX11_makeSecond 3 = .ok (.sipush 2187, 3) := by decide +kernel
theorem dX11_makeSecond_6 : decode cX11_makeSecond 6 = .ok (.if_icmp .ge 155, 3) := by decide +kernel
theorem dX11_makeSecond_9 : decode cX11_makeSecond 9 = .ok (.iload_n 1, 1) := by decide +kernel
theorem dX11_makeSecond_10 : decode cX11_makeSecond 10 = .ok (.istore_n 2, 1) := by decide +kernel
theorem dX11_makeSecond_11 : decode cX11_makeSecond 11 = .ok (.iconst 0, 1) := by decide +kernel
theorem dX11_makeSecond_12 : decode cX11_makeSecond 12 = .ok (.istore_n 3, 1) := by decide +kernel
theorem dX11_makeSecond_13 : decode cX11_makeSecond 13 = .ok (.iconst 0, 1) := by decide +kernel
theorem dX11_makeSecond_14 : decode cX11_makeSecond 14 = .ok (.istore 4, 2) := by decide +kernel
theorem dX11_makeSecond_16 : decode cX11_makeSecond 16 = .ok (.iload 4, 2) := by decide +kernel
theorem dX11_makeSecond_18 : decode cX11_makeSecond 18 = .ok (.bipush 7, 2) := by decide +kernel
theorem dX11_makeSecond_20 : decode cX11_makeSecond 20 = .ok (.if_icmp .ge 33, 3) := by decide +kernel
theorem dX11_makeSecond_23 : decode cX11_makeSecond 23 = .ok (.aload_n 0, 1) := by decide +kernel
theorem dX11_makeSecond_24 : decode cX11_makeSecond 24 = .ok (.getfield 112, 3) := by decide +kernel
theorem dX11_makeSecond_27 : decode cX11_makeSecond 27 = .ok (.iload 4, 2) := by decide +kernel
theorem dX11_makeSecond_29 : decode cX11_makeSecond 29 = .ok (.iload_n 2, 1) := by decide +kernel
theorem dX11_makeSecond_30 : decode cX11_makeSecond 30 = .ok (.iconst 3, 1) := by decide +kernel
theorem dX11_makeSecond_31 : decode cX11_makeSecond 31 = .ok (.irem, 1) := by decide +kernel
theorem dX11_makeSecond_32 : decode cX11_makeSecond 32 = .ok (.iastore, 1) := by decide +kernel
theorem dX11_makeSecond_33 : decode cX11_makeSecond 33 = .ok (.iload_n 3, 1) := by decide +kernel
theorem dX11_makeSecond_34 : decode cX11_makeSecond 34 = .ok (.aload_n 0, 1) := by decide +kernel
theorem dX11_makeSecond_35 : decode cX11_makeSecond 35 = .ok (.getfield 112, 3) := by decide +kernel
theorem dX11_makeSecond_38 : decode cX11_makeSecond 38 = .ok (.iload 4, 2) := by decide +kernel
theorem dX11_makeSecond_40 : decode cX11_makeSecond 40 = .ok (.iaload, 1) := by decide +kernel
theorem dX11_makeSecond_41 : decode cX11_makeSecond 41 = .ok (.iadd, 1) := by decide +kernel
theorem dX11_makeSecond_42 : decode cX11_makeSecond 42 = .ok (.istore_n 3, 1) := by decide +kernel
theorem dX11_makeSecond_43 : decode cX11_makeSecond 43 = .ok (.iload_n 2, 1) := by decide +kernel
theorem dX11_makeSecond_44 : decode cX11_makeSecond 44 = .ok (.iconst 3, 1) := by decide +kernel
theorem dX11_makeSecond_45 : decode cX11_makeSecond 45 = .ok (.idiv, 1) := by decide +kernel
theorem dX11_makeSecond_46 : decode cX11_makeSecond 46 = .ok (.istore_n 2, 1) := by decide +kernel
theorem dX11_makeSecond_47 : decode cX11_makeSecond 47 = .ok (.iinc 4 1, 3) := by decide +kernel
theorem dX11_makeSecond_50 : decode cX11_makeSecond 50 = .ok (.goto (-34), 3) := by decide +kernel
theorem dX11_makeSecond_53 : decode cX11_makeSecond 53 = .ok (.aload_n 0, 1) := by decide +kernel
theorem dX11_makeSecond_54 : decode cX11_makeSecond 54 = .ok (.getfield 112, 3) := by decide +kernel
theorem dX11_makeSecond_57 : decode cX11_makeSecond 57 = .ok (.bipush 7, 2) := by decide +kernel
theorem dX11_makeSecond_59 : decode cX11_makeSecond 59 = .ok (.bipush 24, 2) := by decide +kernel
theorem dX11_makeSecond_61 : decode cX11_makeSecond 61 = .ok (.iload_n 3, 1) := by decide +kernel
theorem dX11_makeSecond_62 : decode cX11_makeSecond 62 = .ok (.isub, 1) := by decide +kernel
theorem dX11_makeSecond_63 : decode cX11_makeSecond 63 = .ok (.iconst 3, 1) := by decide +kernel
theorem dX11_makeSecond_64 : decode cX11_makeSecond 64 = .ok (.irem, 1) := by decide +kernel
theorem dX11_makeSecond_65 : decode cX11_makeSecond 65 = .ok (.iastore, 1) := by decide +kernel
theorem dX11_makeSecond_66 : decode cX11_makeSecond 66 = .ok (.iconst 0, 1) := by decide +kernel
theorem dX11_makeSecond_67 : decode cX11_makeSecond 67 = .ok (.istore 4, 2) := by decide +kernel
theorem dX11_makeSecond_69 : decode cX11_makeSecond 69 = .ok (.iload 4, 2) := by decide +kernel
theorem dX11_makeSecond_71 : decode cX11_makeSecond 71 = .ok (.bipush 18, 2) := by decide +kernel
theorem dX11_makeSecond_73 : decode cX11_makeSecond 73 = .ok (.if_icmp .ge 82, 3) := by decide +kernel
theorem dX11_makeSecond_76 : decode cX11_makeSecond 76 = .ok (.iconst 0, 1) := by decide +kernel
theorem dX11_makeSecond_77 : decode cX11_makeSecond 77 = .ok (.istore 5, 2) := by decide +kernel
theorem dX11_makeSecond_79 : decode cX11_makeSecond 79 = .ok (.bipush 6, 2) := by decide +kernel
theorem dX11_makeSecond_81 : decode cX11_makeSecond 81 = .ok (.istore 6, 2) := by decide +kernel
theorem dX11_makeSecond_83 : decode cX11_makeSecond 83 = .ok (.iload 6, 2) := by decide +kernel
theorem dX11_makeSecond_85 : decode cX11_makeSecond 85 = .ok (.ifCond .lt 50, 3) := by decide +kernel
theorem dX11_makeSecond_88 : decode cX11_makeSecond 88 = .ok (.iconst 3, 1) := by decide +kernel
theorem dX11_makeSecond_89 : decode cX11_makeSecond 89 = .ok (.iload 5, 2) := by decide +kernel
theorem dX11_makeSecond_91 : decode cX11_makeSecond 91 = .ok (.imul, 1) := by decide +kernel
theorem dX11_makeSecond_92 : decode cX11_makeSecond 92 = .ok (.aload_n 0, 1) := by decide +kernel
theorem dX11_makeSecond_93 : decode cX11_makeSecond 93 = .ok (.getfield 112, 3) := by decide +kernel
theorem dX11_makeSecond_96 : decode cX11_makeSecond 96 = .ok (.aload_n 0, 1) := by decide +kernel
theorem dX11_makeSecond_97 : decode cX11_makeSecond 97 = .ok (.getfield 40, 3) := by decide +kernel
theorem dX11_makeSecond_100 : decode cX11_makeSecond 100 = .ok (.bipush 8, 2) := by decide +kernel
theorem dX11_makeSecond_102 : decode cX11_makeSecond 102 = .ok (.iload 4, 2) := by decide +kernel
theorem dX11_makeSecond_104 : decode cX11_makeSecond 104 = .ok (.imul, 1) := by decide +kernel
theorem dX11_makeSecond_105 : decode cX11_makeSecond 105 = .ok (.iload 6, 2) := by decide +kernel
theorem dX11_makeSecond_107 : decode cX11_makeSecond 107 = .ok (.iadd, 1) := by decide +kernel
theorem dX11_makeSecond_108 : decode cX11_makeSecond 108 = .ok (.iaload, 1) := by decide +kernel
theorem dX11_makeSecond_109 : decode cX11_makeSecond 109 = .ok (.iaload, 1) := by decide +kernel
theorem dX11_makeSecond_110 : decode cX11_makeSecond 110 = .ok (.aload_n 0, 1) := by decide +kernel
theorem dX11_makeSecond_111 : decode cX11_makeSecond 111 = .ok (.getfield 43, 3) := by decide +kernel
theorem dX11_makeSecond_114 : decode cX11_makeSecond 114 = .ok (.bipush 8, 2) := by decide +kernel
theorem dX11_makeSecond_116 : decode cX11_makeSecond 116 = .ok (.iload 4, 2) := by decide +kernel
theorem dX11_makeSecond_118 : decode cX11_makeSecond 118 = .ok (.imul, 1) := by decide +kernel
theorem dX11_makeSecond_119 : decode cX11_makeSecond 119 = .ok (.iload 6, 2) := by decide +kernel
theorem dX11_makeSecond_121 : decode cX11_makeSecond 121 = .ok (.iadd, 1) := by decide +kernel
theorem dX11_makeSecond_122 : decode cX11_makeSecond 122 = .ok (.iaload, 1) := by decide +kernel
theorem dX11_makeSecond_123 : decode cX11_makeSecond 123 = .ok (.iadd, 1) := by decide +kernel
theorem dX11_makeSecond_124 : decode cX11_makeSecond 124 = .ok (.iconst 3, 1) := by decide +kernel
theorem dX11_makeSecond_125 : decode cX11_makeSecond 125 = .ok (.irem, 1) := by decide +kernel
theorem dX11_makeSecond_126 : decode cX11_makeSecond 126 = .ok (.iadd, 1) := by decide +kernel
theorem dX11_makeSecond_127 : decode cX11_makeSecond 127 = .ok (.istore 5, 2) := by decide +kernel
theorem dX11_makeSecond_129 : decode cX11_makeSecond 129 = .ok (.iinc 6 (-1), 3) := by decide +kernel
theorem dX11_makeSecond_132 : decode cX11_makeSecond 132 = .ok (.goto (-49), 3) := by decide +kernel
theorem dX11_makeSecond_135 : decode cX11_makeSecond 135 = .ok (.aload_n 0, 1) := by decide +kernel
theorem dX11_makeSecond_136 : decode cX11_makeSecond 136 = .ok (.getfield 100, 3) := by decide +kernel
theorem dX11_makeSecond_139 : decode cX11_makeSecond 139 = .ok (.bipush 18, 2) := by decide +kernel
theorem dX11_makeSecond_141 : decode cX11_makeSecond 141 = .ok (.iload_n 1, 1) := by decide +kernel
theorem dX11_makeSecond_142 : decode cX11_makeSecond 142 = .ok (.imul, 1) := by decide +kernel
theorem dX11_makeSecond_143 : decode cX11_makeSecond 143 = .ok (.iload 4, 2) := by decide +kernel
theorem dX11_makeSecond_145 : decode cX11_makeSecond 145 = .ok (.iadd, 1) := by decide +kernel
theorem dX11_makeSecond_146 : decode cX11_makeSecond 146 = .ok (.iload 5, 2) := by decide +kernel
theorem dX11_makeSecond_148 : decode cX11_makeSecond 148 = .ok (.iastore, 1) := by decide +kernel
theorem dX11_makeSecond_149 : decode cX11_makeSecond 149 = .ok (.iinc 4 1, 3) := by decide +kernel
theorem dX11_makeSecond_152 : decode cX11_makeSecond 152 = .ok (.goto (-83), 3) := by decide +kernel
theorem dX11_makeSecond_155 : decode cX11_makeSecond 155 = .ok (.iinc 1 1, 3) := by decide +kernel
theorem dX11_makeSecond_158 : decode cX11_makeSecond 158 = .ok (.goto (-156), 3) := by decide +kernel
theorem dX11_makeSecond_161 : decode cX11_makeSecond 161 = .ok (.iconst 0, 1) := by decide +kernel
theorem dX11_makeSecond_162 : decode cX11_makeSecond 162 = .ok (.istore_n 1, 1) := by decide +kernel
theorem dX11_makeSecond_163 : decode cX11_makeSecond 163 = .ok (.iload_n 1, 1) := by decide +kernel
theorem dX11_makeSecond_164 : decode cX11_makeSecond 164 = .ok (.sipush 495, 3) := by decide +kernel
theorem dX11_makeSecond_167 : decode cX11_makeSecond 167 = .ok (.if_icmp .ge 52, 3) := by decide +kernel
theorem dX11_makeSecond_170 : decode cX11_makeSecond 170 = .ok (.iconst 0, 1) := by decide +kernel
theorem dX11_makeSecond_171 : decode cX11_makeSecond 171 = .ok (.istore_n 2, 1) := by decide +kernel
theorem dX11_makeSecond_172 : decode cX11_makeSecond 172 = .ok (.iload_n 2, 1) := by decide +kernel
theorem dX11_makeSecond_173 : decode cX11_makeSecond 173 = .ok (.bipush 18, 2) := by decide +kernel
theorem dX11_makeSecond_175 : decode cX11_makeSecond 175 = .ok (.if_icmp .ge 38, 3) := by decide +kernel
theorem dX11_makeSecond_178 : decode cX11_makeSecond 178 = .ok (.aload_n 0, 1) := by decide +kernel
theorem dX11_makeSecond_179 : decode cX11_makeSecond 179 = .ok (.getfield 103, 3) := by decide +kernel
theorem dX11_makeSecond_182 : decode cX11_makeSecond 182 = .ok (.bipush 18, 2) := by decide +kernel
theorem dX11_makeSecond_184 : decode cX11_makeSecond 184 = .ok (.iload_n 1, 1) := by decide +kernel
theorem dX11_makeSecond_185 : decode cX11_makeSecond 185 = .ok (.imul, 1) := by decide +kernel
theorem dX11_makeSecond_186 : decode cX11_makeSecond 186 = .ok (.iload_n 2, 1) := by decide +kernel
theorem dX11_makeSecond_187 : decode cX11_makeSecond 187 = .ok (.iadd, 1) := by decide +kernel
theorem dX11_makeSecond_188 : decode cX11_makeSecond 188 = .ok (.aload_n 0, 1) := by decide +kernel
theorem dX11_makeSecond_189 : decode cX11_makeSecond 189 = .ok (.getfield 73, 3) := by decide +kernel
theorem dX11_makeSecond_192 : decode cX11_makeSecond 192 = .ok (.aload_n 0, 1) := by decide +kernel
theorem dX11_makeSecond_193 : decode cX11_makeSecond 193 = .ok (.aload_n 0, 1) := by decide +kernel
theorem dX11_makeSecond_194 : decode cX11_makeSecond 194 = .ok (.getfield 77, 3) := by decide +kernel
theorem dX11_makeSecond_197 : decode cX11_makeSecond 197 = .ok (.iload_n 1, 1) := by decide +kernel
theorem dX11_makeSecond_198 : decode cX11_makeSecond 198 = .ok (.saload, 1) := by decide +kernel
theorem dX11_makeSecond_199 : decode cX11_makeSecond 199 = .ok (.iload_n 2, 1) := by decide +kernel
theorem dX11_makeSecond_200 : decode cX11_makeSecond 200 = .ok (.bipush 12, 2) := by decide +kernel
theorem dX11_makeSecond_202 : decode cX11_makeSecond 202 = .ok (.invokevirtual 166, 3) := by decide +kernel
theorem dX11_makeSecond_205 : decode cX11_makeSecond 205 = .ok (.saload, 1) := by decide +kernel
theorem dX11_makeSecond_206 : decode cX11_makeSecond 206 = .ok (.iastore, 1) := by decide +kernel
theorem dX11_makeSecond_207 : decode cX11_makeSecond 207 = .ok (.iinc 2 1, 3) := by decide +kernel
theorem dX11_makeSecond_210 : decode cX11_makeSecond 210 = .ok (.goto (-38), 3) := by decide +kernel
theorem dX11_makeSecond_213 : decode cX11_makeSecond 213 = .ok (.iinc 1 1, 3) := by decide +kernel
theorem dX11_makeSecond_216 : decode cX11_makeSecond 216 = .ok (.goto (-53), 3) := by decide +kernel
theorem dX11_makeSecond_219 : decode cX11_makeSecond 219 = .ok (.ldc 62, 2) := by decide +kernel
theorem dX11_makeSecond_221 : decode cX11_makeSecond 221 = .ok (.istore_n 1, 1) := by decide +kernel
theorem dX11_makeSecond_222 : decode cX11_makeSecond 222 = .ok (.iconst 0, 1) := by decide +kernel
theorem dX11_makeSecond_223 : decode cX11_makeSecond 223 = .ok (.istore_n 2, 1) := by decide +kernel
theorem dX11_makeSecond_224 : decode cX11_makeSecond 224 = .ok (.iload_n 2, 1) := by decide +kernel
theorem dX11_makeSecond_225 : decode cX11_makeSecond 225 = .ok (.iload_n 1, 1) := by decide +kernel
theorem dX11_makeSecond_226 : decode cX11_makeSecond 226 = .ok (.if_icmp .ge 17, 3) := by decide +kernel
theorem dX11_makeSecond_229 : decode cX11_makeSecond 229 = .ok (.aload_n 0, 1) := by decide +kernel
theorem dX11_makeSecond_230 : decode cX11_makeSecond 230 = .ok (.getfield 63, 3) := by decide +kernel
theorem dX11_makeSecond_233 : decode cX11_makeSecond 233 = .ok (.iload_n 2, 1) := by decide +kernel
theorem dX11_makeSecond_234 : decode cX11_makeSecond 234 = .ok (.bipush 100, 2) := by decide +kernel
theorem dX11_makeSecond_236 : decode cX11_makeSecond 236 = .ok (.bastore, 1) := by decide +kernel
theorem dX11_makeSecond_237 : decode cX11_makeSecond 237 = .ok (.iinc 2 1, 3) := by decide +kernel
theorem dX11_makeSecond_240 : decode cX11_makeSecond 240 = .ok (.goto (-16), 3) := by decide +kernel
theorem dX11_makeSecond_243 : decode cX11_makeSecond 243 = .ok (.aload_n 0, 1) := by decide +kernel
theorem dX11_makeSecond_244 : decode cX11_makeSecond 244 = .ok (.getfield 63, 3) := by decide +kernel
theorem dX11_makeSecond_247 : decode cX11_makeSecond 247 = .ok (.aload_n 0, 1) := by decide +kernel
theorem dX11_makeSecond_248 : decode cX11_makeSecond 248 = .ok (.getfield 73, 3) := by decide +kernel
theorem dX11_makeSecond_251 : decode cX11_makeSecond 251 = .ok (.sipush 3840, 3) := by decide +kernel
theorem dX11_makeSecond_254 : decode cX11_makeSecond 254 = .ok (.saload, 1) := by decide +kernel
theorem dX11_makeSecond_255 : decode cX11_makeSecond 255 = .ok (.iconst 0, 1) := by decide +kernel
theorem dX11_makeSecond_256 : decode cX11_makeSecond 256 = .ok (.bastore, 1) := by decide +kernel
theorem dX11_makeSecond_257 : decode cX11_makeSecond 257 = .ok (.iconst 1, 1) := by decide +kernel
theorem dX11_makeSecond_258 : decode cX11_makeSecond 258 = .ok (.istore_n 2, 1) := by decide +kernel
theorem dX11_makeSecond_259 : decode cX11_makeSecond 259 = .ok (.iconst 0, 1) := by decide +kernel
theorem dX11_makeSecond_260 : decode cX11_makeSecond 260 = .ok (.istore_n 3, 1) := by decide +kernel
theorem dX11_makeSecond_261 : decode cX11_makeSecond 261 = .ok (.iload_n 2, 1) := by decide +kernel
theorem dX11_makeSecond_262 : decode cX11_makeSecond 262 = .ok (.ifCond .eq 57, 3) := by decide +kernel
theorem dX11_makeSecond_265 : decode cX11_makeSecond 265 = .ok (.iconst 0, 1) := by decide +kernel
theorem dX11_makeSecond_266 : decode cX11_makeSecond 266 = .ok (.istore_n 2, 1) := by decide +kernel
theorem dX11_makeSecond_267 : decode cX11_makeSecond 267 = .ok (.iconst 0, 1) := by decide +kernel
theorem dX11_makeSecond_268 : decode cX11_makeSecond 268 = .ok (.istore 4, 2) := by decide +kernel
theorem dX11_makeSecond_270 : decode cX11_makeSecond 270 = .ok (.iload 4, 2) := by decide +kernel
theorem dX11_makeSecond_272 : decode cX11_makeSecond 272 = .ok (.iload_n 1, 1) := by decide +kernel
theorem dX11_makeSecond_273 : decode cX11_makeSecond 273 = .ok (.if_icmp .ge 40, 3) := by decide +kernel
theorem dX11_makeSecond_276 : decode cX11_makeSecond 276 = .ok (.aload_n 0, 1) := by decide +kernel
theorem dX11_makeSecond_277 : decode cX11_makeSecond 277 = .ok (.getfield 63, 3) := by decide +kernel
theorem dX11_makeSecond_280 : decode cX11_makeSecond 280 = .ok (.iload 4, 2) := by decide +kernel
theorem dX11_makeSecond_282 : decode cX11_makeSecond 282 = .ok (.baload, 1) := by decide +kernel
theorem dX11_makeSecond_283 : decode cX11_makeSecond 283 = .ok (.iload_n 3, 1) := by decide +kernel
theorem dX11_makeSecond_284 : decode cX11_makeSecond 284 = .ok (.if_icmp .ne 23, 3) := by decide +kernel
theorem dX11_makeSecond_287 : decode cX11_makeSecond 287 = .ok (.aload_n 0, 1) := by decide +kernel
theorem dX11_makeSecond_288 : decode cX11_makeSecond 288 = .ok (.iload 4, 2) := by decide +kernel
theorem dX11_makeSecond_290 : decode cX11_makeSecond 290 = .ok (.iload_n 3, 1) := by decide +kernel
theorem dX11_makeSecond_291 : decode cX11_makeSecond 291 = .ok (.invokevirtual 170, 3) := by decide +kernel
theorem dX11_makeSecond_294 : decode cX11_makeSecond 294 = .ok (.ifCond .ne 7, 3) := by decide +kernel
theorem dX11_makeSecond_297 : decode cX11_makeSecond 297 = .ok (.iload_n 2, 1) := by decide +kernel
theorem dX11_makeSecond_298 : decode cX11_makeSecond 298 = .ok (.ifCond .eq 7, 3) := by decide +kernel
theorem dX11_makeSecond_301 : decode cX11_makeSecond 301 = .ok (.iconst 1, 1) := by decide +kernel
theorem dX11_makeSecond_302 : decode cX11_makeSecond 302 = .ok (.goto 4, 3) := by decide +kernel
theorem dX11_makeSecond_305 : decode cX11_makeSecond 305 = .ok (.iconst 0, 1) := by decide +kernel
theorem dX11_makeSecond_306 : decode cX11_makeSecond 306 = .ok (.istore_n 2, 1) := by decide +kernel
theorem dX11_makeSecond_307 : decode cX11_makeSecond 307 = .ok (.iinc 4 1, 3) := by decide +kernel
theorem dX11_makeSecond_310 : decode cX11_makeSecond 310 = .ok (.goto (-40), 3) := by decide +kernel
theorem dX11_makeSecond_313 : decode cX11_makeSecond 313 = .ok (.iinc 3 1, 3) := by decide +kernel
theorem dX11_makeSecond_316 : decode cX11_makeSecond 316 = .ok (.goto (-55), 3) := by decide +kernel
theorem dX11_makeSecond_319 : decode cX11_makeSecond 319 = .ok (.return_, 1) := by decide +kernel
set_option maxRecDepth 20000 in
theorem ggX11_spread2_X11_may : GoodIn wsX11_spread2 wsX11_may := goodIn_r _ [7] (by decide +kernel) (by decide +kernel)
set_option maxRecDepth 20000 in
theorem gX11_spread2_X11_may : GoodIn wsX11_spread2 (va_wsS RX11 174 yX11_may wsX11_may) := goodIn_app (goodIn_of _ (by decide +kernel)) ggX11_spread2_X11_may
theorem dX11_spread2_0 : decode cX11_spread2 0 = .ok (.iconst 0, 1) := by decide +kernel
theorem dX11_spread2_1 : decode cX11_spread2 1 = .ok (.istore_n 3, 1) := by decide +kernel
theorem dX11_spread2_2 : decode cX11_spread2 2 = .ok (.iconst 0, 1) := by decide +kernel
theorem dX11_spread2_3 : decode cX11_spread2 3 = .ok (.istore 4, 2) := by decide +kernel
theorem dX11_spread2_5 : decode cX11_spread2 5 = .ok (.iload 4, 2) := by decide +kernel
theorem dX11_spread2_7 : decode cX11_spread2 7 = .ok (.bipush 18, 2) := by decide +kernel
theorem dX11_spread2_9 : decode cX11_spread2 9 = .ok (.if_icmp .ge 82, 3) := by decide +kernel
theorem dX11_spread2_12 : decode cX11_spread2 12 = .ok (.sipush 495, 3) := by decide +kernel
theorem dX11_spread2_15 : decode cX11_spread2 15 = .ok (.aload_n 0, 1) := by decide +kernel
theorem dX11_spread2_16 : decode cX11_spread2 16 = .ok (.getfield 100, 3) := by decide +kernel
theorem dX11_spread2_19 : decode cX11_spread2 19 = .ok (.bipush 18, 2) := by decide +kernel
theorem dX11_spread2_21 : decode cX11_spread2 21 = .ok (.iload_n 1, 1) := by decide +kernel
theorem dX11_spread2_22 : decode cX11_spread2 22 = .ok (.sipush 495, 3) := by decide +kernel
theorem dX11_spread2_25 : decode cX11_spread2 25 = .ok (.idiv, 1) := by decide +kernel
theorem dX11_spread2_26 : decode cX11_spread2 26 = .ok (.imul, 1) := by decide +kernel
theorem dX11_spread2_27 : decode cX11_spread2 27 = .ok (.iload 4, 2) := by decide +kernel
theorem dX11_spread2_29 : decode cX11_spread2 29 = .ok (.iadd, 1) := by decide +kernel
theorem dX11_spread2_30 : decode cX11_spread2 30 = .ok (.iaload, 1) := by decide +kernel
theorem dX11_spread2_31 : decode cX11_spread2 31 = .ok (.imul, 1) := by decide +kernel
theorem dX11_spread2_32 : decode cX11_spread2 32 = .ok (.aload_n 0, 1) := by decide +kernel
theorem dX11_spread2_33 : decode cX11_spread2 33 = .ok (.getfield 103, 3) := by decide +kernel
theorem dX11_spread2_36 : decode cX11_spread2 36 = .ok (.bipush 18, 2) := by decide +kernel
theorem dX11_spread2_38 : decode cX11_spread2 38 = .ok (.iload_n 1, 1) := by decide +kernel
theorem dX11_spread2_39 : decode cX11_spread2 39 = .ok (.sipush 495, 3) := by decide +kernel
theorem dX11_spread2_42 : decode cX11_spread2 42 = .ok (.irem, 1) := by decide +kernel
theorem dX11_spread2_43 : decode cX11_spread2 43 = .ok (.imul, 1) := by decide +kernel
theorem dX11_spread2_44 : decode cX11_spread2 44 = .ok (.iload 4, 2) := by decide +kernel
theorem dX11_spread2_46 : decode cX11_spread2 46 = .ok (.iadd, 1) := by decide +kernel
theorem dX11_spread2_47 : decode cX11_spread2 47 = .ok (.iaload, 1) := by decide +kernel
theorem dX11_spread2_48 : decode cX11_spread2 48 = .ok (.iadd, 1) := by decide +kernel
theorem dX11_spread2_49 : decode cX11_spread2 49 = .ok (.istore 5, 2) := by decide +kernel
theorem dX11_spread2_51 : decode cX11_spread2 51 = .ok (.iconst 1, 1) := by decide +kernel
theorem dX11_spread2_52 : decode cX11_spread2 52 = .ok (.iload 4, 2) := by decide +kernel
theorem dX11_spread2_54 : decode cX11_spread2 54 = .ok (.invokestatic 174, 3) := by decide +kernel
theorem dX11_spread2_57 : decode cX11_spread2 57 = .ok (.ifCond .eq 28, 3) := by decide +kernel
theorem dX11_spread2_60 : decode cX11_spread2 60 = .ok (.aload_n 0, 1) := by decide +kernel
theorem dX11_spread2_61 : decode cX11_spread2 61 = .ok (.getfield 63, 3) := by decide +kernel
theorem dX11_spread2_64 : decode cX11_spread2 64 = .ok (.iload 5, 2) := by decide +kernel
theorem dX11_spread2_66 : decode cX11_spread2 66 = .ok (.baload, 1) := by decide +kernel
theorem dX11_spread2_67 : decode cX11_spread2 67 = .ok (.bipush 100, 2) := by decide +kernel
theorem dX11_spread2_69 : decode cX11_spread2 69 = .ok (.if_icmp .ne 16, 3) := by decide +kernel
theorem dX11_spread2_72 : decode cX11_spread2 72 = .ok (.aload_n 0, 1) := by decide +kernel
theorem dX11_spread2_73 : decode cX11_spread2 73 = .ok (.getfield 63, 3) := by decide +kernel
theorem dX11_spread2_76 : decode cX11_spread2 76 = .ok (.iload 5, 2) := by decide +kernel
theorem dX11_spread2_78 : decode cX11_spread2 78 = .ok (.iload_n 2, 1) := by decide +kernel
theorem dX11_spread2_79 : decode cX11_spread2 79 = .ok (.iconst 1, 1) := by decide +kernel
theorem dX11_spread2_80 : decode cX11_spread2 80 = .ok (.iadd, 1) := by decide +kernel
theorem dX11_spread2_81 : decode cX11_spread2 81 = .ok (.i2b, 1) := by decide +kernel
theorem dX11_spread2_82 : decode cX11_spread2 82 = .ok (.bastore, 1) := by decide +kernel
theorem dX11_spread2_83 : decode cX11_spread2 83 = .ok (.iconst 1, 1) := by decide +kernel
theorem dX11_spread2_84 : decode cX11_spread2 84 = .ok (.istore_n 3, 1) := by decide +kernel
theorem dX11_spread2_85 : decode cX11_spread2 85 = .ok (.iinc 4 1, 3) := by decide +kernel
theorem dX11_spread2_88 : decode cX11_spread2 88 = .ok (.goto (-83), 3) := by decide +kernel
theorem dX11_spread2_91 : decode cX11_spread2 91 = .ok (.iload_n 3, 1) := by decide +kernel
theorem dX11_spread2_92 : decode cX11_spread2 92 = .ok (.ireturn, 1) := by decide +kernel
set_option maxRecDepth 20000 in
theorem ggX11_makeKinds_X11_unrank : GoodIn wsX11_makeKinds wsX11_unrank := goodIn_r _ [10, 11, 27, 28, 29, 30, 31, 32, 33, 34, 35, 36, 37, 38, 39, 40, 41, 42, 43, 44, 45, 46, 47, 48, 49, 50, 51, 52, 53, 54, 55, 56, 57, 58, 59, 60, 61, 62, 63, 64] (by decide +kernel) (by decide +kernel)
set_option maxRecDepth 20000 in
theorem gX11_makeKinds_X11_unrank : GoodIn wsX11_makeKinds (wsV RX11 177 RX11 yX11_unrank wsX11_unrank) := goodIn_app (goodIn_of _ (by decide +kernel)) ggX11_makeKinds_X11_unrank
set_option maxRecDepth 20000 in
theorem ggX11_makeKinds_X11_turnRow : GoodIn wsX11_makeKinds wsX11_turnRow := goodIn_r _ [15, 16, 11, 17, 27, 28, 29, 30, 31, 32, 33, 34, 35, 36, 37, 38, 39, 40, 41, 42, 43, 44, 45, 46, 47, 48, 49, 50, 51, 52, 53, 54, 55, 56, 57, 58, 59, 60, 61, 62, 63, 64] (by decide +kernel) (by decide +kernel)
set_option maxRecDepth 20000 in
theorem gX11_makeKinds_X11_turnRow : GoodIn wsX11_makeKinds (wsV RX11 181 RX11 yX11_turnRow wsX11_turnRow) := goodIn_app (goodIn_of _ (by decide +kernel)) ggX11_makeKinds_X11_turnRow
set_option maxRecDepth 20000 in
theorem ggX11_makeKinds_X11_rank : GoodIn wsX11_makeKinds wsX11_rank := goodIn_r _ [21, 11, 27, 28, 29, 30, 31, 32, 33, 34, 35, 36, 37, 38, 39, 40, 41, 42, 43, 44, 45, 46, 47, 48, 49, 50, 51, 52, 53, 54, 55, 56, 57, 58, 59, 60, 61, 62, 63, 64] (by decide +kernel) (by decide +kernel)
set_option maxRecDepth 20000 in
theorem gX11_makeKinds_X11_rank : GoodIn wsX11_makeKinds (wsV RX11 184 RX11 yX11_rank wsX11_rank) := goodIn_app (goodIn_of _ (by decide +kernel)) ggX11_makeKinds_X11_rank
set_option maxRecDepth 20000 in
theorem ggX11_makeKinds_X11_nameKind : GoodIn wsX11_makeKinds wsX11_nameKind := goodIn_r _ [25, 26, 11, 4, 16, 3, 6, 7, 8, 9, 10, 18, 19, 20, 21, 27, 28, 29, 30, 31, 32, 33, 34, 35, 36, 37, 38, 39, 40, 41, 42, 43, 44, 45, 46, 47, 48, 49, 50, 51, 52, 53, 54, 55, 56, 57, 58, 59, 60, 61, 62, 63, 64] (by decide +kernel) (by decide +kernel)
set_option maxRecDepth 20000 in
theorem gX11_makeKinds_X11_nameKind : GoodIn wsX11_makeKinds (wsV RX11 187 RX11 yX11_nameKind wsX11_nameKind) := goodIn_app (goodIn_of _ (by decide +kernel)) ggX11_makeKinds_X11_nameKind
theorem dX11_makeKinds_0 : decode cX11_makeKinds 0 = .ok (.iconst 0, 1) := by decide +kernel
theorem dX11_makeKinds_1 : decode cX11_makeKinds 1 = .ok (.istore_n 1, 1) := by decide +kernel
theorem dX11_makeKinds_2 : decode cX11_makeKinds 2 = .ok (.iload_n 1, 1) := by decide +kernel
theorem dX11_makeKinds_3 : decode cX11_makeKinds 3 = .ok (.ldc 86, 2) := by decide +kernel
theorem dX11_makeKinds_5 : decode cX11_makeKinds 5 = .ok (.if_icmp .ge 23, 3) := by decide +kernel
theorem dX11_makeKinds_8 : decode cX11_makeKinds 8 = .ok (.aload_n 0, 1) := by decide +kernel
theorem dX11_makeKinds_9 : decode cX11_makeKinds 9 = .ok (.getfield 93, 3) := by decide +kernel
theorem dX11_makeKinds_12 : decode cX11_makeKinds 12 = .ok (.iload_n 1, 1) := by decide +kernel
theorem dX11_makeKinds_13 : decode cX11_makeKinds 13 = .ok (.iconst (-1), 1) := by decide +kernel
theorem dX11_makeKinds_14 : decode cX11_makeKinds 14 = .ok (.sastore, 1) := by decide +kernel
theorem dX11_makeKinds_15 : decode cX11_makeKinds 15 = .ok (.aload_n 0, 1) := by decide +kernel
theorem dX11_makeKinds_16 : decode cX11_makeKinds 16 = .ok (.getfield 87, 3) := by decide +kernel
theorem dX11_makeKinds_19 : decode cX11_makeKinds 19 = .ok (.iload_n 1, 1) := by decide +kernel
theorem dX11_makeKinds_20 : decode cX11_makeKinds 20 = .ok (.iconst (-1), 1) := by decide +kernel
theorem dX11_makeKinds_21 : decode cX11_makeKinds 21 = .ok (.sastore, 1) := by decide +kernel
theorem dX11_makeKinds_22 : decode cX11_makeKinds 22 = .ok (.iinc 1 1, 3) := by decide +kernel
theorem dX11_makeKinds_25 : decode cX11_makeKinds 25 = .ok (.goto (-23), 3) := by decide +kernel
theorem dX11_makeKinds_28 : decode cX11_makeKinds 28 = .ok (.aload_n 0, 1) := by decide +kernel
theorem dX11_makeKinds_29 : decode cX11_makeKinds 29 = .ok (.getfield 93, 3) := by decide +kernel
theorem dX11_makeKinds_32 : decode cX11_makeKinds 32 = .ok (.iconst 0, 1) := by decide +kernel
theorem dX11_makeKinds_33 : decode cX11_makeKinds 33 = .ok (.iconst 0, 1) := by decide +kernel
theorem dX11_makeKinds_34 : decode cX11_makeKinds 34 = .ok (.sastore, 1) := by decide +kernel
theorem dX11_makeKinds_35 : decode cX11_makeKinds 35 = .ok (.aload_n 0, 1) := by decide +kernel
theorem dX11_makeKinds_36 : decode cX11_makeKinds 36 = .ok (.getfield 96, 3) := by decide +kernel
theorem dX11_makeKinds_39 : decode cX11_makeKinds 39 = .ok (.iconst 0, 1) := by decide +kernel
theorem dX11_makeKinds_40 : decode cX11_makeKinds 40 = .ok (.iconst 0, 1) := by decide +kernel
theorem dX11_makeKinds_41 : decode cX11_makeKinds 41 = .ok (.iastore, 1) := by decide +kernel
theorem dX11_makeKinds_42 : decode cX11_makeKinds 42 = .ok (.iconst 1, 1) := by decide +kernel
theorem dX11_makeKinds_43 : decode cX11_makeKinds 43 = .ok (.istore_n 1, 1) := by decide +kernel
theorem dX11_makeKinds_44 : decode cX11_makeKinds 44 = .ok (.iconst 0, 1) := by decide +kernel
theorem dX11_makeKinds_45 : decode cX11_makeKinds 45 = .ok (.istore_n 2, 1) := by decide +kernel
theorem dX11_makeKinds_46 : decode cX11_makeKinds 46 = .ok (.iload_n 2, 1) := by decide +kernel
theorem dX11_makeKinds_47 : decode cX11_makeKinds 47 = .ok (.iload_n 1, 1) := by decide +kernel
theorem dX11_makeKinds_48 : decode cX11_makeKinds 48 = .ok (.if_icmp .ge 78, 3) := by decide +kernel
theorem dX11_makeKinds_51 : decode cX11_makeKinds 51 = .ok (.iconst 1, 1) := by decide +kernel
theorem dX11_makeKinds_52 : decode cX11_makeKinds 52 = .ok (.istore_n 3, 1) := by decide +kernel
theorem dX11_makeKinds_53 : decode cX11_makeKinds 53 = .ok (.iload_n 3, 1) := by decide +kernel
theorem dX11_makeKinds_54 : decode cX11_makeKinds 54 = .ok (.bipush 18, 2) := by decide +kernel
theorem dX11_makeKinds_56 : decode cX11_makeKinds 56 = .ok (.if_icmp .ge 64, 3) := by decide +kernel
theorem dX11_makeKinds_59 : decode cX11_makeKinds 59 = .ok (.aload_n 0, 1) := by decide +kernel
theorem dX11_makeKinds_60 : decode cX11_makeKinds 60 = .ok (.bipush 8, 2) := by decide +kernel
theorem dX11_makeKinds_62 : decode cX11_makeKinds 62 = .ok (.aload_n 0, 1) := by decide +kernel
theorem dX11_makeKinds_63 : decode cX11_makeKinds 63 = .ok (.getfield 96, 3) := by decide +kernel
theorem dX11_makeKinds_66 : decode cX11_makeKinds 66 = .ok (.iload_n 2, 1) := by decide +kernel
theorem dX11_makeKinds_67 : decode cX11_makeKinds 67 = .ok (.iaload, 1) := by decide +kernel
theorem dX11_makeKinds_68 : decode cX11_makeKinds 68 = .ok (.invokevirtual 177, 3) := by decide +kernel
theorem dX11_makeKinds_71 : decode cX11_makeKinds 71 = .ok (.aload_n 0, 1) := by decide +kernel
theorem dX11_makeKinds_72 : decode cX11_makeKinds 72 = .ok (.iload_n 3, 1) := by decide +kernel
theorem dX11_makeKinds_73 : decode cX11_makeKinds 73 = .ok (.invokevirtual 181, 3) := by decide +kernel
theorem dX11_makeKinds_76 : decode cX11_makeKinds 76 = .ok (.aload_n 0, 1) := by decide +kernel
theorem dX11_makeKinds_77 : decode cX11_makeKinds 77 = .ok (.bipush 8, 2) := by decide +kernel
theorem dX11_makeKinds_79 : decode cX11_makeKinds 79 = .ok (.invokevirtual 184, 3) := by decide +kernel
theorem dX11_makeKinds_82 : decode cX11_makeKinds 82 = .ok (.istore 4, 2) := by decide +kernel
theorem dX11_makeKinds_84 : decode cX11_makeKinds 84 = .ok (.aload_n 0, 1) := by decide +kernel
theorem dX11_makeKinds_85 : decode cX11_makeKinds 85 = .ok (.getfield 93, 3) := by decide +kernel
theorem dX11_makeKinds_88 : decode cX11_makeKinds 88 = .ok (.iload 4, 2) := by decide +kernel
theorem dX11_makeKinds_90 : decode cX11_makeKinds 90 = .ok (.saload, 1) := by decide +kernel
theorem dX11_makeKinds_91 : decode cX11_makeKinds 91 = .ok (.ifCond .ge 23, 3) := by decide +kernel
theorem dX11_makeKinds_94 : decode cX11_makeKinds 94 = .ok (.aload_n 0, 1) := by decide +kernel
theorem dX11_makeKinds_95 : decode cX11_makeKinds 95 = .ok (.getfield 93, 3) := by decide +kernel
theorem dX11_makeKinds_98 : decode cX11_makeKinds 98 = .ok (.iload 4, 2) := by decide +kernel
theorem dX11_makeKinds_100 : decode cX11_makeKinds 100 = .ok (.iload_n 1, 1) := by decide +kernel
theorem dX11_makeKinds_101 : decode cX11_makeKinds 101 = .ok (.i2s, 1) := by decide +kernel
theorem dX11_makeKinds_102 : decode cX11_makeKinds 102 = .ok (.sastore, 1) := by decide +kernel
theorem dX11_makeKinds_103 : decode cX11_makeKinds 103 = .ok (.aload_n 0, 1) := by decide +kernel
theorem dX11_makeKinds_104 : decode cX11_makeKinds 104 = .ok (.getfield 96, 3) := by decide +kernel
theorem dX11_makeKinds_107 : decode cX11_makeKinds 107 = .ok (.iload_n 1, 1) := by decide +kernel
theorem dX11_makeKinds_108 : decode cX11_makeKinds 108 = .ok (.iload 4, 2) := by decide +kernel
theorem dX11_makeKinds_110 : decode cX11_makeKinds 110 = .ok (.iastore, 1) := by decide +kernel
theorem dX11_makeKinds_111 : decode cX11_makeKinds 111 = .ok (.iinc 1 1, 3) := by decide +kernel
theorem dX11_makeKinds_114 : decode cX11_makeKinds 114 = .ok (.iinc 3 3, 3) := by decide +kernel
theorem dX11_makeKinds_117 : decode cX11_makeKinds 117 = .ok (.goto (-64), 3) := by decide +kernel
theorem dX11_makeKinds_120 : decode cX11_makeKinds 120 = .ok (.iinc 2 1, 3) := by decide +kernel
theorem dX11_makeKinds_123 : decode cX11_makeKinds 123 = .ok (.goto (-77), 3) := by decide +kernel
theorem dX11_makeKinds_126 : decode cX11_makeKinds 126 = .ok (.iconst 0, 1) := by decide +kernel
theorem dX11_makeKinds_127 : decode cX11_makeKinds 127 = .ok (.istore_n 2, 1) := by decide +kernel
theorem dX11_makeKinds_128 : decode cX11_makeKinds 128 = .ok (.iconst 0, 1) := by decide +kernel
theorem dX11_makeKinds_129 : decode cX11_makeKinds 129 = .ok (.istore_n 3, 1) := by decide +kernel
theorem dX11_makeKinds_130 : decode cX11_makeKinds 130 = .ok (.iload_n 3, 1) := by decide +kernel
theorem dX11_makeKinds_131 : decode cX11_makeKinds 131 = .ok (.ldc 86, 2) := by decide +kernel
theorem dX11_makeKinds_133 : decode cX11_makeKinds 133 = .ok (.if_icmp .ge 34, 3) := by decide +kernel
theorem dX11_makeKinds_136 : decode cX11_makeKinds 136 = .ok (.aload_n 0, 1) := by decide +kernel
theorem dX11_makeKinds_137 : decode cX11_makeKinds 137 = .ok (.getfield 87, 3) := by decide +kernel
theorem dX11_makeKinds_140 : decode cX11_makeKinds 140 = .ok (.iload_n 3, 1) := by decide +kernel
theorem dX11_makeKinds_141 : decode cX11_makeKinds 141 = .ok (.saload, 1) := by decide +kernel
theorem dX11_makeKinds_142 : decode cX11_makeKinds 142 = .ok (.ifCond .ge 19, 3) := by decide +kernel
theorem dX11_makeKinds_145 : decode cX11_makeKinds 145 = .ok (.aload_n 0, 1) := by decide +kernel
theorem dX11_makeKinds_146 : decode cX11_makeKinds 146 = .ok (.getfield 90, 3) := by decide +kernel
theorem dX11_makeKinds_149 : decode cX11_makeKinds 149 = .ok (.iload_n 2, 1) := by decide +kernel
theorem dX11_makeKinds_150 : decode cX11_makeKinds 150 = .ok (.iload_n 3, 1) := by decide +kernel
theorem dX11_makeKinds_151 : decode cX11_makeKinds 151 = .ok (.iastore, 1) := by decide +kernel
theorem dX11_makeKinds_152 : decode cX11_makeKinds 152 = .ok (.aload_n 0, 1) := by decide +kernel
theorem dX11_makeKinds_153 : decode cX11_makeKinds 153 = .ok (.iload_n 3, 1) := by decide +kernel
theorem dX11_makeKinds_154 : decode cX11_makeKinds 154 = .ok (.iload_n 2, 1) := by decide +kernel
theorem dX11_makeKinds_155 : decode cX11_makeKinds 155 = .ok (.invokevirtual 187, 3) := by decide +kernel
theorem dX11_makeKinds_158 : decode cX11_makeKinds 158 = .ok (.iinc 2 1, 3) := by decide +kernel
theorem dX11_makeKinds_161 : decode cX11_makeKinds 161 = .ok (.iinc 3 1, 3) := by decide +kernel
theorem dX11_makeKinds_164 : decode cX11_makeKinds 164 = .ok (.goto (-34), 3) := by decide +kernel
theorem dX11_makeKinds_167 : decode cX11_makeKinds 167 = .ok (.return_, 1) := by decide +kernel
set_option maxRecDepth 20000 in
theorem ggX11_nameKind_X11_unrank : GoodIn wsX11_nameKind wsX11_unrank := goodIn_r _ [10, 2, 15, 16, 17, 18, 19, 20, 21, 22, 23, 24, 25, 26, 27, 28, 29, 30, 31, 32, 33, 34, 35, 36, 37, 38, 39, 40, 41, 42, 43, 44, 45, 46, 47, 48, 49, 50, 51, 52] (by decide +kernel) (by decide +kernel)
set_option maxRecDepth 20000 in
theorem gX11_nameKind_X11_unrank : GoodIn wsX11_nameKind (wsV RX11 177 RX11 yX11_unrank wsX11_unrank) := goodIn_app (goodIn_of _ (by decide +kernel)) ggX11_nameKind_X11_unrank
set_option maxRecDepth 20000 in
theorem ggX11_nameKind_X11_rank : GoodIn wsX11_nameKind wsX11_rank := goodIn_r _ [14, 2, 15, 16, 17, 18, 19, 20, 21, 22, 23, 24, 25, 26, 27, 28, 29, 30, 31, 32, 33, 34, 35, 36, 37, 38, 39, 40, 41, 42, 43, 44, 45, 46, 47, 48, 49, 50, 51, 52] (by decide +kernel) (by decide +kernel)
set_option maxRecDepth 20000 in
theorem gX11_nameKind_X11_rank : GoodIn wsX11_nameKind (wsV RX11 184 RX11 yX11_rank wsX11_rank) := goodIn_app (goodIn_of _ (by decide +kernel)) ggX11_nameKind_X11_rank
theorem dX11_nameKind_0 : decode cX11_nameKind 0 = .ok (.aload_n 0, 1) := by decide +kernel
theorem dX11_nameKind_1 : decode cX11_nameKind 1 = .ok (.getfield 37, 3) := by decide +kernel
theorem dX11_nameKind_4 : decode cX11_nameKind 4 = .ok (.astore_n 3, 1) := by decide +kernel
theorem dX11_nameKind_5 : decode cX11_nameKind 5 = .ok (.aload_n 0, 1) := by decide +kernel
theorem dX11_nameKind_6 : decode cX11_nameKind 6 = .ok (.bipush 8, 2) := by decide +kernel
theorem dX11_nameKind_8 : decode cX11_nameKind 8 = .ok (.iload_n 1, 1) := by decide +kernel
theorem dX11_nameKind_9 : decode cX11_nameKind 9 = .ok (.invokevirtual 177, 3) := by decide +kernel
theorem dX11_nameKind_12 : decode cX11_nameKind 12 = .ok (.iconst 0, 1) := by decide +kernel
theorem dX11_nameKind_13 : decode cX11_nameKind 13 = .ok (.istore 4, 2) := by decide +kernel
theorem dX11_nameKind_15 : decode cX11_nameKind 15 = .ok (.iload 4, 2) := by decide +kernel
theorem dX11_nameKind_17 : decode cX11_nameKind 17 = .ok (.bipush 8, 2) := by decide +kernel
theorem dX11_nameKind_19 : decode cX11_nameKind 19 = .ok (.if_icmp .ge 20, 3) := by decide +kernel
theorem dX11_nameKind_22 : decode cX11_nameKind 22 = .ok (.aload_n 3, 1) := by decide +kernel
theorem dX11_nameKind_23 : decode cX11_nameKind 23 = .ok (.iload 4, 2) := by decide +kernel
theorem dX11_nameKind_25 : decode cX11_nameKind 25 = .ok (.aload_n 0, 1) := by decide +kernel
theorem dX11_nameKind_26 : decode cX11_nameKind 26 = .ok (.getfield 112, 3) := by decide +kernel
theorem dX11_nameKind_29 : decode cX11_nameKind 29 = .ok (.iload 4, 2) := by decide +kernel
theorem dX11_nameKind_31 : decode cX11_nameKind 31 = .ok (.iaload, 1) := by decide +kernel
theorem dX11_nameKind_32 : decode cX11_nameKind 32 = .ok (.iastore, 1) := by decide +kernel
theorem dX11_nameKind_33 : decode cX11_nameKind 33 = .ok (.iinc 4 1, 3) := by decide +kernel
theorem dX11_nameKind_36 : decode cX11_nameKind 36 = .ok (.goto (-21), 3) := by decide +kernel
theorem dX11_nameKind_39 : decode cX11_nameKind 39 = .ok (.iconst 0, 1) := by decide +kernel
theorem dX11_nameKind_40 : decode cX11_nameKind 40 = .ok (.istore 4, 2) := by decide +kernel
theorem dX11_nameKind_42 : decode cX11_nameKind 42 = .ok (.iload 4, 2) := by decide +kernel
theorem dX11_nameKind_44 : decode cX11_nameKind 44 = .ok (.bipush 96, 2) := by decide +kernel
theorem dX11_nameKind_46 : decode cX11_nameKind 46 = .ok (.if_icmp .ge 97, 3) := by decide +kernel
theorem dX11_nameKind_49 : decode cX11_nameKind 49 = .ok (.aload_n 0, 1) := by decide +kernel
theorem dX11_nameKind_50 : decode cX11_nameKind 50 = .ok (.bipush 8, 2) := by decide +kernel
theorem dX11_nameKind_52 : decode cX11_nameKind 52 = .ok (.aload_n 0, 1) := by decide +kernel
theorem dX11_nameKind_53 : decode cX11_nameKind 53 = .ok (.getfield 96, 3) := by decide +kernel
theorem dX11_nameKind_56 : decode cX11_nameKind 56 = .ok (.iload 4, 2) := by decide +kernel
theorem dX11_nameKind_58 : decode cX11_nameKind 58 = .ok (.iaload, 1) := by decide +kernel
theorem dX11_nameKind_59 : decode cX11_nameKind 59 = .ok (.invokevirtual 177, 3) := by decide +kernel
theorem dX11_nameKind_62 : decode cX11_nameKind 62 = .ok (.iconst 0, 1) := by decide +kernel
theorem dX11_nameKind_63 : decode cX11_nameKind 63 = .ok (.istore 5, 2) := by decide +kernel
theorem dX11_nameKind_65 : decode cX11_nameKind 65 = .ok (.iload 5, 2) := by decide +kernel
theorem dX11_nameKind_67 : decode cX11_nameKind 67 = .ok (.bipush 8, 2) := by decide +kernel
theorem dX11_nameKind_69 : decode cX11_nameKind 69 = .ok (.if_icmp .ge 25, 3) := by decide +kernel
theorem dX11_nameKind_72 : decode cX11_nameKind 72 = .ok (.aload_n 0, 1) := by decide +kernel
theorem dX11_nameKind_73 : decode cX11_nameKind 73 = .ok (.getfield 115, 3) := by decide +kernel
theorem dX11_nameKind_76 : decode cX11_nameKind 76 = .ok (.iload 5, 2) := by decide +kernel
theorem dX11_nameKind_78 : decode cX11_nameKind 78 = .ok (.aload_n 0, 1) := by decide +kernel
theorem dX11_nameKind_79 : decode cX11_nameKind 79 = .ok (.getfield 112, 3) := by decide +kernel
theorem dX11_nameKind_82 : decode cX11_nameKind 82 = .ok (.aload_n 3, 1) := by decide +kernel
theorem dX11_nameKind_83 : decode cX11_nameKind 83 = .ok (.iload 5, 2) := by decide +kernel
theorem dX11_nameKind_85 : decode cX11_nameKind 85 = .ok (.iaload, 1) := by decide +kernel
theorem dX11_nameKind_86 : decode cX11_nameKind 86 = .ok (.iaload, 1) := by decide +kernel
theorem dX11_nameKind_87 : decode cX11_nameKind 87 = .ok (.iastore, 1) := by decide +kernel
theorem dX11_nameKind_88 : decode cX11_nameKind 88 = .ok (.iinc 5 1, 3) := by decide +kernel
theorem dX11_nameKind_91 : decode cX11_nameKind 91 = .ok (.goto (-26), 3) := by decide +kernel
theorem dX11_nameKind_94 : decode cX11_nameKind 94 = .ok (.iconst 0, 1) := by decide +kernel
theorem dX11_nameKind_95 : decode cX11_nameKind 95 = .ok (.istore 5, 2) := by decide +kernel
theorem dX11_nameKind_97 : decode cX11_nameKind 97 = .ok (.iload 5, 2) := by decide +kernel
theorem dX11_nameKind_99 : decode cX11_nameKind 99 = .ok (.bipush 8, 2) := by decide +kernel
theorem dX11_nameKind_101 : decode cX11_nameKind 101 = .ok (.if_icmp .ge 23, 3) := by decide +kernel
theorem dX11_nameKind_104 : decode cX11_nameKind 104 = .ok (.aload_n 0, 1) := by decide +kernel
theorem dX11_nameKind_105 : decode cX11_nameKind 105 = .ok (.getfield 112, 3) := by decide +kernel
theorem dX11_nameKind_108 : decode cX11_nameKind 108 = .ok (.iload 5, 2) := by decide +kernel
theorem dX11_nameKind_110 : decode cX11_nameKind 110 = .ok (.aload_n 0, 1) := by decide +kernel
theorem dX11_nameKind_111 : decode cX11_nameKind 111 = .ok (.getfield 115, 3) := by decide +kernel
theorem dX11_nameKind_114 : decode cX11_nameKind 114 = .ok (.iload 5, 2) := by decide +kernel
theorem dX11_nameKind_116 : decode cX11_nameKind 116 = .ok (.iaload, 1) := by decide +kernel
theorem dX11_nameKind_117 : decode cX11_nameKind 117 = .ok (.iastore, 1) := by decide +kernel
theorem dX11_nameKind_118 : decode cX11_nameKind 118 = .ok (.iinc 5 1, 3) := by decide +kernel
theorem dX11_nameKind_121 : decode cX11_nameKind 121 = .ok (.goto (-24), 3) := by decide +kernel
theorem dX11_nameKind_124 : decode cX11_nameKind 124 = .ok (.aload_n 0, 1) := by decide +kernel
theorem dX11_nameKind_125 : decode cX11_nameKind 125 = .ok (.getfield 87, 3) := by decide +kernel
theorem dX11_nameKind_128 : decode cX11_nameKind 128 = .ok (.aload_n 0, 1) := by decide +kernel
theorem dX11_nameKind_129 : decode cX11_nameKind 129 = .ok (.bipush 8, 2) := by decide +kernel
theorem dX11_nameKind_131 : decode cX11_nameKind 131 = .ok (.invokevirtual 184, 3) := by decide +kernel
theorem dX11_nameKind_134 : decode cX11_nameKind 134 = .ok (.iload_n 2, 1) := by decide +kernel
theorem dX11_nameKind_135 : decode cX11_nameKind 135 = .ok (.i2s, 1) := by decide +kernel
theorem dX11_nameKind_136 : decode cX11_nameKind 136 = .ok (.sastore, 1) := by decide +kernel
theorem dX11_nameKind_137 : decode cX11_nameKind 137 = .ok (.iinc 4 1, 3) := by decide +kernel
theorem dX11_nameKind_140 : decode cX11_nameKind 140 = .ok (.goto (-98), 3) := by decide +kernel
theorem dX11_nameKind_143 : decode cX11_nameKind 143 = .ok (.return_, 1) := by decide +kernel
set_option maxRecDepth 20000 in
theorem ggX11_makeThird_X11_unrank : GoodIn wsX11_makeThird wsX11_unrank := goodIn_r _ [11, 12, 31, 32, 33, 34, 35, 36, 37, 38, 39, 40, 41, 42, 43, 44, 45, 46, 47, 48, 49, 50, 51, 52, 53, 54, 55, 56, 57, 58, 59, 60, 61, 62, 63, 64, 65, 66, 67, 68] (by decide +kernel) (by decide +kernel)
set_option maxRecDepth 20000 in
theorem gX11_makeThird_X11_unrank : GoodIn wsX11_makeThird (wsV RX11 177 RX11 yX11_unrank wsX11_unrank) := goodIn_app (goodIn_of _ (by decide +kernel)) ggX11_makeThird_X11_unrank
set_option maxRecDepth 20000 in
theorem ggX11_makeThird_X11_turnRow : GoodIn wsX11_makeThird wsX11_turnRow := goodIn_r _ [16, 17, 12, 18, 31, 32, 33, 34, 35, 36, 37, 38, 39, 40, 41, 42, 43, 44, 45, 46, 47, 48, 49, 50, 51, 52, 53, 54, 55, 56, 57, 58, 59, 60, 61, 62, 63, 64, 65, 66, 67, 68] (by decide +kernel) (by decide +kernel)
set_option maxRecDepth 20000 in
theorem gX11_makeThird_X11_turnRow : GoodIn wsX11_makeThird (wsV RX11 181 RX11 yX11_turnRow wsX11_turnRow) := goodIn_app (goodIn_of _ (by decide +kernel)) ggX11_makeThird_X11_turnRow
set_option maxRecDepth 20000 in
theorem ggX11_makeThird_X11_rank : GoodIn wsX11_makeThird wsX11_rank := goodIn_r _ [22, 12, 31, 32, 33, 34, 35, 36, 37, 38, 39, 40, 41, 42, 43, 44, 45, 46, 47, 48, 49, 50, 51, 52, 53, 54, 55, 56, 57, 58, 59, 60, 61, 62, 63, 64, 65, 66, 67, 68] (by decide +kernel) (by decide +kernel)
set_option maxRecDepth 20000 in
theorem gX11_makeThird_X11_rank : GoodIn wsX11_makeThird (wsV RX11 184 RX11 yX11_rank wsX11_rank) := goodIn_app (goodIn_of _ (by decide +kernel)) ggX11_makeThird_X11_rank
set_option maxRecDepth 20000 in
theorem ggX11_makeThird_X11_may : GoodIn wsX11_makeThird wsX11_may := goodIn_r _ [25] (by decide +kernel) (by decide +kernel)
set_option maxRecDepth 20000 in
theorem gX11_makeThird_X11_may : GoodIn wsX11_makeThird (va_wsS RX11 174 yX11_may wsX11_may) := goodIn_app (goodIn_of _ (by decide +kernel)) ggX11_makeThird_X11_may
set_option maxRecDepth 20000 in
theorem ggX11_makeThird_X11_maskBy : GoodIn wsX11_makeThird wsX11_maskBy := goodIn_r _ [29, 30, 31, 32, 33, 34, 35, 36, 37, 38, 39, 40, 41, 42, 43, 44, 45, 46, 47, 48, 49, 50, 51, 52, 53, 54, 55, 56, 57, 58, 59, 60, 61, 62, 63, 64, 65, 66, 67, 68] (by decide +kernel) (by decide +kernel)
set_option maxRecDepth 20000 in
theorem gX11_makeThird_X11_maskBy : GoodIn wsX11_makeThird (wsV RX11 166 RX11 yX11_maskBy wsX11_maskBy) := goodIn_app (goodIn_of _ (by decide +kernel)) ggX11_makeThird_X11_maskBy
theorem dX11_makeThird_0 : decode cX11_makeThird 0 = .ok (.iconst 0, 1) := by decide +kernel
theorem dX11_makeThird_1 : decode cX11_makeThird 1 = .ok (.istore_n 1, 1) := by decide +kernel
theorem dX11_makeThird_2 : decode cX11_makeThird 2 = .ok (.iload_n 1, 1) := by decide +kernel
theorem dX11_makeThird_3 : decode cX11_makeThird 3 = .ok (.sipush 420, 3) := by decide +kernel
theorem dX11_makeThird_6 : decode cX11_makeThird 6 = .ok (.if_icmp .ge 62, 3) := by decide +kernel
theorem dX11_makeThird_9 : decode cX11_makeThird 9 = .ok (.iconst 0, 1) := by decide +kernel
theorem dX11_makeThird_10 : decode cX11_makeThird 10 = .ok (.istore_n 2, 1) := by decide +kernel
theorem dX11_makeThird_11 : decode cX11_makeThird 11 = .ok (.iload_n 2, 1) := by decide +kernel
theorem dX11_makeThird_12 : decode cX11_makeThird 12 = .ok (.bipush 18, 2) := by decide +kernel
theorem dX11_makeThird_14 : decode cX11_makeThird 14 = .ok (.if_icmp .ge 48, 3) := by decide +kernel
theorem dX11_makeThird_17 : decode cX11_makeThird 17 = .ok (.aload_n 0, 1) := by decide +kernel
theorem dX11_makeThird_18 : decode cX11_makeThird 18 = .ok (.bipush 8, 2) := by decide +kernel
theorem dX11_makeThird_20 : decode cX11_makeThird 20 = .ok (.aload_n 0, 1) := by decide +kernel
theorem dX11_makeThird_21 : decode cX11_makeThird 21 = .ok (.getfield 90, 3) := by decide +kernel
theorem dX11_makeThird_24 : decode cX11_makeThird 24 = .ok (.iload_n 1, 1) := by decide +kernel
theorem dX11_makeThird_25 : decode cX11_makeThird 25 = .ok (.iaload, 1) := by decide +kernel
theorem dX11_makeThird_26 : decode cX11_makeThird 26 = .ok (.invokevirtual 177, 3) := by decide +kernel
theorem dX11_makeThird_29 : decode cX11_makeThird 29 = .ok (.aload_n 0, 1) := by decide +kernel
theorem dX11_makeThird_30 : decode cX11_makeThird 30 = .ok (.iload_n 2, 1) := by decide +kernel
theorem dX11_makeThird_31 : decode cX11_makeThird 31 = .ok (.invokevirtual 181, 3) := by decide +kernel
theorem dX11_makeThird_34 : decode cX11_makeThird 34 = .ok (.aload_n 0, 1) := by decide +kernel
theorem dX11_makeThird_35 : decode cX11_makeThird 35 = .ok (.getfield 106, 3) := by decide +kernel
theorem dX11_makeThird_38 : decode cX11_makeThird 38 = .ok (.bipush 18, 2) := by decide +kernel
theorem dX11_makeThird_40 : decode cX11_makeThird 40 = .ok (.iload_n 1, 1) := by decide +kernel
theorem dX11_makeThird_41 : decode cX11_makeThird 41 = .ok (.imul, 1) := by decide +kernel
theorem dX11_makeThird_42 : decode cX11_makeThird 42 = .ok (.iload_n 2, 1) := by decide +kernel
theorem dX11_makeThird_43 : decode cX11_makeThird 43 = .ok (.iadd, 1) := by decide +kernel
theorem dX11_makeThird_44 : decode cX11_makeThird 44 = .ok (.aload_n 0, 1) := by decide +kernel
theorem dX11_makeThird_45 : decode cX11_makeThird 45 = .ok (.getfield 87, 3) := by decide +kernel
theorem dX11_makeThird_48 : decode cX11_makeThird 48 = .ok (.aload_n 0, 1) := by decide +kernel
theorem dX11_makeThird_49 : decode cX11_makeThird 49 = .ok (.bipush 8, 2) := by decide +kernel
theorem dX11_makeThird_51 : decode cX11_makeThird 51 = .ok (.invokevirtual 184, 3) := by decide +kernel
theorem dX11_makeThird_54 : decode cX11_makeThird 54 = .ok (.saload, 1) := by decide +kernel
theorem dX11_makeThird_55 : decode cX11_makeThird 55 = .ok (.iastore, 1) := by decide +kernel
theorem dX11_makeThird_56 : decode cX11_makeThird 56 = .ok (.iinc 2 1, 3) := by decide +kernel
theorem dX11_makeThird_59 : decode cX11_makeThird 59 = .ok (.goto (-48), 3) := by decide +kernel
theorem dX11_makeThird_62 : decode cX11_makeThird 62 = .ok (.iinc 1 1, 3) := by decide +kernel
theorem dX11_makeThird_65 : decode cX11_makeThird 65 = .ok (.goto (-63), 3) := by decide +kernel
theorem dX11_makeThird_68 : decode cX11_makeThird 68 = .ok (.sipush 29400, 3) := by decide +kernel
theorem dX11_makeThird_71 : decode cX11_makeThird 71 = .ok (.istore_n 1, 1) := by decide +kernel
theorem dX11_makeThird_72 : decode cX11_makeThird 72 = .ok (.iconst 0, 1) := by decide +kernel
theorem dX11_makeThird_73 : decode cX11_makeThird 73 = .ok (.istore_n 2, 1) := by decide +kernel
theorem dX11_makeThird_74 : decode cX11_makeThird 74 = .ok (.iload_n 2, 1) := by decide +kernel
theorem dX11_makeThird_75 : decode cX11_makeThird 75 = .ok (.iload_n 1, 1) := by decide +kernel
theorem dX11_makeThird_76 : decode cX11_makeThird 76 = .ok (.if_icmp .ge 17, 3) := by decide +kernel
theorem dX11_makeThird_79 : decode cX11_makeThird 79 = .ok (.aload_n 0, 1) := by decide +kernel
theorem dX11_makeThird_80 : decode cX11_makeThird 80 = .ok (.getfield 66, 3) := by decide +kernel
theorem dX11_makeThird_83 : decode cX11_makeThird 83 = .ok (.iload_n 2, 1) := by decide +kernel
theorem dX11_makeThird_84 : decode cX11_makeThird 84 = .ok (.bipush 100, 2) := by decide +kernel
theorem dX11_makeThird_86 : decode cX11_makeThird 86 = .ok (.bastore, 1) := by decide +kernel
theorem dX11_makeThird_87 : decode cX11_makeThird 87 = .ok (.iinc 2 1, 3) := by decide +kernel
theorem dX11_makeThird_90 : decode cX11_makeThird 90 = .ok (.goto (-16), 3) := by decide +kernel
theorem dX11_makeThird_93 : decode cX11_makeThird 93 = .ok (.aload_n 0, 1) := by decide +kernel
theorem dX11_makeThird_94 : decode cX11_makeThird 94 = .ok (.getfield 66, 3) := by decide +kernel
theorem dX11_makeThird_97 : decode cX11_makeThird 97 = .ok (.aload_n 0, 1) := by decide +kernel
theorem dX11_makeThird_98 : decode cX11_makeThird 98 = .ok (.getfield 80, 3) := by decide +kernel
theorem dX11_makeThird_101 : decode cX11_makeThird 101 = .ok (.bipush 15, 2) := by decide +kernel
theorem dX11_makeThird_103 : decode cX11_makeThird 103 = .ok (.saload, 1) := by decide +kernel
theorem dX11_makeThird_104 : decode cX11_makeThird 104 = .ok (.iconst 0, 1) := by decide +kernel
theorem dX11_makeThird_105 : decode cX11_makeThird 105 = .ok (.bastore, 1) := by decide +kernel
theorem dX11_makeThird_106 : decode cX11_makeThird 106 = .ok (.iconst 1, 1) := by decide +kernel
theorem dX11_makeThird_107 : decode cX11_makeThird 107 = .ok (.istore_n 2, 1) := by decide +kernel
theorem dX11_makeThird_108 : decode cX11_makeThird 108 = .ok (.iconst 0, 1) := by decide +kernel
theorem dX11_makeThird_109 : decode cX11_makeThird 109 = .ok (.istore_n 3, 1) := by decide +kernel
theorem dX11_makeThird_110 : decode cX11_makeThird 110 = .ok (.iload_n 2, 1) := by decide +kernel
theorem dX11_makeThird_111 : decode cX11_makeThird 111 = .ok (.ifCond .eq 132, 3) := by decide +kernel
theorem dX11_makeThird_114 : decode cX11_makeThird 114 = .ok (.iconst 0, 1) := by decide +kernel
theorem dX11_makeThird_115 : decode cX11_makeThird 115 = .ok (.istore_n 2, 1) := by decide +kernel
theorem dX11_makeThird_116 : decode cX11_makeThird 116 = .ok (.iconst 0, 1) := by decide +kernel
theorem dX11_makeThird_117 : decode cX11_makeThird 117 = .ok (.istore 4, 2) := by decide +kernel
end
section
theorem dX11_makeThird_119 : decode cX11_makeThird 119 = .ok (.iload 4, 2) := by decide +kernel
theorem dX11_makeThird_121 : decode cX11_makeThird 121 = .ok (.iload_n 1, 1) := by decide +kernel
theorem dX11_makeThird_122 : decode cX11_makeThird 122 = .ok (.if_icmp .ge 115, 3) := by decide +kernel
theorem dX11_makeThird_125 : decode cX11_makeThird 125 = .ok (.iconst 0, 1) := by decide +kernel
theorem dX11_makeThird_126 : decode cX11_makeThird 126 = .ok (.istore 5, 2) := by decide +kernel
theorem dX11_makeThird_128 : decode cX11_makeThird 128 = .ok (.iload 5, 2) := by decide +kernel
theorem dX11_makeThird_130 : decode cX11_makeThird 130 = .ok (.bipush 18, 2) := by decide +kernel
theorem dX11_makeThird_132 : decode cX11_makeThird 132 = .ok (.if_icmp .ge 99, 3) := by decide +kernel
theorem dX11_makeThird_135 : decode cX11_makeThird 135 = .ok (.aload_n 0, 1) := by decide +kernel
theorem dX11_makeThird_136 : decode cX11_makeThird 136 = .ok (.getfield 66, 3) := by decide +kernel
theorem dX11_makeThird_139 : decode cX11_makeThird 139 = .ok (.iload 4, 2) := by decide +kernel
theorem dX11_makeThird_141 : decode cX11_makeThird 141 = .ok (.baload, 1) := by decide +kernel
theorem dX11_makeThird_142 : decode cX11_makeThird 142 = .ok (.iload_n 3, 1) := by decide +kernel
theorem dX11_makeThird_143 : decode cX11_makeThird 143 = .ok (.if_icmp .ne 88, 3) := by decide +kernel
theorem dX11_makeThird_146 : decode cX11_makeThird 146 = .ok (.iconst 2, 1) := by decide +kernel
theorem dX11_makeThird_147 : decode cX11_makeThird 147 = .ok (.iload 5, 2) := by decide +kernel
theorem dX11_makeThird_149 : decode cX11_makeThird 149 = .ok (.invokestatic 174, 3) := by decide +kernel
theorem dX11_makeThird_152 : decode cX11_makeThird 152 = .ok (.ifCond .eq 73, 3) := by decide +kernel
theorem dX11_makeThird_155 : decode cX11_makeThird 155 = .ok (.bipush 70, 2) := by decide +kernel
theorem dX11_makeThird_157 : decode cX11_makeThird 157 = .ok (.aload_n 0, 1) := by decide +kernel
theorem dX11_makeThird_158 : decode cX11_makeThird 158 = .ok (.getfield 106, 3) := by decide +kernel
theorem dX11_makeThird_161 : decode cX11_makeThird 161 = .ok (.bipush 18, 2) := by decide +kernel
theorem dX11_makeThird_163 : decode cX11_makeThird 163 = .ok (.iload 4, 2) := by decide +kernel
theorem dX11_makeThird_165 : decode cX11_makeThird 165 = .ok (.bipush 70, 2) := by decide +kernel
theorem dX11_makeThird_167 : decode cX11_makeThird 167 = .ok (.idiv, 1) := by decide +kernel
theorem dX11_makeThird_168 : decode cX11_makeThird 168 = .ok (.imul, 1) := by decide +kernel
theorem dX11_makeThird_169 : decode cX11_makeThird 169 = .ok (.iload 5, 2) := by decide +kernel
theorem dX11_makeThird_171 : decode cX11_makeThird 171 = .ok (.iadd, 1) := by decide +kernel
theorem dX11_makeThird_172 : decode cX11_makeThird 172 = .ok (.iaload, 1) := by decide +kernel
theorem dX11_makeThird_173 : decode cX11_makeThird 173 = .ok (.imul, 1) := by decide +kernel
theorem dX11_makeThird_174 : decode cX11_makeThird 174 = .ok (.aload_n 0, 1) := by decide +kernel
theorem dX11_makeThird_175 : decode cX11_makeThird 175 = .ok (.getfield 80, 3) := by decide +kernel
theorem dX11_makeThird_178 : decode cX11_makeThird 178 = .ok (.aload_n 0, 1) := by decide +kernel
theorem dX11_makeThird_179 : decode cX11_makeThird 179 = .ok (.aload_n 0, 1) := by decide +kernel
theorem dX11_makeThird_180 : decode cX11_makeThird 180 = .ok (.getfield 83, 3) := by decide +kernel
theorem dX11_makeThird_183 : decode cX11_makeThird 183 = .ok (.iload 4, 2) := by decide +kernel
theorem dX11_makeThird_185 : decode cX11_makeThird 185 = .ok (.bipush 70, 2) := by decide +kernel
theorem dX11_makeThird_187 : decode cX11_makeThird 187 = .ok (.irem, 1) := by decide +kernel
theorem dX11_makeThird_188 : decode cX11_makeThird 188 = .ok (.saload, 1) := by decide +kernel
theorem dX11_makeThird_189 : decode cX11_makeThird 189 = .ok (.iload 5, 2) := by decide +kernel
theorem dX11_makeThird_191 : decode cX11_makeThird 191 = .ok (.bipush 8, 2) := by decide +kernel
theorem dX11_makeThird_193 : decode cX11_makeThird 193 = .ok (.invokevirtual 166, 3) := by decide +kernel
theorem dX11_makeThird_196 : decode cX11_makeThird 196 = .ok (.saload, 1) := by decide +kernel
theorem dX11_makeThird_197 : decode cX11_makeThird 197 = .ok (.iadd, 1) := by decide +kernel
theorem dX11_makeThird_198 : decode cX11_makeThird 198 = .ok (.istore 6, 2) := by decide +kernel
theorem dX11_makeThird_200 : decode cX11_makeThird 200 = .ok (.aload_n 0, 1) := by decide +kernel
theorem dX11_makeThird_201 : decode cX11_makeThird 201 = .ok (.getfield 66, 3) := by decide +kernel
theorem dX11_makeThird_204 : decode cX11_makeThird 204 = .ok (.iload 6, 2) := by decide +kernel
theorem dX11_makeThird_206 : decode cX11_makeThird 206 = .ok (.baload, 1) := by decide +kernel
theorem dX11_makeThird_207 : decode cX11_makeThird 207 = .ok (.bipush 100, 2) := by decide +kernel
theorem dX11_makeThird_209 : decode cX11_makeThird 209 = .ok (.if_icmp .ne 16, 3) := by decide +kernel
theorem dX11_makeThird_212 : decode cX11_makeThird 212 = .ok (.aload_n 0, 1) := by decide +kernel
theorem dX11_makeThird_213 : decode cX11_makeThird 213 = .ok (.getfield 66, 3) := by decide +kernel
theorem dX11_makeThird_216 : decode cX11_makeThird 216 = .ok (.iload 6, 2) := by decide +kernel
theorem dX11_makeThird_218 : decode cX11_makeThird 218 = .ok (.iload_n 3, 1) := by decide +kernel
theorem dX11_makeThird_219 : decode cX11_makeThird 219 = .ok (.iconst 1, 1) := by decide +kernel
theorem dX11_makeThird_220 : decode cX11_makeThird 220 = .ok (.iadd, 1) := by decide +kernel
theorem dX11_makeThird_221 : decode cX11_makeThird 221 = .ok (.i2b, 1) := by decide +kernel
theorem dX11_makeThird_222 : decode cX11_makeThird 222 = .ok (.bastore, 1) := by decide +kernel
theorem dX11_makeThird_223 : decode cX11_makeThird 223 = .ok (.iconst 1, 1) := by decide +kernel
theorem dX11_makeThird_224 : decode cX11_makeThird 224 = .ok (.istore_n 2, 1) := by decide +kernel
theorem dX11_makeThird_225 : decode cX11_makeThird 225 = .ok (.iinc 5 1, 3) := by decide +kernel
theorem dX11_makeThird_228 : decode cX11_makeThird 228 = .ok (.goto (-100), 3) := by decide +kernel
theorem dX11_makeThird_231 : decode cX11_makeThird 231 = .ok (.iinc 4 1, 3) := by decide +kernel
theorem dX11_makeThird_234 : decode cX11_makeThird 234 = .ok (.goto (-115), 3) := by decide +kernel
theorem dX11_makeThird_237 : decode cX11_makeThird 237 = .ok (.iinc 3 1, 3) := by decide +kernel
theorem dX11_makeThird_240 : decode cX11_makeThird 240 = .ok (.goto (-130), 3) := by decide +kernel
theorem dX11_makeThird_243 : decode cX11_makeThird 243 = .ok (.return_, 1) := by decide +kernel
set_option maxRecDepth 20000 in
theorem ggX11_makeFourth_X11_unrank : GoodIn wsX11_makeFourth wsX11_unrank := goodIn_r _ [13, 2, 27, 28, 29, 30, 31, 32, 33, 34, 35, 36, 37, 38, 39, 40, 41, 42, 43, 44, 45, 46, 47, 48, 49, 50, 51, 52, 53, 54, 55, 56, 57, 58, 59, 60, 61, 62, 63, 64] (by decide +kernel) (by decide +kernel)
set_option maxRecDepth 20000 in
theorem gX11_makeFourth_X11_unrank : GoodIn wsX11_makeFourth (wsV RX11 177 RX11 yX11_unrank wsX11_unrank) := goodIn_app (goodIn_of _ (by decide +kernel)) ggX11_makeFourth_X11_unrank
set_option maxRecDepth 20000 in
theorem ggX11_makeFourth_X11_rank : GoodIn wsX11_makeFourth wsX11_rank := goodIn_r _ [17, 2, 27, 28, 29, 30, 31, 32, 33, 34, 35, 36, 37, 38, 39, 40, 41, 42, 43, 44, 45, 46, 47, 48, 49, 50, 51, 52, 53, 54, 55, 56, 57, 58, 59, 60, 61, 62, 63, 64] (by decide +kernel) (by decide +kernel)
set_option maxRecDepth 20000 in
theorem gX11_makeFourth_X11_rank : GoodIn wsX11_makeFourth (wsV RX11 184 RX11 yX11_rank wsX11_rank) := goodIn_app (goodIn_of _ (by decide +kernel)) ggX11_makeFourth_X11_rank
set_option maxRecDepth 20000 in
theorem ggX11_makeFourth_X11_turnRow : GoodIn wsX11_makeFourth wsX11_turnRow := goodIn_r _ [21, 1, 2, 22, 27, 28, 29, 30, 31, 32, 33, 34, 35, 36, 37, 38, 39, 40, 41, 42, 43, 44, 45, 46, 47, 48, 49, 50, 51, 52, 53, 54, 55, 56, 57, 58, 59, 60, 61, 62, 63, 64] (by decide +kernel) (by decide +kernel)
set_option maxRecDepth 20000 in
theorem gX11_makeFourth_X11_turnRow : GoodIn wsX11_makeFourth (wsV RX11 181 RX11 yX11_turnRow wsX11_turnRow) := goodIn_app (goodIn_of _ (by decide +kernel)) ggX11_makeFourth_X11_turnRow
set_option maxRecDepth 20000 in
theorem ggX11_makeFourth_X11_spread4 : GoodIn wsX11_makeFourth wsX11_spread4 := goodIn_r _ [26, 4, 8, 27, 28, 29, 30, 31, 32, 33, 34, 35, 36, 37, 38, 39, 40, 41, 42, 43, 44, 45, 46, 47, 48, 49, 50, 51, 52, 53, 54, 55, 56, 57, 58, 59, 60, 61, 62, 63, 64] (by decide +kernel) (by decide +kernel)
set_option maxRecDepth 20000 in
theorem gX11_makeFourth_X11_spread4 : GoodIn wsX11_makeFourth (wsV RX11 190 RX11 yX11_spread4 wsX11_spread4) := goodIn_app (goodIn_of _ (by decide +kernel)) ggX11_makeFourth_X11_spread4
theorem dX11_makeFourth_0 : decode cX11_makeFourth 0 = .ok (.iconst 0, 1) := by decide +kernel
theorem dX11_makeFourth_1 : decode cX11_makeFourth 1 = .ok (.istore_n 1, 1) := by decide +kernel
theorem dX11_makeFourth_2 : decode cX11_makeFourth 2 = .ok (.iload_n 1, 1) := by decide +kernel
theorem dX11_makeFourth_3 : decode cX11_makeFourth 3 = .ok (.iconst 3, 1) := by decide +kernel
theorem dX11_makeFourth_4 : decode cX11_makeFourth 4 = .ok (.if_icmp .ge 144, 3) := by decide +kernel
theorem dX11_makeFourth_7 : decode cX11_makeFourth 7 = .ok (.iconst 0, 1) := by decide +kernel
theorem dX11_makeFourth_8 : decode cX11_makeFourth 8 = .ok (.istore_n 2, 1) := by decide +kernel
theorem dX11_makeFourth_9 : decode cX11_makeFourth 9 = .ok (.iload_n 2, 1) := by decide +kernel
theorem dX11_makeFourth_10 : decode cX11_makeFourth 10 = .ok (.bipush 24, 2) := by decide +kernel
theorem dX11_makeFourth_12 : decode cX11_makeFourth 12 = .ok (.if_icmp .ge 130, 3) := by decide +kernel
theorem dX11_makeFourth_15 : decode cX11_makeFourth 15 = .ok (.iconst 0, 1) := by decide +kernel
theorem dX11_makeFourth_16 : decode cX11_makeFourth 16 = .ok (.istore_n 3, 1) := by decide +kernel
theorem dX11_makeFourth_17 : decode cX11_makeFourth 17 = .ok (.iload_n 3, 1) := by decide +kernel
theorem dX11_makeFourth_18 : decode cX11_makeFourth 18 = .ok (.bipush 6, 2) := by decide +kernel
theorem dX11_makeFourth_20 : decode cX11_makeFourth 20 = .ok (.if_icmp .ge 116, 3) := by decide +kernel
theorem dX11_makeFourth_23 : decode cX11_makeFourth 23 = .ok (.aload_n 0, 1) := by decide +kernel
theorem dX11_makeFourth_24 : decode cX11_makeFourth 24 = .ok (.iconst 4, 1) := by decide +kernel
theorem dX11_makeFourth_25 : decode cX11_makeFourth 25 = .ok (.iload_n 2, 1) := by decide +kernel
theorem dX11_makeFourth_26 : decode cX11_makeFourth 26 = .ok (.invokevirtual 177, 3) := by decide +kernel
theorem dX11_makeFourth_29 : decode cX11_makeFourth 29 = .ok (.iconst 0, 1) := by decide +kernel
theorem dX11_makeFourth_30 : decode cX11_makeFourth 30 = .ok (.istore 4, 2) := by decide +kernel
theorem dX11_makeFourth_32 : decode cX11_makeFourth 32 = .ok (.iload 4, 2) := by decide +kernel
theorem dX11_makeFourth_34 : decode cX11_makeFourth 34 = .ok (.iconst 4, 1) := by decide +kernel
theorem dX11_makeFourth_35 : decode cX11_makeFourth 35 = .ok (.if_icmp .ge 23, 3) := by decide +kernel
theorem dX11_makeFourth_38 : decode cX11_makeFourth 38 = .ok (.aload_n 0, 1) := by decide +kernel
theorem dX11_makeFourth_39 : decode cX11_makeFourth 39 = .ok (.getfield 115, 3) := by decide +kernel
theorem dX11_makeFourth_42 : decode cX11_makeFourth 42 = .ok (.iload 4, 2) := by decide +kernel
theorem dX11_makeFourth_44 : decode cX11_makeFourth 44 = .ok (.aload_n 0, 1) := by decide +kernel
theorem dX11_makeFourth_45 : decode cX11_makeFourth 45 = .ok (.getfield 112, 3) := by decide +kernel
theorem dX11_makeFourth_48 : decode cX11_makeFourth 48 = .ok (.iload 4, 2) := by decide +kernel
theorem dX11_makeFourth_50 : decode cX11_makeFourth 50 = .ok (.iaload, 1) := by decide +kernel
theorem dX11_makeFourth_51 : decode cX11_makeFourth 51 = .ok (.iastore, 1) := by decide +kernel
theorem dX11_makeFourth_52 : decode cX11_makeFourth 52 = .ok (.iinc 4 1, 3) := by decide +kernel
theorem dX11_makeFourth_55 : decode cX11_makeFourth 55 = .ok (.goto (-23), 3) := by decide +kernel
theorem dX11_makeFourth_58 : decode cX11_makeFourth 58 = .ok (.iconst 0, 1) := by decide +kernel
theorem dX11_makeFourth_59 : decode cX11_makeFourth 59 = .ok (.istore 4, 2) := by decide +kernel
theorem dX11_makeFourth_61 : decode cX11_makeFourth 61 = .ok (.iload 4, 2) := by decide +kernel
theorem dX11_makeFourth_63 : decode cX11_makeFourth 63 = .ok (.iconst 4, 1) := by decide +kernel
theorem dX11_makeFourth_64 : decode cX11_makeFourth 64 = .ok (.if_icmp .ge 45, 3) := by decide +kernel
theorem dX11_makeFourth_67 : decode cX11_makeFourth 67 = .ok (.aload_n 0, 1) := by decide +kernel
theorem dX11_makeFourth_68 : decode cX11_makeFourth 68 = .ok (.getfield 112, 3) := by decide +kernel
theorem dX11_makeFourth_71 : decode cX11_makeFourth 71 = .ok (.iload 4, 2) := by decide +kernel
theorem dX11_makeFourth_73 : decode cX11_makeFourth 73 = .ok (.aload_n 0, 1) := by decide +kernel
theorem dX11_makeFourth_74 : decode cX11_makeFourth 74 = .ok (.getfield 115, 3) := by decide +kernel
theorem dX11_makeFourth_77 : decode cX11_makeFourth 77 = .ok (.aload_n 0, 1) := by decide +kernel
theorem dX11_makeFourth_78 : decode cX11_makeFourth 78 = .ok (.getfield 46, 3) := by decide +kernel
theorem dX11_makeFourth_81 : decode cX11_makeFourth 81 = .ok (.bipush 12, 2) := by decide +kernel
theorem dX11_makeFourth_83 : decode cX11_makeFourth 83 = .ok (.iconst 3, 1) := by decide +kernel
theorem dX11_makeFourth_84 : decode cX11_makeFourth 84 = .ok (.iload_n 3, 1) := by decide +kernel
theorem dX11_makeFourth_85 : decode cX11_makeFourth 85 = .ok (.imul, 1) := by decide +kernel
theorem dX11_makeFourth_86 : decode cX11_makeFourth 86 = .ok (.iconst 1, 1) := by decide +kernel
theorem dX11_makeFourth_87 : decode cX11_makeFourth 87 = .ok (.iadd, 1) := by decide +kernel
theorem dX11_makeFourth_88 : decode cX11_makeFourth 88 = .ok (.imul, 1) := by decide +kernel
theorem dX11_makeFourth_89 : decode cX11_makeFourth 89 = .ok (.iconst 4, 1) := by decide +kernel
theorem dX11_makeFourth_90 : decode cX11_makeFourth 90 = .ok (.iload_n 1, 1) := by decide +kernel
theorem dX11_makeFourth_91 : decode cX11_makeFourth 91 = .ok (.imul, 1) := by decide +kernel
theorem dX11_makeFourth_92 : decode cX11_makeFourth 92 = .ok (.iadd, 1) := by decide +kernel
theorem dX11_makeFourth_93 : decode cX11_makeFourth 93 = .ok (.iload 4, 2) := by decide +kernel
theorem dX11_makeFourth_95 : decode cX11_makeFourth 95 = .ok (.iadd, 1) := by decide +kernel
theorem dX11_makeFourth_96 : decode cX11_makeFourth 96 = .ok (.iaload, 1) := by decide +kernel
theorem dX11_makeFourth_97 : decode cX11_makeFourth 97 = .ok (.iconst 4, 1) := by decide +kernel
theorem dX11_makeFourth_98 : decode cX11_makeFourth 98 = .ok (.iload_n 1, 1) := by decide +kernel
theorem dX11_makeFourth_99 : decode cX11_makeFourth 99 = .ok (.imul, 1) := by decide +kernel
theorem dX11_makeFourth_100 : decode cX11_makeFourth 100 = .ok (.isub, 1) := by decide +kernel
theorem dX11_makeFourth_101 : decode cX11_makeFourth 101 = .ok (.iaload, 1) := by decide +kernel
theorem dX11_makeFourth_102 : decode cX11_makeFourth 102 = .ok (.iastore, 1) := by decide +kernel
theorem dX11_makeFourth_103 : decode cX11_makeFourth 103 = .ok (.iinc 4 1, 3) := by decide +kernel
theorem dX11_makeFourth_106 : decode cX11_makeFourth 106 = .ok (.goto (-45), 3) := by decide +kernel
theorem dX11_makeFourth_109 : decode cX11_makeFourth 109 = .ok (.aload_n 0, 1) := by decide +kernel
theorem dX11_makeFourth_110 : decode cX11_makeFourth 110 = .ok (.getfield 109, 3) := by decide +kernel
theorem dX11_makeFourth_113 : decode cX11_makeFourth 113 = .ok (.bipush 6, 2) := by decide +kernel
theorem dX11_makeFourth_115 : decode cX11_makeFourth 115 = .ok (.bipush 24, 2) := by decide +kernel
theorem dX11_makeFourth_117 : decode cX11_makeFourth 117 = .ok (.iload_n 1, 1) := by decide +kernel
theorem dX11_makeFourth_118 : decode cX11_makeFourth 118 = .ok (.imul, 1) := by decide +kernel
theorem dX11_makeFourth_119 : decode cX11_makeFourth 119 = .ok (.iload_n 2, 1) := by decide +kernel
theorem dX11_makeFourth_120 : decode cX11_makeFourth 120 = .ok (.iadd, 1) := by decide +kernel
theorem dX11_makeFourth_121 : decode cX11_makeFourth 121 = .ok (.imul, 1) := by decide +kernel
theorem dX11_makeFourth_122 : decode cX11_makeFourth 122 = .ok (.iload_n 3, 1) := by decide +kernel
theorem dX11_makeFourth_123 : decode cX11_makeFourth 123 = .ok (.iadd, 1) := by decide +kernel
theorem dX11_makeFourth_124 : decode cX11_makeFourth 124 = .ok (.aload_n 0, 1) := by decide +kernel
theorem dX11_makeFourth_125 : decode cX11_makeFourth 125 = .ok (.iconst 4, 1) := by decide +kernel
theorem dX11_makeFourth_126 : decode cX11_makeFourth 126 = .ok (.invokevirtual 184, 3) := by decide +kernel
theorem dX11_makeFourth_129 : decode cX11_makeFourth 129 = .ok (.iastore, 1) := by decide +kernel
theorem dX11_makeFourth_130 : decode cX11_makeFourth 130 = .ok (.iinc 3 1, 3) := by decide +kernel
theorem dX11_makeFourth_133 : decode cX11_makeFourth 133 = .ok (.goto (-116), 3) := by decide +kernel
theorem dX11_makeFourth_136 : decode cX11_makeFourth 136 = .ok (.iinc 2 1, 3) := by decide +kernel
theorem dX11_makeFourth_139 : decode cX11_makeFourth 139 = .ok (.goto (-130), 3) := by decide +kernel
theorem dX11_makeFourth_142 : decode cX11_makeFourth 142 = .ok (.iinc 1 1, 3) := by decide +kernel
theorem dX11_makeFourth_145 : decode cX11_makeFourth 145 = .ok (.goto (-143), 3) := by decide +kernel
theorem dX11_makeFourth_148 : decode cX11_makeFourth 148 = .ok (.iconst 0, 1) := by decide +kernel
theorem dX11_makeFourth_149 : decode cX11_makeFourth 149 = .ok (.istore_n 1, 1) := by decide +kernel
theorem dX11_makeFourth_150 : decode cX11_makeFourth 150 = .ok (.iload_n 1, 1) := by decide +kernel
theorem dX11_makeFourth_151 : decode cX11_makeFourth 151 = .ok (.bipush 96, 2) := by decide +kernel
theorem dX11_makeFourth_153 : decode cX11_makeFourth 153 = .ok (.if_icmp .ge 69, 3) := by decide +kernel
theorem dX11_makeFourth_156 : decode cX11_makeFourth 156 = .ok (.iconst 0, 1) := by decide +kernel
theorem dX11_makeFourth_157 : decode cX11_makeFourth 157 = .ok (.istore_n 2, 1) := by decide +kernel
theorem dX11_makeFourth_158 : decode cX11_makeFourth 158 = .ok (.iload_n 2, 1) := by decide +kernel
theorem dX11_makeFourth_159 : decode cX11_makeFourth 159 = .ok (.bipush 6, 2) := by decide +kernel
theorem dX11_makeFourth_161 : decode cX11_makeFourth 161 = .ok (.if_icmp .ge 55, 3) := by decide +kernel
theorem dX11_makeFourth_164 : decode cX11_makeFourth 164 = .ok (.aload_n 0, 1) := by decide +kernel
theorem dX11_makeFourth_165 : decode cX11_makeFourth 165 = .ok (.bipush 8, 2) := by decide +kernel
theorem dX11_makeFourth_167 : decode cX11_makeFourth 167 = .ok (.aload_n 0, 1) := by decide +kernel
theorem dX11_makeFourth_168 : decode cX11_makeFourth 168 = .ok (.getfield 96, 3) := by decide +kernel
theorem dX11_makeFourth_171 : decode cX11_makeFourth 171 = .ok (.iload_n 1, 1) := by decide +kernel
theorem dX11_makeFourth_172 : decode cX11_makeFourth 172 = .ok (.iaload, 1) := by decide +kernel
theorem dX11_makeFourth_173 : decode cX11_makeFourth 173 = .ok (.invokevirtual 177, 3) := by decide +kernel
theorem dX11_makeFourth_176 : decode cX11_makeFourth 176 = .ok (.aload_n 0, 1) := by decide +kernel
theorem dX11_makeFourth_177 : decode cX11_makeFourth 177 = .ok (.iconst 3, 1) := by decide +kernel
theorem dX11_makeFourth_178 : decode cX11_makeFourth 178 = .ok (.iload_n 2, 1) := by decide +kernel
theorem dX11_makeFourth_179 : decode cX11_makeFourth 179 = .ok (.imul, 1) := by decide +kernel
theorem dX11_makeFourth_180 : decode cX11_makeFourth 180 = .ok (.iconst 1, 1) := by decide +kernel
theorem dX11_makeFourth_181 : decode cX11_makeFourth 181 = .ok (.iadd, 1) := by decide +kernel
theorem dX11_makeFourth_182 : decode cX11_makeFourth 182 = .ok (.invokevirtual 181, 3) := by decide +kernel
theorem dX11_makeFourth_185 : decode cX11_makeFourth 185 = .ok (.aload_n 0, 1) := by decide +kernel
theorem dX11_makeFourth_186 : decode cX11_makeFourth 186 = .ok (.getfield 109, 3) := by decide +kernel
theorem dX11_makeFourth_189 : decode cX11_makeFourth 189 = .ok (.bipush 6, 2) := by decide +kernel
theorem dX11_makeFourth_191 : decode cX11_makeFourth 191 = .ok (.bipush 72, 2) := by decide +kernel
theorem dX11_makeFourth_193 : decode cX11_makeFourth 193 = .ok (.iload_n 1, 1) := by decide +kernel
theorem dX11_makeFourth_194 : decode cX11_makeFourth 194 = .ok (.iadd, 1) := by decide +kernel
theorem dX11_makeFourth_195 : decode cX11_makeFourth 195 = .ok (.imul, 1) := by decide +kernel
theorem dX11_makeFourth_196 : decode cX11_makeFourth 196 = .ok (.iload_n 2, 1) := by decide +kernel
theorem dX11_makeFourth_197 : decode cX11_makeFourth 197 = .ok (.iadd, 1) := by decide +kernel
theorem dX11_makeFourth_198 : decode cX11_makeFourth 198 = .ok (.aload_n 0, 1) := by decide +kernel
theorem dX11_makeFourth_199 : decode cX11_makeFourth 199 = .ok (.getfield 93, 3) := by decide +kernel
theorem dX11_makeFourth_202 : decode cX11_makeFourth 202 = .ok (.aload_n 0, 1) := by decide +kernel
theorem dX11_makeFourth_203 : decode cX11_makeFourth 203 = .ok (.bipush 8, 2) := by decide +kernel
theorem dX11_makeFourth_205 : decode cX11_makeFourth 205 = .ok (.invokevirtual 184, 3) := by decide +kernel
theorem dX11_makeFourth_208 : decode cX11_makeFourth 208 = .ok (.saload, 1) := by decide +kernel
theorem dX11_makeFourth_209 : decode cX11_makeFourth 209 = .ok (.iastore, 1) := by decide +kernel
theorem dX11_makeFourth_210 : decode cX11_makeFourth 210 = .ok (.iinc 2 1, 3) := by decide +kernel
theorem dX11_makeFourth_213 : decode cX11_makeFourth 213 = .ok (.goto (-55), 3) := by decide +kernel
theorem dX11_makeFourth_216 : decode cX11_makeFourth 216 = .ok (.iinc 1 1, 3) := by decide +kernel
theorem dX11_makeFourth_219 : decode cX11_makeFourth 219 = .ok (.goto (-69), 3) := by decide +kernel
theorem dX11_makeFourth_222 : decode cX11_makeFourth 222 = .ok (.ldc 69, 2) := by decide +kernel
theorem dX11_makeFourth_224 : decode cX11_makeFourth 224 = .ok (.istore_n 1, 1) := by decide +kernel
theorem dX11_makeFourth_225 : decode cX11_makeFourth 225 = .ok (.iconst 0, 1) := by decide +kernel
theorem dX11_makeFourth_226 : decode cX11_makeFourth 226 = .ok (.istore_n 2, 1) := by decide +kernel
theorem dX11_makeFourth_227 : decode cX11_makeFourth 227 = .ok (.iload_n 2, 1) := by decide +kernel
theorem dX11_makeFourth_228 : decode cX11_makeFourth 228 = .ok (.iload_n 1, 1) := by decide +kernel
theorem dX11_makeFourth_229 : decode cX11_makeFourth 229 = .ok (.if_icmp .ge 17, 3) := by decide +kernel
theorem dX11_makeFourth_232 : decode cX11_makeFourth 232 = .ok (.aload_n 0, 1) := by decide +kernel
theorem dX11_makeFourth_233 : decode cX11_makeFourth 233 = .ok (.getfield 70, 3) := by decide +kernel
theorem dX11_makeFourth_236 : decode cX11_makeFourth 236 = .ok (.iload_n 2, 1) := by decide +kernel
theorem dX11_makeFourth_237 : decode cX11_makeFourth 237 = .ok (.bipush 100, 2) := by decide +kernel
theorem dX11_makeFourth_239 : decode cX11_makeFourth 239 = .ok (.bastore, 1) := by decide +kernel
theorem dX11_makeFourth_240 : decode cX11_makeFourth 240 = .ok (.iinc 2 1, 3) := by decide +kernel
theorem dX11_makeFourth_243 : decode cX11_makeFourth 243 = .ok (.goto (-16), 3) := by decide +kernel
theorem dX11_makeFourth_246 : decode cX11_makeFourth 246 = .ok (.aload_n 0, 1) := by decide +kernel
theorem dX11_makeFourth_247 : decode cX11_makeFourth 247 = .ok (.getfield 70, 3) := by decide +kernel
theorem dX11_makeFourth_250 : decode cX11_makeFourth 250 = .ok (.iconst 0, 1) := by decide +kernel
theorem dX11_makeFourth_251 : decode cX11_makeFourth 251 = .ok (.iconst 0, 1) := by decide +kernel
theorem dX11_makeFourth_252 : decode cX11_makeFourth 252 = .ok (.bastore, 1) := by decide +kernel
theorem dX11_makeFourth_253 : decode cX11_makeFourth 253 = .ok (.iconst 1, 1) := by decide +kernel
theorem dX11_makeFourth_254 : decode cX11_makeFourth 254 = .ok (.istore_n 2, 1) := by decide +kernel
theorem dX11_makeFourth_255 : decode cX11_makeFourth 255 = .ok (.iconst 0, 1) := by decide +kernel
theorem dX11_makeFourth_256 : decode cX11_makeFourth 256 = .ok (.istore_n 3, 1) := by decide +kernel
theorem dX11_makeFourth_257 : decode cX11_makeFourth 257 = .ok (.iload_n 2, 1) := by decide +kernel
theorem dX11_makeFourth_258 : decode cX11_makeFourth 258 = .ok (.ifCond .eq 57, 3) := by decide +kernel
theorem dX11_makeFourth_261 : decode cX11_makeFourth 261 = .ok (.iconst 0, 1) := by decide +kernel
theorem dX11_makeFourth_262 : decode cX11_makeFourth 262 = .ok (.istore_n 2, 1) := by decide +kernel
theorem dX11_makeFourth_263 : decode cX11_makeFourth 263 = .ok (.iconst 0, 1) := by decide +kernel
theorem dX11_makeFourth_264 : decode cX11_makeFourth 264 = .ok (.istore 4, 2) := by decide +kernel
theorem dX11_makeFourth_266 : decode cX11_makeFourth 266 = .ok (.iload 4, 2) := by decide +kernel
theorem dX11_makeFourth_268 : decode cX11_makeFourth 268 = .ok (.iload_n 1, 1) := by decide +kernel
theorem dX11_makeFourth_269 : decode cX11_makeFourth 269 = .ok (.if_icmp .ge 40, 3) := by decide +kernel
theorem dX11_makeFourth_272 : decode cX11_makeFourth 272 = .ok (.aload_n 0, 1) := by decide +kernel
theorem dX11_makeFourth_273 : decode cX11_makeFourth 273 = .ok (.getfield 70, 3) := by decide +kernel
theorem dX11_makeFourth_276 : decode cX11_makeFourth 276 = .ok (.iload 4, 2) := by decide +kernel
theorem dX11_makeFourth_278 : decode cX11_makeFourth 278 = .ok (.baload, 1) := by decide +kernel
theorem dX11_makeFourth_279 : decode cX11_makeFourth 279 = .ok (.iload_n 3, 1) := by decide +kernel
theorem dX11_makeFourth_280 : decode cX11_makeFourth 280 = .ok (.if_icmp .ne 23, 3) := by decide +kernel
theorem dX11_makeFourth_283 : decode cX11_makeFourth 283 = .ok (.aload_n 0, 1) := by decide +kernel
theorem dX11_makeFourth_284 : decode cX11_makeFourth 284 = .ok (.iload 4, 2) := by decide +kernel
theorem dX11_makeFourth_286 : decode cX11_makeFourth 286 = .ok (.iload_n 3, 1) := by decide +kernel
theorem dX11_makeFourth_287 : decode cX11_makeFourth 287 = .ok (.invokevirtual 190, 3) := by decide +kernel
theorem dX11_makeFourth_290 : decode cX11_makeFourth 290 = .ok (.ifCond .ne 7, 3) := by decide +kernel
theorem dX11_makeFourth_293 : decode cX11_makeFourth 293 = .ok (.iload_n 2, 1) := by decide +kernel
theorem dX11_makeFourth_294 : decode cX11_makeFourth 294 = .ok (.ifCond .eq 7, 3) := by decide +kernel
theorem dX11_makeFourth_297 : decode cX11_makeFourth 297 = .ok (.iconst 1, 1) := by decide +kernel
theorem dX11_makeFourth_298 : decode cX11_makeFourth 298 = .ok (.goto 4, 3) := by decide +kernel
theorem dX11_makeFourth_301 : decode cX11_makeFourth 301 = .ok (.iconst 0, 1) := by decide +kernel
theorem dX11_makeFourth_302 : decode cX11_makeFourth 302 = .ok (.istore_n 2, 1) := by decide +kernel
theorem dX11_makeFourth_303 : decode cX11_makeFourth 303 = .ok (.iinc 4 1, 3) := by decide +kernel
theorem dX11_makeFourth_306 : decode cX11_makeFourth 306 = .ok (.goto (-40), 3) := by decide +kernel
theorem dX11_makeFourth_309 : decode cX11_makeFourth 309 = .ok (.iinc 3 1, 3) := by decide +kernel
theorem dX11_makeFourth_312 : decode cX11_makeFourth 312 = .ok (.goto (-55), 3) := by decide +kernel
theorem dX11_makeFourth_315 : decode cX11_makeFourth 315 = .ok (.return_, 1) := by decide +kernel
theorem dX11_spread4_0 : decode cX11_spread4 0 = .ok (.iconst 0, 1) := by decide +kernel
theorem dX11_spread4_1 : decode cX11_spread4 1 = .ok (.istore_n 3, 1) := by decide +kernel
theorem dX11_spread4_2 : decode cX11_spread4 2 = .ok (.iconst 0, 1) := by decide +kernel
theorem dX11_spread4_3 : decode cX11_spread4 3 = .ok (.istore 4, 2) := by decide +kernel
theorem dX11_spread4_5 : decode cX11_spread4 5 = .ok (.iload 4, 2) := by decide +kernel
theorem dX11_spread4_7 : decode cX11_spread4 7 = .ok (.bipush 6, 2) := by decide +kernel
theorem dX11_spread4_9 : decode cX11_spread4 9 = .ok (.if_icmp .ge 141, 3) := by decide +kernel
theorem dX11_spread4_12 : decode cX11_spread4 12 = .ok (.aload_n 0, 1) := by decide +kernel
theorem dX11_spread4_13 : decode cX11_spread4 13 = .ok (.getfield 109, 3) := by decide +kernel
theorem dX11_spread4_16 : decode cX11_spread4 16 = .ok (.bipush 6, 2) := by decide +kernel
theorem dX11_spread4_18 : decode cX11_spread4 18 = .ok (.bipush 72, 2) := by decide +kernel
theorem dX11_spread4_20 : decode cX11_spread4 20 = .ok (.iload_n 1, 1) := by decide +kernel
theorem dX11_spread4_21 : decode cX11_spread4 21 = .ok (.sipush 13824, 3) := by decide +kernel
theorem dX11_spread4_24 : decode cX11_spread4 24 = .ok (.idiv, 1) := by decide +kernel
theorem dX11_spread4_25 : decode cX11_spread4 25 = .ok (.iadd, 1) := by decide +kernel
theorem dX11_spread4_26 : decode cX11_spread4 26 = .ok (.imul, 1) := by decide +kernel
theorem dX11_spread4_27 : decode cX11_spread4 27 = .ok (.iload 4, 2) := by decide +kernel
theorem dX11_spread4_29 : decode cX11_spread4 29 = .ok (.iadd, 1) := by decide +kernel
theorem dX11_spread4_30 : decode cX11_spread4 30 = .ok (.iaload, 1) := by decide +kernel
theorem dX11_spread4_31 : decode cX11_spread4 31 = .ok (.istore 5, 2) := by decide +kernel
theorem dX11_spread4_33 : decode cX11_spread4 33 = .ok (.aload_n 0, 1) := by decide +kernel
theorem dX11_spread4_34 : decode cX11_spread4 34 = .ok (.getfield 109, 3) := by decide +kernel
theorem dX11_spread4_37 : decode cX11_spread4 37 = .ok (.bipush 6, 2) := by decide +kernel
theorem dX11_spread4_39 : decode cX11_spread4 39 = .ok (.iload_n 1, 1) := by decide +kernel
theorem dX11_spread4_40 : decode cX11_spread4 40 = .ok (.sipush 576, 3) := by decide +kernel
theorem dX11_spread4_43 : decode cX11_spread4 43 = .ok (.idiv, 1) := by decide +kernel
theorem dX11_spread4_44 : decode cX11_spread4 44 = .ok (.bipush 24, 2) := by decide +kernel
theorem dX11_spread4_46 : decode cX11_spread4 46 = .ok (.irem, 1) := by decide +kernel
theorem dX11_spread4_47 : decode cX11_spread4 47 = .ok (.imul, 1) := by decide +kernel
theorem dX11_spread4_48 : decode cX11_spread4 48 = .ok (.iload 4, 2) := by decide +kernel
theorem dX11_spread4_50 : decode cX11_spread4 50 = .ok (.iadd, 1) := by decide +kernel
theorem dX11_spread4_51 : decode cX11_spread4 51 = .ok (.iaload, 1) := by decide +kernel
theorem dX11_spread4_52 : decode cX11_spread4 52 = .ok (.istore 6, 2) := by decide +kernel
theorem dX11_spread4_54 : decode cX11_spread4 54 = .ok (.aload_n 0, 1) := by decide +kernel
theorem dX11_spread4_55 : decode cX11_spread4 55 = .ok (.getfield 109, 3) := by decide +kernel
theorem dX11_spread4_58 : decode cX11_spread4 58 = .ok (.bipush 6, 2) := by decide +kernel
theorem dX11_spread4_60 : decode cX11_spread4 60 = .ok (.bipush 24, 2) := by decide +kernel
theorem dX11_spread4_62 : decode cX11_spread4 62 = .ok (.iload_n 1, 1) := by decide +kernel
theorem dX11_spread4_63 : decode cX11_spread4 63 = .ok (.bipush 24, 2) := by decide +kernel
theorem dX11_spread4_65 : decode cX11_spread4 65 = .ok (.idiv, 1) := by decide +kernel
theorem dX11_spread4_66 : decode cX11_spread4 66 = .ok (.bipush 24, 2) := by decide +kernel
theorem dX11_spread4_68 : decode cX11_spread4 68 = .ok (.irem, 1) := by decide +kernel
theorem dX11_spread4_69 : decode cX11_spread4 69 = .ok (.iadd, 1) := by decide +kernel
theorem dX11_spread4_70 : decode cX11_spread4 70 = .ok (.imul, 1) := by decide +kernel
theorem dX11_spread4_71 : decode cX11_spread4 71 = .ok (.iload 4, 2) := by decide +kernel
theorem dX11_spread4_73 : decode cX11_spread4 73 = .ok (.iadd, 1) := by decide +kernel
theorem dX11_spread4_74 : decode cX11_spread4 74 = .ok (.iaload, 1) := by decide +kernel
theorem dX11_spread4_75 : decode cX11_spread4 75 = .ok (.istore 7, 2) := by decide +kernel
theorem dX11_spread4_77 : decode cX11_spread4 77 = .ok (.aload_n 0, 1) := by decide +kernel
theorem dX11_spread4_78 : decode cX11_spread4 78 = .ok (.getfield 109, 3) := by decide +kernel
theorem dX11_spread4_81 : decode cX11_spread4 81 = .ok (.bipush 6, 2) := by decide +kernel
theorem dX11_spread4_83 : decode cX11_spread4 83 = .ok (.bipush 48, 2) := by decide +kernel
theorem dX11_spread4_85 : decode cX11_spread4 85 = .ok (.iload_n 1, 1) := by decide +kernel
theorem dX11_spread4_86 : decode cX11_spread4 86 = .ok (.bipush 24, 2) := by decide +kernel
theorem dX11_spread4_88 : decode cX11_spread4 88 = .ok (.irem, 1) := by decide +kernel
theorem dX11_spread4_89 : decode cX11_spread4 89 = .ok (.iadd, 1) := by decide +kernel
theorem dX11_spread4_90 : decode cX11_spread4 90 = .ok (.imul, 1) := by decide +kernel
theorem dX11_spread4_91 : decode cX11_spread4 91 = .ok (.iload 4, 2) := by decide +kernel
theorem dX11_spread4_93 : decode cX11_spread4 93 = .ok (.iadd, 1) := by decide +kernel
theorem dX11_spread4_94 : decode cX11_spread4 94 = .ok (.iaload, 1) := by decide +kernel
theorem dX11_spread4_95 : decode cX11_spread4 95 = .ok (.istore 8, 2) := by decide +kernel
theorem dX11_spread4_97 : decode cX11_spread4 97 = .ok (.iload 5, 2) := by decide +kernel
theorem dX11_spread4_99 : decode cX11_spread4 99 = .ok (.bipush 24, 2) := by decide +kernel
theorem dX11_spread4_101 : decode cX11_spread4 101 = .ok (.imul, 1) := by decide +kernel
theorem dX11_spread4_102 : decode cX11_spread4 102 = .ok (.iload 6, 2) := by decide +kernel
theorem dX11_spread4_104 : decode cX11_spread4 104 = .ok (.iadd, 1) := by decide +kernel
theorem dX11_spread4_105 : decode cX11_spread4 105 = .ok (.bipush 24, 2) := by decide +kernel
theorem dX11_spread4_107 : decode cX11_spread4 107 = .ok (.imul, 1) := by decide +kernel
theorem dX11_spread4_108 : decode cX11_spread4 108 = .ok (.iload 7, 2) := by decide +kernel
theorem dX11_spread4_110 : decode cX11_spread4 110 = .ok (.iadd, 1) := by decide +kernel
theorem dX11_spread4_111 : decode cX11_spread4 111 = .ok (.bipush 24, 2) := by decide +kernel
theorem dX11_spread4_113 : decode cX11_spread4 113 = .ok (.imul, 1) := by decide +kernel
theorem dX11_spread4_114 : decode cX11_spread4 114 = .ok (.iload 8, 2) := by decide +kernel
theorem dX11_spread4_116 : decode cX11_spread4 116 = .ok (.iadd, 1) := by decide +kernel
theorem dX11_spread4_117 : decode cX11_spread4 117 = .ok (.istore 9, 2) := by decide +kernel
theorem dX11_spread4_119 : decode cX11_spread4 119 = .ok (.aload_n 0, 1) := by decide +kernel
theorem dX11_spread4_120 : decode cX11_spread4 120 = .ok (.getfield 70, 3) := by decide +kernel
theorem dX11_spread4_123 : decode cX11_spread4 123 = .ok (.iload 9, 2) := by decide +kernel
theorem dX11_spread4_125 : decode cX11_spread4 125 = .ok (.baload, 1) := by decide +kernel
theorem dX11_spread4_126 : decode cX11_spread4 126 = .ok (.bipush 100, 2) := by decide +kernel
theorem dX11_spread4_128 : decode cX11_spread4 128 = .ok (.if_icmp .ne 16, 3) := by decide +kernel
theorem dX11_spread4_131 : decode cX11_spread4 131 = .ok (.aload_n 0, 1) := by decide +kernel
theorem dX11_spread4_132 : decode cX11_spread4 132 = .ok (.getfield 70, 3) := by decide +kernel
theorem dX11_spread4_135 : decode cX11_spread4 135 = .ok (.iload 9, 2) := by decide +kernel
theorem dX11_spread4_137 : decode cX11_spread4 137 = .ok (.iload_n 2, 1) := by decide +kernel
theorem dX11_spread4_138 : decode cX11_spread4 138 = .ok (.iconst 1, 1) := by decide +kernel
theorem dX11_spread4_139 : decode cX11_spread4 139 = .ok (.iadd, 1) := by decide +kernel
theorem dX11_spread4_140 : decode cX11_spread4 140 = .ok (.i2b, 1) := by decide +kernel
theorem dX11_spread4_141 : decode cX11_spread4 141 = .ok (.bastore, 1) := by decide +kernel
theorem dX11_spread4_142 : decode cX11_spread4 142 = .ok (.iconst 1, 1) := by decide +kernel
theorem dX11_spread4_143 : decode cX11_spread4 143 = .ok (.istore_n 3, 1) := by decide +kernel
theorem dX11_spread4_144 : decode cX11_spread4 144 = .ok (.iinc 4 1, 3) := by decide +kernel
theorem dX11_spread4_147 : decode cX11_spread4 147 = .ok (.goto (-142), 3) := by decide +kernel
theorem dX11_spread4_150 : decode cX11_spread4 150 = .ok (.iload_n 3, 1) := by decide +kernel
theorem dX11_spread4_151 : decode cX11_spread4 151 = .ok (.ireturn, 1) := by decide +kernel
set_option maxRecDepth 20000 in
theorem ggX11_far_X11_rank : GoodIn wsX11_far wsX11_rank := goodIn_r _ [18, 7, 19, 20, 21, 22, 23, 24, 25, 26, 27, 28, 29, 30, 31, 32, 33, 34, 35, 36, 37, 38, 39, 40, 41, 42, 43, 44, 45, 46, 47, 48, 49, 50, 51, 52, 53, 54, 55, 56] (by decide +kernel) (by decide +kernel)
set_option maxRecDepth 20000 in
theorem gX11_far_X11_rank : GoodIn wsX11_far (wsV RX11 184 RX11 yX11_rank wsX11_rank) := goodIn_app (goodIn_of _ (by decide +kernel)) ggX11_far_X11_rank
theorem dX11_far_0 : decode cX11_far 0 = .ok (.iload_n 1, 1) := by decide +kernel
theorem dX11_far_1 : decode cX11_far 1 = .ok (.ifCond .ne 37, 3) := by decide +kernel
theorem dX11_far_4 : decode cX11_far 4 = .ok (.iconst 0, 1) := by decide +kernel
theorem dX11_far_5 : decode cX11_far 5 = .ok (.istore_n 2, 1) := by decide +kernel
theorem dX11_far_6 : decode cX11_far 6 = .ok (.iconst 0, 1) := by decide +kernel
theorem dX11_far_7 : decode cX11_far 7 = .ok (.istore_n 3, 1) := by decide +kernel
theorem dX11_far_8 : decode cX11_far 8 = .ok (.iload_n 3, 1) := by decide +kernel
theorem dX11_far_9 : decode cX11_far 9 = .ok (.bipush 12, 2) := by decide +kernel
theorem dX11_far_11 : decode cX11_far 11 = .ok (.if_icmp .ge 20, 3) := by decide +kernel
theorem dX11_far_14 : decode cX11_far 14 = .ok (.iload_n 2, 1) := by decide +kernel
theorem dX11_far_15 : decode cX11_far 15 = .ok (.aload_n 0, 1) := by decide +kernel
theorem dX11_far_16 : decode cX11_far 16 = .ok (.getfield 31, 3) := by decide +kernel
theorem dX11_far_19 : decode cX11_far 19 = .ok (.iload_n 3, 1) := by decide +kernel
theorem dX11_far_20 : decode cX11_far 20 = .ok (.iaload, 1) := by decide +kernel
theorem dX11_far_21 : decode cX11_far 21 = .ok (.iload_n 3, 1) := by decide +kernel
theorem dX11_far_22 : decode cX11_far 22 = .ok (.ishl, 1) := by decide +kernel
theorem dX11_far_23 : decode cX11_far 23 = .ok (.ior, 1) := by decide +kernel
theorem dX11_far_24 : decode cX11_far 24 = .ok (.istore_n 2, 1) := by decide +kernel
theorem dX11_far_25 : decode cX11_far 25 = .ok (.iinc 3 1, 3) := by decide +kernel
theorem dX11_far_28 : decode cX11_far 28 = .ok (.goto (-20), 3) := by decide +kernel
theorem dX11_far_31 : decode cX11_far 31 = .ok (.aload_n 0, 1) := by decide +kernel
theorem dX11_far_32 : decode cX11_far 32 = .ok (.getfield 58, 3) := by decide +kernel
theorem dX11_far_35 : decode cX11_far 35 = .ok (.iload_n 2, 1) := by decide +kernel
theorem dX11_far_36 : decode cX11_far 36 = .ok (.baload, 1) := by decide +kernel
theorem dX11_far_37 : decode cX11_far 37 = .ok (.ireturn, 1) := by decide +kernel
theorem dX11_far_38 : decode cX11_far 38 = .ok (.iload_n 1, 1) := by decide +kernel
theorem dX11_far_39 : decode cX11_far 39 = .ok (.iconst 1, 1) := by decide +kernel
theorem dX11_far_40 : decode cX11_far 40 = .ok (.if_icmp .ne 88, 3) := by decide +kernel
theorem dX11_far_43 : decode cX11_far 43 = .ok (.iconst 0, 1) := by decide +kernel
theorem dX11_far_44 : decode cX11_far 44 = .ok (.istore_n 2, 1) := by decide +kernel
theorem dX11_far_45 : decode cX11_far 45 = .ok (.bipush 6, 2) := by decide +kernel
theorem dX11_far_47 : decode cX11_far 47 = .ok (.istore_n 3, 1) := by decide +kernel
theorem dX11_far_48 : decode cX11_far 48 = .ok (.iload_n 3, 1) := by decide +kernel
theorem dX11_far_49 : decode cX11_far 49 = .ok (.ifCond .lt 20, 3) := by decide +kernel
theorem dX11_far_52 : decode cX11_far 52 = .ok (.iconst 3, 1) := by decide +kernel
theorem dX11_far_53 : decode cX11_far 53 = .ok (.iload_n 2, 1) := by decide +kernel
theorem dX11_far_54 : decode cX11_far 54 = .ok (.imul, 1) := by decide +kernel
theorem dX11_far_55 : decode cX11_far 55 = .ok (.aload_n 0, 1) := by decide +kernel
theorem dX11_far_56 : decode cX11_far 56 = .ok (.getfield 25, 3) := by decide +kernel
theorem dX11_far_59 : decode cX11_far 59 = .ok (.iload_n 3, 1) := by decide +kernel
theorem dX11_far_60 : decode cX11_far 60 = .ok (.iaload, 1) := by decide +kernel
theorem dX11_far_61 : decode cX11_far 61 = .ok (.iadd, 1) := by decide +kernel
theorem dX11_far_62 : decode cX11_far 62 = .ok (.istore_n 2, 1) := by decide +kernel
theorem dX11_far_63 : decode cX11_far 63 = .ok (.iinc 3 (-1), 3) := by decide +kernel
theorem dX11_far_66 : decode cX11_far 66 = .ok (.goto (-18), 3) := by decide +kernel
theorem dX11_far_69 : decode cX11_far 69 = .ok (.iconst 0, 1) := by decide +kernel
theorem dX11_far_70 : decode cX11_far 70 = .ok (.istore_n 3, 1) := by decide +kernel
theorem dX11_far_71 : decode cX11_far 71 = .ok (.iconst 0, 1) := by decide +kernel
theorem dX11_far_72 : decode cX11_far 72 = .ok (.istore 4, 2) := by decide +kernel
theorem dX11_far_74 : decode cX11_far 74 = .ok (.iload 4, 2) := by decide +kernel
theorem dX11_far_76 : decode cX11_far 76 = .ok (.bipush 12, 2) := by decide +kernel
theorem dX11_far_78 : decode cX11_far 78 = .ok (.if_icmp .ge 32, 3) := by decide +kernel
theorem dX11_far_81 : decode cX11_far 81 = .ok (.iload_n 3, 1) := by decide +kernel
theorem dX11_far_82 : decode cX11_far 82 = .ok (.aload_n 0, 1) := by decide +kernel
theorem dX11_far_83 : decode cX11_far 83 = .ok (.getfield 28, 3) := by decide +kernel
theorem dX11_far_86 : decode cX11_far 86 = .ok (.iload 4, 2) := by decide +kernel
theorem dX11_far_88 : decode cX11_far 88 = .ok (.iaload, 1) := by decide +kernel
theorem dX11_far_89 : decode cX11_far 89 = .ok (.bipush 7, 2) := by decide +kernel
theorem dX11_far_91 : decode cX11_far 91 = .ok (.if_icmp .le 10, 3) := by decide +kernel
theorem dX11_far_94 : decode cX11_far 94 = .ok (.iconst 1, 1) := by decide +kernel
theorem dX11_far_95 : decode cX11_far 95 = .ok (.iload 4, 2) := by decide +kernel
theorem dX11_far_97 : decode cX11_far 97 = .ok (.ishl, 1) := by decide +kernel
theorem dX11_far_98 : decode cX11_far 98 = .ok (.goto 4, 3) := by decide +kernel
theorem dX11_far_101 : decode cX11_far 101 = .ok (.iconst 0, 1) := by decide +kernel
theorem dX11_far_102 : decode cX11_far 102 = .ok (.ior, 1) := by decide +kernel
theorem dX11_far_103 : decode cX11_far 103 = .ok (.istore_n 3, 1) := by decide +kernel
theorem dX11_far_104 : decode cX11_far 104 = .ok (.iinc 4 1, 3) := by decide +kernel
theorem dX11_far_107 : decode cX11_far 107 = .ok (.goto (-33), 3) := by decide +kernel
theorem dX11_far_110 : decode cX11_far 110 = .ok (.aload_n 0, 1) := by decide +kernel
theorem dX11_far_111 : decode cX11_far 111 = .ok (.getfield 63, 3) := by decide +kernel
theorem dX11_far_114 : decode cX11_far 114 = .ok (.sipush 495, 3) := by decide +kernel
theorem dX11_far_117 : decode cX11_far 117 = .ok (.iload_n 2, 1) := by decide +kernel
theorem dX11_far_118 : decode cX11_far 118 = .ok (.imul, 1) := by decide +kernel
theorem dX11_far_119 : decode cX11_far 119 = .ok (.aload_n 0, 1) := by decide +kernel
theorem dX11_far_120 : decode cX11_far 120 = .ok (.getfield 73, 3) := by decide +kernel
theorem dX11_far_123 : decode cX11_far 123 = .ok (.iload_n 3, 1) := by decide +kernel
theorem dX11_far_124 : decode cX11_far 124 = .ok (.saload, 1) := by decide +kernel
theorem dX11_far_125 : decode cX11_far 125 = .ok (.iadd, 1) := by decide +kernel
theorem dX11_far_126 : decode cX11_far 126 = .ok (.baload, 1) := by decide +kernel
theorem dX11_far_127 : decode cX11_far 127 = .ok (.ireturn, 1) := by decide +kernel
theorem dX11_far_128 : decode cX11_far 128 = .ok (.iconst 0, 1) := by decide +kernel
theorem dX11_far_129 : decode cX11_far 129 = .ok (.istore_n 2, 1) := by decide +kernel
theorem dX11_far_130 : decode cX11_far 130 = .ok (.iload_n 2, 1) := by decide +kernel
theorem dX11_far_131 : decode cX11_far 131 = .ok (.bipush 8, 2) := by decide +kernel
theorem dX11_far_133 : decode cX11_far 133 = .ok (.if_icmp .ge 21, 3) := by decide +kernel
theorem dX11_far_136 : decode cX11_far 136 = .ok (.aload_n 0, 1) := by decide +kernel
theorem dX11_far_137 : decode cX11_far 137 = .ok (.getfield 112, 3) := by decide +kernel
theorem dX11_far_140 : decode cX11_far 140 = .ok (.iload_n 2, 1) := by decide +kernel
theorem dX11_far_141 : decode cX11_far 141 = .ok (.aload_n 0, 1) := by decide +kernel
theorem dX11_far_142 : decode cX11_far 142 = .ok (.getfield 22, 3) := by decide +kernel
theorem dX11_far_145 : decode cX11_far 145 = .ok (.iload_n 2, 1) := by decide +kernel
theorem dX11_far_146 : decode cX11_far 146 = .ok (.iaload, 1) := by decide +kernel
theorem dX11_far_147 : decode cX11_far 147 = .ok (.iastore, 1) := by decide +kernel
theorem dX11_far_148 : decode cX11_far 148 = .ok (.iinc 2 1, 3) := by decide +kernel
theorem dX11_far_151 : decode cX11_far 151 = .ok (.goto (-21), 3) := by decide +kernel
theorem dX11_far_154 : decode cX11_far 154 = .ok (.aload_n 0, 1) := by decide +kernel
theorem dX11_far_155 : decode cX11_far 155 = .ok (.bipush 8, 2) := by decide +kernel
theorem dX11_far_157 : decode cX11_far 157 = .ok (.invokevirtual 184, 3) := by decide +kernel
theorem dX11_far_160 : decode cX11_far 160 = .ok (.istore_n 2, 1) := by decide +kernel
theorem dX11_far_161 : decode cX11_far 161 = .ok (.iload_n 1, 1) := by decide +kernel
theorem dX11_far_162 : decode cX11_far 162 = .ok (.iconst 2, 1) := by decide +kernel
theorem dX11_far_163 : decode cX11_far 163 = .ok (.if_icmp .ne 65, 3) := by decide +kernel
theorem dX11_far_166 : decode cX11_far 166 = .ok (.iconst 0, 1) := by decide +kernel
theorem dX11_far_167 : decode cX11_far 167 = .ok (.istore_n 3, 1) := by decide +kernel
theorem dX11_far_168 : decode cX11_far 168 = .ok (.iconst 0, 1) := by decide +kernel
theorem dX11_far_169 : decode cX11_far 169 = .ok (.istore 4, 2) := by decide +kernel
theorem dX11_far_171 : decode cX11_far 171 = .ok (.iload 4, 2) := by decide +kernel
theorem dX11_far_173 : decode cX11_far 173 = .ok (.bipush 8, 2) := by decide +kernel
theorem dX11_far_175 : decode cX11_far 175 = .ok (.if_icmp .ge 31, 3) := by decide +kernel
theorem dX11_far_178 : decode cX11_far 178 = .ok (.iload_n 3, 1) := by decide +kernel
theorem dX11_far_179 : decode cX11_far 179 = .ok (.aload_n 0, 1) := by decide +kernel
theorem dX11_far_180 : decode cX11_far 180 = .ok (.getfield 28, 3) := by decide +kernel
theorem dX11_far_183 : decode cX11_far 183 = .ok (.iload 4, 2) := by decide +kernel
theorem dX11_far_185 : decode cX11_far 185 = .ok (.iaload, 1) := by decide +kernel
theorem dX11_far_186 : decode cX11_far 186 = .ok (.iconst 4, 1) := by decide +kernel
theorem dX11_far_187 : decode cX11_far 187 = .ok (.if_icmp .ge 10, 3) := by decide +kernel
theorem dX11_far_190 : decode cX11_far 190 = .ok (.iconst 1, 1) := by decide +kernel
theorem dX11_far_191 : decode cX11_far 191 = .ok (.iload 4, 2) := by decide +kernel
theorem dX11_far_193 : decode cX11_far 193 = .ok (.ishl, 1) := by decide +kernel
theorem dX11_far_194 : decode cX11_far 194 = .ok (.goto 4, 3) := by decide +kernel
theorem dX11_far_197 : decode cX11_far 197 = .ok (.iconst 0, 1) := by decide +kernel
theorem dX11_far_198 : decode cX11_far 198 = .ok (.ior, 1) := by decide +kernel
theorem dX11_far_199 : decode cX11_far 199 = .ok (.istore_n 3, 1) := by decide +kernel
theorem dX11_far_200 : decode cX11_far 200 = .ok (.iinc 4 1, 3) := by decide +kernel
theorem dX11_far_203 : decode cX11_far 203 = .ok (.goto (-32), 3) := by decide +kernel
theorem dX11_far_206 : decode cX11_far 206 = .ok (.aload_n 0, 1) := by decide +kernel
theorem dX11_far_207 : decode cX11_far 207 = .ok (.getfield 66, 3) := by decide +kernel
theorem dX11_far_210 : decode cX11_far 210 = .ok (.bipush 70, 2) := by decide +kernel
theorem dX11_far_212 : decode cX11_far 212 = .ok (.aload_n 0, 1) := by decide +kernel
theorem dX11_far_213 : decode cX11_far 213 = .ok (.getfield 87, 3) := by decide +kernel
theorem dX11_far_216 : decode cX11_far 216 = .ok (.iload_n 2, 1) := by decide +kernel
theorem dX11_far_217 : decode cX11_far 217 = .ok (.saload, 1) := by decide +kernel
theorem dX11_far_218 : decode cX11_far 218 = .ok (.imul, 1) := by decide +kernel
theorem dX11_far_219 : decode cX11_far 219 = .ok (.aload_n 0, 1) := by decide +kernel
theorem dX11_far_220 : decode cX11_far 220 = .ok (.getfield 80, 3) := by decide +kernel
theorem dX11_far_223 : decode cX11_far 223 = .ok (.iload_n 3, 1) := by decide +kernel
theorem dX11_far_224 : decode cX11_far 224 = .ok (.saload, 1) := by decide +kernel
theorem dX11_far_225 : decode cX11_far 225 = .ok (.iadd, 1) := by decide +kernel
theorem dX11_far_226 : decode cX11_far 226 = .ok (.baload, 1) := by decide +kernel
theorem dX11_far_227 : decode cX11_far 227 = .ok (.ireturn, 1) := by decide +kernel
theorem dX11_far_228 : decode cX11_far 228 = .ok (.aload_n 0, 1) := by decide +kernel
theorem dX11_far_229 : decode cX11_far 229 = .ok (.getfield 93, 3) := by decide +kernel
theorem dX11_far_232 : decode cX11_far 232 = .ok (.iload_n 2, 1) := by decide +kernel
theorem dX11_far_233 : decode cX11_far 233 = .ok (.saload, 1) := by decide +kernel
theorem dX11_far_234 : decode cX11_far 234 = .ok (.istore_n 3, 1) := by decide +kernel
theorem dX11_far_235 : decode cX11_far 235 = .ok (.iconst 0, 1) := by decide +kernel
theorem dX11_far_236 : decode cX11_far 236 = .ok (.istore 4, 2) := by decide +kernel
theorem dX11_far_238 : decode cX11_far 238 = .ok (.iload 4, 2) := by decide +kernel
theorem dX11_far_240 : decode cX11_far 240 = .ok (.iconst 3, 1) := by decide +kernel
theorem dX11_far_241 : decode cX11_far 241 = .ok (.if_icmp .ge 59, 3) := by decide +kernel
theorem dX11_far_244 : decode cX11_far 244 = .ok (.iconst 0, 1) := by decide +kernel
theorem dX11_far_245 : decode cX11_far 245 = .ok (.istore 5, 2) := by decide +kernel
theorem dX11_far_247 : decode cX11_far 247 = .ok (.iload 5, 2) := by decide +kernel
theorem dX11_far_249 : decode cX11_far 249 = .ok (.iconst 4, 1) := by decide +kernel
theorem dX11_far_250 : decode cX11_far 250 = .ok (.if_icmp .ge 33, 3) := by decide +kernel
theorem dX11_far_253 : decode cX11_far 253 = .ok (.aload_n 0, 1) := by decide +kernel
theorem dX11_far_254 : decode cX11_far 254 = .ok (.getfield 112, 3) := by decide +kernel
theorem dX11_far_257 : decode cX11_far 257 = .ok (.iload 5, 2) := by decide +kernel
theorem dX11_far_259 : decode cX11_far 259 = .ok (.aload_n 0, 1) := by decide +kernel
theorem dX11_far_260 : decode cX11_far 260 = .ok (.getfield 28, 3) := by decide +kernel
theorem dX11_far_263 : decode cX11_far 263 = .ok (.iconst 4, 1) := by decide +kernel
theorem dX11_far_264 : decode cX11_far 264 = .ok (.iload 4, 2) := by decide +kernel
theorem dX11_far_266 : decode cX11_far 266 = .ok (.imul, 1) := by decide +kernel
theorem dX11_far_267 : decode cX11_far 267 = .ok (.iload 5, 2) := by decide +kernel
theorem dX11_far_269 : decode cX11_far 269 = .ok (.iadd, 1) := by decide +kernel
theorem dX11_far_270 : decode cX11_far 270 = .ok (.iaload, 1) := by decide +kernel
theorem dX11_far_271 : decode cX11_far 271 = .ok (.iconst 4, 1) := by decide +kernel
theorem dX11_far_272 : decode cX11_far 272 = .ok (.iload 4, 2) := by decide +kernel
theorem dX11_far_274 : decode cX11_far 274 = .ok (.imul, 1) := by decide +kernel
theorem dX11_far_275 : decode cX11_far 275 = .ok (.isub, 1) := by decide +kernel
theorem dX11_far_276 : decode cX11_far 276 = .ok (.iastore, 1) := by decide +kernel
theorem dX11_far_277 : decode cX11_far 277 = .ok (.iinc 5 1, 3) := by decide +kernel
theorem dX11_far_280 : decode cX11_far 280 = .ok (.goto (-33), 3) := by decide +kernel
theorem dX11_far_283 : decode cX11_far 283 = .ok (.bipush 24, 2) := by decide +kernel
theorem dX11_far_285 : decode cX11_far 285 = .ok (.iload_n 3, 1) := by decide +kernel
theorem dX11_far_286 : decode cX11_far 286 = .ok (.imul, 1) := by decide +kernel
theorem dX11_far_287 : decode cX11_far 287 = .ok (.aload_n 0, 1) := by decide +kernel
theorem dX11_far_288 : decode cX11_far 288 = .ok (.iconst 4, 1) := by decide +kernel
theorem dX11_far_289 : decode cX11_far 289 = .ok (.invokevirtual 184, 3) := by decide +kernel
theorem dX11_far_292 : decode cX11_far 292 = .ok (.iadd, 1) := by decide +kernel
theorem dX11_far_293 : decode cX11_far 293 = .ok (.istore_n 3, 1) := by decide +kernel
theorem dX11_far_294 : decode cX11_far 294 = .ok (.iinc 4 1, 3) := by decide +kernel
theorem dX11_far_297 : decode cX11_far 297 = .ok (.goto (-59), 3) := by decide +kernel
theorem dX11_far_300 : decode cX11_far 300 = .ok (.aload_n 0, 1) := by decide +kernel
theorem dX11_far_301 : decode cX11_far 301 = .ok (.getfield 70, 3) := by decide +kernel
theorem dX11_far_304 : decode cX11_far 304 = .ok (.iload_n 3, 1) := by decide +kernel
theorem dX11_far_305 : decode cX11_far 305 = .ok (.baload, 1) := by decide +kernel
theorem dX11_far_306 : decode cX11_far 306 = .ok (.ireturn, 1) := by decide +kernel
set_option maxRecDepth 20000 in
theorem ggX11_walk_X11_far : GoodIn wsX11_walk wsX11_far := goodIn_r _ [8, 9, 10, 11, 12, 13, 14, 15, 16, 17, 18, 19, 20, 21, 22, 23, 24, 7, 25, 39, 40, 41, 42, 43, 44, 45, 46, 47, 48, 49, 50, 51, 52, 53, 54, 55, 56, 57, 58, 59, 60, 61, 62, 63, 64, 65, 66, 67, 68, 69, 70, 71, 72, 73, 74, 75, 76] (by decide +kernel) (by decide +kernel)
set_option maxRecDepth 20000 in
theorem gX11_walk_X11_far : GoodIn wsX11_walk (wsV RX11 193 RX11 yX11_far wsX11_far) := goodIn_app (goodIn_of _ (by decide +kernel)) ggX11_walk_X11_far
set_option maxRecDepth 20000 in
theorem ggX11_walk_X11_may : GoodIn wsX11_walk wsX11_may := goodIn_r _ [28] (by decide +kernel) (by decide +kernel)
set_option maxRecDepth 20000 in
theorem gX11_walk_X11_may : GoodIn wsX11_walk (va_wsS RX11 174 yX11_may wsX11_may) := goodIn_app (goodIn_of _ (by decide +kernel)) ggX11_walk_X11_may
set_option maxRecDepth 20000 in
theorem ggX11_walk_X11_turnIt : GoodIn wsX11_walk wsX11_turnIt := goodIn_r _ [32, 33, 16, 34, 11, 35, 36, 12, 9, 37, 38, 39, 40, 41, 42, 43, 44, 45, 46, 47, 48, 49, 50, 51, 52, 53, 54, 55, 56, 57, 58, 59, 60, 61, 62, 63, 64, 65, 66, 67, 68, 69, 70, 71, 72, 73, 74, 75, 76] (by decide +kernel) (by decide +kernel)
set_option maxRecDepth 20000 in
theorem gX11_walk_X11_turnIt : GoodIn wsX11_walk (wsV RX11 132 RX11 yX11_turnIt wsX11_turnIt) := goodIn_app (goodIn_of _ (by decide +kernel)) ggX11_walk_X11_turnIt
theorem dX11_walk_0 : decode cX11_walk 0 = .ok (.aload_n 0, 1) := by decide +kernel
theorem dX11_walk_1 : decode cX11_walk 1 = .ok (.iload_n 1, 1) := by decide +kernel
theorem dX11_walk_2 : decode cX11_walk 2 = .ok (.invokevirtual 193, 3) := by decide +kernel
theorem dX11_walk_5 : decode cX11_walk 5 = .ok (.istore_n 2, 1) := by decide +kernel
theorem dX11_walk_6 : decode cX11_walk 6 = .ok (.aload_n 0, 1) := by decide +kernel
theorem dX11_walk_7 : decode cX11_walk 7 = .ok (.getfield 55, 3) := by decide +kernel
theorem dX11_walk_10 : decode cX11_walk 10 = .ok (.iload_n 1, 1) := by decide +kernel
theorem dX11_walk_11 : decode cX11_walk 11 = .ok (.iload_n 2, 1) := by decide +kernel
theorem dX11_walk_12 : decode cX11_walk 12 = .ok (.iastore, 1) := by decide +kernel
theorem dX11_walk_13 : decode cX11_walk 13 = .ok (.iload_n 2, 1) := by decide +kernel
theorem dX11_walk_14 : decode cX11_walk 14 = .ok (.ifCond .le 98, 3) := by decide +kernel
theorem dX11_walk_17 : decode cX11_walk 17 = .ok (.iconst 0, 1) := by decide +kernel
theorem dX11_walk_18 : decode cX11_walk 18 = .ok (.istore_n 3, 1) := by decide +kernel
theorem dX11_walk_19 : decode cX11_walk 19 = .ok (.iconst 0, 1) := by decide +kernel
theorem dX11_walk_20 : decode cX11_walk 20 = .ok (.istore 4, 2) := by decide +kernel
theorem dX11_walk_22 : decode cX11_walk 22 = .ok (.iload 4, 2) := by decide +kernel
theorem dX11_walk_24 : decode cX11_walk 24 = .ok (.ifCond .ne 60, 3) := by decide +kernel
theorem dX11_walk_27 : decode cX11_walk 27 = .ok (.iload_n 1, 1) := by decide +kernel
theorem dX11_walk_28 : decode cX11_walk 28 = .ok (.iload_n 3, 1) := by decide +kernel
theorem dX11_walk_29 : decode cX11_walk 29 = .ok (.invokestatic 174, 3) := by decide +kernel
theorem dX11_walk_32 : decode cX11_walk 32 = .ok (.ifCond .eq 46, 3) := by decide +kernel
theorem dX11_walk_35 : decode cX11_walk 35 = .ok (.aload_n 0, 1) := by decide +kernel
theorem dX11_walk_36 : decode cX11_walk 36 = .ok (.iload_n 3, 1) := by decide +kernel
theorem dX11_walk_37 : decode cX11_walk 37 = .ok (.invokevirtual 132, 3) := by decide +kernel
theorem dX11_walk_40 : decode cX11_walk 40 = .ok (.aload_n 0, 1) := by decide +kernel
theorem dX11_walk_41 : decode cX11_walk 41 = .ok (.iload_n 1, 1) := by decide +kernel
theorem dX11_walk_42 : decode cX11_walk 42 = .ok (.invokevirtual 193, 3) := by decide +kernel
theorem dX11_walk_45 : decode cX11_walk 45 = .ok (.iload_n 2, 1) := by decide +kernel
theorem dX11_walk_46 : decode cX11_walk 46 = .ok (.iconst 1, 1) := by decide +kernel
theorem dX11_walk_47 : decode cX11_walk 47 = .ok (.isub, 1) := by decide +kernel
theorem dX11_walk_48 : decode cX11_walk 48 = .ok (.if_icmp .ne 7, 3) := by decide +kernel
theorem dX11_walk_51 : decode cX11_walk 51 = .ok (.iconst 1, 1) := by decide +kernel
theorem dX11_walk_52 : decode cX11_walk 52 = .ok (.goto 4, 3) := by decide +kernel
theorem dX11_walk_55 : decode cX11_walk 55 = .ok (.iconst 0, 1) := by decide +kernel
theorem dX11_walk_56 : decode cX11_walk 56 = .ok (.istore 4, 2) := by decide +kernel
theorem dX11_walk_58 : decode cX11_walk 58 = .ok (.iload 4, 2) := by decide +kernel
theorem dX11_walk_60 : decode cX11_walk 60 = .ok (.ifCond .ne 18, 3) := by decide +kernel
theorem dX11_walk_63 : decode cX11_walk 63 = .ok (.aload_n 0, 1) := by decide +kernel
theorem dX11_walk_64 : decode cX11_walk 64 = .ok (.iload_n 3, 1) := by decide +kernel
theorem dX11_walk_65 : decode cX11_walk 65 = .ok (.iload_n 3, 1) := by decide +kernel
theorem dX11_walk_66 : decode cX11_walk 66 = .ok (.iconst 3, 1) := by decide +kernel
theorem dX11_walk_67 : decode cX11_walk 67 = .ok (.irem, 1) := by decide +kernel
theorem dX11_walk_68 : decode cX11_walk 68 = .ok (.isub, 1) := by decide +kernel
theorem dX11_walk_69 : decode cX11_walk 69 = .ok (.iconst 2, 1) := by decide +kernel
theorem dX11_walk_70 : decode cX11_walk 70 = .ok (.iadd, 1) := by decide +kernel
theorem dX11_walk_71 : decode cX11_walk 71 = .ok (.iload_n 3, 1) := by decide +kernel
theorem dX11_walk_72 : decode cX11_walk 72 = .ok (.iconst 3, 1) := by decide +kernel
theorem dX11_walk_73 : decode cX11_walk 73 = .ok (.irem, 1) := by decide +kernel
theorem dX11_walk_74 : decode cX11_walk 74 = .ok (.isub, 1) := by decide +kernel
theorem dX11_walk_75 : decode cX11_walk 75 = .ok (.invokevirtual 132, 3) := by decide +kernel
theorem dX11_walk_78 : decode cX11_walk 78 = .ok (.iinc 3 1, 3) := by decide +kernel
theorem dX11_walk_81 : decode cX11_walk 81 = .ok (.goto (-59), 3) := by decide +kernel
theorem dX11_walk_84 : decode cX11_walk 84 = .ok (.aload_n 0, 1) := by decide +kernel
theorem dX11_walk_85 : decode cX11_walk 85 = .ok (.getfield 52, 3) := by decide +kernel
theorem dX11_walk_88 : decode cX11_walk 88 = .ok (.aload_n 0, 1) := by decide +kernel
theorem dX11_walk_89 : decode cX11_walk 89 = .ok (.getfield 196, 3) := by decide +kernel
theorem dX11_walk_92 : decode cX11_walk 92 = .ok (.iload_n 3, 1) := by decide +kernel
theorem dX11_walk_93 : decode cX11_walk 93 = .ok (.iconst 1, 1) := by decide +kernel
theorem dX11_walk_94 : decode cX11_walk 94 = .ok (.isub, 1) := by decide +kernel
theorem dX11_walk_95 : decode cX11_walk 95 = .ok (.iastore, 1) := by decide +kernel
theorem dX11_walk_96 : decode cX11_walk 96 = .ok (.aload_n 0, 1) := by decide +kernel
theorem dX11_walk_97 : decode cX11_walk 97 = .ok (.dup, 1) := by decide +kernel
theorem dX11_walk_98 : decode cX11_walk 98 = .ok (.getfield 196, 3) := by decide +kernel
theorem dX11_walk_101 : decode cX11_walk 101 = .ok (.iconst 1, 1) := by decide +kernel
theorem dX11_walk_102 : decode cX11_walk 102 = .ok (.iadd, 1) := by decide +kernel
theorem dX11_walk_103 : decode cX11_walk 103 = .ok (.putfield 196, 3) := by decide +kernel
theorem dX11_walk_106 : decode cX11_walk 106 = .ok (.iinc 2 (-1), 3) := by decide +kernel
theorem dX11_walk_109 : decode cX11_walk 109 = .ok (.goto (-96), 3) := by decide +kernel
theorem dX11_walk_112 : decode cX11_walk 112 = .ok (.return_, 1) := by decide +kernel
set_option maxRecDepth 20000 in
theorem ggX11_solve_X11_lawful : GoodIn wsX11_solve wsX11_lawful := goodIn_r _ [7, 8, 9, 10, 11, 124, 125, 126, 127, 128, 129, 130, 131, 132, 133, 134, 135, 136, 137, 138, 139, 140, 141, 142, 143, 144, 145, 146, 147, 148, 149, 150, 151, 152, 153, 154, 155, 156, 157, 158, 159, 160, 161] (by decide +kernel) (by decide +kernel)
set_option maxRecDepth 20000 in
theorem gX11_solve_X11_lawful : GoodIn wsX11_solve (wsV RX11 202 RX11 yX11_lawful wsX11_lawful) := goodIn_app (goodIn_of _ (by decide +kernel)) ggX11_solve_X11_lawful
end
section
theorem gw_gnil {big : List Cond} : GoodIn big [] := fun _ h => absurd h List.not_mem_nil
theorem gw_gcons {big ws : List Cond} {w : Cond} (h : w ∈ big) (hg : goodWord w = true) (k : GoodIn big ws) : GoodIn big (w :: ws) := fun v hv => (List.mem_cons.mp hv).elim (fun e => e ▸ ⟨h, good_of_word hg⟩) (k v)
theorem gw_gsub {big ws : List Cond} (hm : ∀ w ∈ ws, w ∈ big) (h : ws.all goodWord = true) : GoodIn big ws := fun w hw => ⟨hm w hw, good_of_word (List.all_eq_true.mp h w hw)⟩
set_option maxRecDepth 20000 in
theorem ggX11_solve_X11_make_0 : GoodIn wsX11_solve [Cond.fieldLink RX11 140 "StageCubeModel" "made" "Z", Cond.methodLink RX11 144 yX11_makeFirst, Cond.instanceMethod yX11_makeFirst, Cond.selects RX11 yX11_makeFirst yX11_makeFirst, Cond.initialized RX11, Cond.code yX11_makeFirst cX11_makeFirst 7 none, Cond.fieldLink RX11 58 "StageCubeModel" "near1" "[B", Cond.fieldLink RX11 46 "StageCubeModel" "edgeFrom" "[I", Cond.fieldLink RX11 49 "StageCubeModel" "edgeMore" "[I", Cond.methodLink RX11 147 yX11_makeNumbers, Cond.instanceMethod yX11_makeNumbers, Cond.selects RX11 yX11_makeNumbers yX11_makeNumbers, Cond.code yX11_makeNumbers cX11_makeNumbers 3 none, Cond.fieldLink RX11 73 "StageCubeModel" "maskOf" "[S", Cond.fieldLink RX11 77 "StageCubeModel" "maskAt" "[S", Cond.fieldLink RX11 80 "StageCubeModel" "halfOf" "[S", Cond.fieldLink RX11 83 "StageCubeModel" "halfAt" "[S", Cond.methodLink RX11 162 yX11_ones, Cond.static yX11_ones, Cond.code yX11_ones cX11_ones 3 (some .int), Cond.methodLink RX11 150 yX11_makeSecond, Cond.instanceMethod yX11_makeSecond, Cond.selects RX11 yX11_makeSecond yX11_makeSecond, Cond.code yX11_makeSecond cX11_makeSecond 7 none] := gw_gcons (List.mem_of_getElem? (i := 16) rfl) rfl (gw_gcons (List.mem_of_getElem? (i := 17) rfl) rfl (gw_gcons (List.mem_of_getElem? (i := 18) rfl) rfl (gw_gcons (List.mem_of_getElem? (i := 19) rfl) rfl (gw_gcons (List.mem_of_getElem? (i := 6) rfl) rfl (gw_gcons (List.mem_of_getElem? (i := 20) rfl) rfl (gw_gcons (List.mem_of_getElem? (i := 21) rfl) rfl (gw_gcons (List.mem_of_getElem? (i := 22) rfl) rfl (gw_gcons (List.mem_of_getElem? (i := 23) rfl) rfl (gw_gcons (List.mem_of_getElem? (i := 24) rfl) rfl (gw_gcons (List.mem_of_getElem? (i := 25) rfl) rfl (gw_gcons (List.mem_of_getElem? (i := 26) rfl) rfl (gw_gcons (List.mem_of_getElem? (i := 27) rfl) rfl (gw_gcons (List.mem_of_getElem? (i := 28) rfl) rfl (gw_gcons (List.mem_of_getElem? (i := 29) rfl) rfl (gw_gcons (List.mem_of_getElem? (i := 30) rfl) rfl (gw_gcons (List.mem_of_getElem? (i := 31) rfl) rfl (gw_gcons (List.mem_of_getElem? (i := 32) rfl) rfl (gw_gcons (List.mem_of_getElem? (i := 33) rfl) rfl (gw_gcons (List.mem_of_getElem? (i := 34) rfl) rfl (gw_gcons (List.mem_of_getElem? (i := 35) rfl) rfl (gw_gcons (List.mem_of_getElem? (i := 36) rfl) rfl (gw_gcons (List.mem_of_getElem? (i := 37) rfl) rfl (gw_gcons (List.mem_of_getElem? (i := 38) rfl) rfl (gw_gnil))))))))))))))))))))))))
set_option maxRecDepth 20000 in
theorem ggX11_solve_X11_make_1 : GoodIn wsX11_solve [Cond.fieldLink RX11 112 "StageCubeModel" "row" "[I", Cond.fieldLink RX11 40 "StageCubeModel" "cornerFrom" "[I", Cond.fieldLink RX11 43 "StageCubeModel" "cornerMore" "[I", Cond.fieldLink RX11 100 "StageCubeModel" "move1" "[I", Cond.fieldLink RX11 103 "StageCubeModel" "move2" "[I", Cond.constant RX11 62 (1082565), Cond.fieldLink RX11 63 "StageCubeModel" "near2" "[B", Cond.methodLink RX11 166 yX11_maskBy, Cond.instanceMethod yX11_maskBy, Cond.selects RX11 yX11_maskBy yX11_maskBy, Cond.code yX11_maskBy cX11_maskBy 6 (some .int), Cond.methodLink RX11 170 yX11_spread2, Cond.instanceMethod yX11_spread2, Cond.selects RX11 yX11_spread2 yX11_spread2, Cond.code yX11_spread2 cX11_spread2 6 (some .boolean), Cond.methodLink RX11 174 yX11_may, Cond.static yX11_may, Cond.code yX11_may cX11_may 4 (some .boolean), Cond.methodLink RX11 153 yX11_makeKinds, Cond.instanceMethod yX11_makeKinds, Cond.selects RX11 yX11_makeKinds yX11_makeKinds, Cond.code yX11_makeKinds cX11_makeKinds 5 none, Cond.constant RX11 86 (40320), Cond.fieldLink RX11 93 "StageCubeModel" "squareOf" "[S"] := gw_gcons (List.mem_of_getElem? (i := 39) rfl) rfl (gw_gcons (List.mem_of_getElem? (i := 40) rfl) rfl (gw_gcons (List.mem_of_getElem? (i := 41) rfl) rfl (gw_gcons (List.mem_of_getElem? (i := 42) rfl) rfl (gw_gcons (List.mem_of_getElem? (i := 43) rfl) rfl (gw_gcons (List.mem_of_getElem? (i := 44) rfl) rfl (gw_gcons (List.mem_of_getElem? (i := 45) rfl) rfl (gw_gcons (List.mem_of_getElem? (i := 46) rfl) rfl (gw_gcons (List.mem_of_getElem? (i := 47) rfl) rfl (gw_gcons (List.mem_of_getElem? (i := 48) rfl) rfl (gw_gcons (List.mem_of_getElem? (i := 49) rfl) rfl (gw_gcons (List.mem_of_getElem? (i := 50) rfl) rfl (gw_gcons (List.mem_of_getElem? (i := 51) rfl) rfl (gw_gcons (List.mem_of_getElem? (i := 52) rfl) rfl (gw_gcons (List.mem_of_getElem? (i := 53) rfl) rfl (gw_gcons (List.mem_of_getElem? (i := 54) rfl) rfl (gw_gcons (List.mem_of_getElem? (i := 55) rfl) rfl (gw_gcons (List.mem_of_getElem? (i := 56) rfl) rfl (gw_gcons (List.mem_of_getElem? (i := 57) rfl) rfl (gw_gcons (List.mem_of_getElem? (i := 58) rfl) rfl (gw_gcons (List.mem_of_getElem? (i := 59) rfl) rfl (gw_gcons (List.mem_of_getElem? (i := 60) rfl) rfl (gw_gcons (List.mem_of_getElem? (i := 61) rfl) rfl (gw_gcons (List.mem_of_getElem? (i := 62) rfl) rfl (gw_gnil))))))))))))))))))))))))
set_option maxRecDepth 20000 in
theorem ggX11_solve_X11_make_2 : GoodIn wsX11_solve [Cond.fieldLink RX11 87 "StageCubeModel" "kindOf" "[S", Cond.fieldLink RX11 96 "StageCubeModel" "squareAt" "[I", Cond.fieldLink RX11 90 "StageCubeModel" "kindAt" "[I", Cond.methodLink RX11 177 yX11_unrank, Cond.instanceMethod yX11_unrank, Cond.selects RX11 yX11_unrank yX11_unrank, Cond.code yX11_unrank cX11_unrank 6 none, Cond.methodLink RX11 181 yX11_turnRow, Cond.instanceMethod yX11_turnRow, Cond.selects RX11 yX11_turnRow yX11_turnRow, Cond.code yX11_turnRow cX11_turnRow 3 none, Cond.fieldLink RX11 115 "StageCubeModel" "other" "[I", Cond.methodLink RX11 184 yX11_rank, Cond.instanceMethod yX11_rank, Cond.selects RX11 yX11_rank yX11_rank, Cond.code yX11_rank cX11_rank 6 (some .int), Cond.methodLink RX11 187 yX11_nameKind, Cond.instanceMethod yX11_nameKind, Cond.selects RX11 yX11_nameKind yX11_nameKind, Cond.code yX11_nameKind cX11_nameKind 6 none, Cond.fieldLink RX11 37 "StageCubeModel" "oldMore" "[I", Cond.methodLink RX11 156 yX11_makeThird, Cond.instanceMethod yX11_makeThird, Cond.selects RX11 yX11_makeThird yX11_makeThird] := gw_gcons (List.mem_of_getElem? (i := 63) rfl) rfl (gw_gcons (List.mem_of_getElem? (i := 64) rfl) rfl (gw_gcons (List.mem_of_getElem? (i := 65) rfl) rfl (gw_gcons (List.mem_of_getElem? (i := 66) rfl) rfl (gw_gcons (List.mem_of_getElem? (i := 67) rfl) rfl (gw_gcons (List.mem_of_getElem? (i := 68) rfl) rfl (gw_gcons (List.mem_of_getElem? (i := 69) rfl) rfl (gw_gcons (List.mem_of_getElem? (i := 70) rfl) rfl (gw_gcons (List.mem_of_getElem? (i := 71) rfl) rfl (gw_gcons (List.mem_of_getElem? (i := 72) rfl) rfl (gw_gcons (List.mem_of_getElem? (i := 73) rfl) rfl (gw_gcons (List.mem_of_getElem? (i := 74) rfl) rfl (gw_gcons (List.mem_of_getElem? (i := 75) rfl) rfl (gw_gcons (List.mem_of_getElem? (i := 76) rfl) rfl (gw_gcons (List.mem_of_getElem? (i := 77) rfl) rfl (gw_gcons (List.mem_of_getElem? (i := 78) rfl) rfl (gw_gcons (List.mem_of_getElem? (i := 79) rfl) rfl (gw_gcons (List.mem_of_getElem? (i := 80) rfl) rfl (gw_gcons (List.mem_of_getElem? (i := 81) rfl) rfl (gw_gcons (List.mem_of_getElem? (i := 82) rfl) rfl (gw_gcons (List.mem_of_getElem? (i := 83) rfl) rfl (gw_gcons (List.mem_of_getElem? (i := 84) rfl) rfl (gw_gcons (List.mem_of_getElem? (i := 85) rfl) rfl (gw_gcons (List.mem_of_getElem? (i := 86) rfl) rfl (gw_gnil))))))))))))))))))))))))
set_option maxRecDepth 20000 in
theorem ggX11_solve_X11_make_3 : GoodIn wsX11_solve [Cond.code yX11_makeThird cX11_makeThird 7 none, Cond.fieldLink RX11 106 "StageCubeModel" "move3" "[I", Cond.fieldLink RX11 66 "StageCubeModel" "near3" "[B", Cond.methodLink RX11 159 yX11_makeFourth, Cond.instanceMethod yX11_makeFourth, Cond.selects RX11 yX11_makeFourth yX11_makeFourth, Cond.code yX11_makeFourth cX11_makeFourth 5 none, Cond.fieldLink RX11 109 "StageCubeModel" "move4" "[I", Cond.constant RX11 69 (1327104), Cond.fieldLink RX11 70 "StageCubeModel" "near4" "[B", Cond.methodLink RX11 190 yX11_spread4, Cond.instanceMethod yX11_spread4, Cond.selects RX11 yX11_spread4 yX11_spread4, Cond.code yX11_spread4 cX11_spread4 10 (some .boolean)] := gw_gcons (List.mem_of_getElem? (i := 87) rfl) rfl (gw_gcons (List.mem_of_getElem? (i := 88) rfl) rfl (gw_gcons (List.mem_of_getElem? (i := 89) rfl) rfl (gw_gcons (List.mem_of_getElem? (i := 90) rfl) rfl (gw_gcons (List.mem_of_getElem? (i := 91) rfl) rfl (gw_gcons (List.mem_of_getElem? (i := 92) rfl) rfl (gw_gcons (List.mem_of_getElem? (i := 93) rfl) rfl (gw_gcons (List.mem_of_getElem? (i := 94) rfl) rfl (gw_gcons (List.mem_of_getElem? (i := 95) rfl) rfl (gw_gcons (List.mem_of_getElem? (i := 96) rfl) rfl (gw_gcons (List.mem_of_getElem? (i := 97) rfl) rfl (gw_gcons (List.mem_of_getElem? (i := 98) rfl) rfl (gw_gcons (List.mem_of_getElem? (i := 99) rfl) rfl (gw_gcons (List.mem_of_getElem? (i := 100) rfl) rfl (gw_gnil))))))))))))))
set_option maxRecDepth 20000 in
theorem ggX11_solve_X11_make : GoodIn wsX11_solve wsX11_make := gw_gcons (List.mem_of_getElem? (i := 15) rfl) rfl (goodIn_app (goodIn_app ((show GoodIn wsX11_solve wsX11_make_r1 from ggX11_solve_X11_make_0)) (goodIn_app ((show GoodIn wsX11_solve wsX11_make_r2 from ggX11_solve_X11_make_1)) (goodIn_app ((show GoodIn wsX11_solve wsX11_make_r3 from ggX11_solve_X11_make_2)) ((show GoodIn wsX11_solve wsX11_make_r4 from ggX11_solve_X11_make_3))))) (gw_gsub (fun _ h => List.mem_cons_of_mem _ (List.mem_append_right _ (h))) (by decide +kernel)))
end
section
set_option maxRecDepth 20000 in
theorem gX11_solve_X11_make : GoodIn wsX11_solve (wsV RX11 206 RX11 yX11_make wsX11_make) := goodIn_app (goodIn_of _ (by decide +kernel)) ggX11_solve_X11_make
set_option maxRecDepth 20000 in
theorem ggX11_solve_X11_look : GoodIn wsX11_solve wsX11_look := goodIn_r _ [104, 105, 10, 106, 11, 107, 8, 108, 9, 124, 125, 126, 127, 128, 129, 130, 131, 132, 133, 134, 135, 136, 137, 138, 139, 140, 141, 142, 143, 144, 145, 146, 147, 148, 149, 150, 151, 152, 153, 154, 155, 156, 157, 158, 159, 160, 161] (by decide +kernel) (by decide +kernel)
set_option maxRecDepth 20000 in
theorem gX11_solve_X11_look : GoodIn wsX11_solve (wsV RX11 129 RX11 yX11_look wsX11_look) := goodIn_app (goodIn_of _ (by decide +kernel)) ggX11_solve_X11_look
set_option maxRecDepth 20000 in
theorem ggX11_solve_X11_walk : GoodIn wsX11_solve wsX11_walk := goodIn_r _ [112, 113, 114, 2, 115, 116, 117, 6, 118, 106, 21, 108, 105, 45, 28, 39, 107, 89, 63, 30, 62, 96, 75, 76, 77, 78, 54, 55, 56, 119, 120, 121, 122, 123, 83, 40, 41, 22, 23, 124, 125, 126, 127, 128, 129, 130, 131, 132, 133, 134, 135, 136, 137, 138, 139, 140, 141, 142, 143, 144, 145, 146, 147, 148, 149, 150, 151, 152, 153, 154, 155, 156, 157, 158, 159, 160, 161] (by decide +kernel) (by decide +kernel)
set_option maxRecDepth 20000 in
theorem gX11_solve_X11_walk : GoodIn wsX11_solve (wsV RX11 209 RX11 yX11_walk wsX11_walk) := goodIn_app (goodIn_of _ (by decide +kernel)) ggX11_solve_X11_walk
theorem dX11_solve_0 : decode cX11_solve 0 = .ok (.aload_n 0, 1) := by decide +kernel
theorem dX11_solve_1 : decode cX11_solve 1 = .ok (.iconst 0, 1) := by decide +kernel
theorem dX11_solve_2 : decode cX11_solve 2 = .ok (.putfield 199, 3) := by decide +kernel
theorem dX11_solve_5 : decode cX11_solve 5 = .ok (.aload_n 0, 1) := by decide +kernel
theorem dX11_solve_6 : decode cX11_solve 6 = .ok (.iconst 0, 1) := by decide +kernel
theorem dX11_solve_7 : decode cX11_solve 7 = .ok (.putfield 196, 3) := by decide +kernel
theorem dX11_solve_10 : decode cX11_solve 10 = .ok (.aload_n 0, 1) := by decide +kernel
theorem dX11_solve_11 : decode cX11_solve 11 = .ok (.invokevirtual 202, 3) := by decide +kernel
theorem dX11_solve_14 : decode cX11_solve 14 = .ok (.istore_n 1, 1) := by decide +kernel
theorem dX11_solve_15 : decode cX11_solve 15 = .ok (.iload_n 1, 1) := by decide +kernel
theorem dX11_solve_16 : decode cX11_solve 16 = .ok (.iconst 1, 1) := by decide +kernel
theorem dX11_solve_17 : decode cX11_solve 17 = .ok (.if_icmp .eq 5, 3) := by decide +kernel
theorem dX11_solve_20 : decode cX11_solve 20 = .ok (.iload_n 1, 1) := by decide +kernel
theorem dX11_solve_21 : decode cX11_solve 21 = .ok (.ireturn, 1) := by decide +kernel
theorem dX11_solve_22 : decode cX11_solve 22 = .ok (.aload_n 0, 1) := by decide +kernel
theorem dX11_solve_23 : decode cX11_solve 23 = .ok (.invokevirtual 206, 3) := by decide +kernel
theorem dX11_solve_26 : decode cX11_solve 26 = .ok (.aload_n 0, 1) := by decide +kernel
theorem dX11_solve_27 : decode cX11_solve 27 = .ok (.invokevirtual 129, 3) := by decide +kernel
theorem dX11_solve_30 : decode cX11_solve 30 = .ok (.iconst 0, 1) := by decide +kernel
theorem dX11_solve_31 : decode cX11_solve 31 = .ok (.istore_n 2, 1) := by decide +kernel
theorem dX11_solve_32 : decode cX11_solve 32 = .ok (.iload_n 2, 1) := by decide +kernel
theorem dX11_solve_33 : decode cX11_solve 33 = .ok (.iconst 4, 1) := by decide +kernel
theorem dX11_solve_34 : decode cX11_solve 34 = .ok (.if_icmp .ge 14, 3) := by decide +kernel
theorem dX11_solve_37 : decode cX11_solve 37 = .ok (.aload_n 0, 1) := by decide +kernel
theorem dX11_solve_38 : decode cX11_solve 38 = .ok (.iload_n 2, 1) := by decide +kernel
theorem dX11_solve_39 : decode cX11_solve 39 = .ok (.invokevirtual 209, 3) := by decide +kernel
theorem dX11_solve_42 : decode cX11_solve 42 = .ok (.iinc 2 1, 3) := by decide +kernel
theorem dX11_solve_45 : decode cX11_solve 45 = .ok (.goto (-13), 3) := by decide +kernel
theorem dX11_solve_48 : decode cX11_solve 48 = .ok (.aload_n 0, 1) := by decide +kernel
theorem dX11_solve_49 : decode cX11_solve 49 = .ok (.iconst 1, 1) := by decide +kernel
theorem dX11_solve_50 : decode cX11_solve 50 = .ok (.putfield 199, 3) := by decide +kernel
theorem dX11_solve_53 : decode cX11_solve 53 = .ok (.aload_n 0, 1) := by decide +kernel
theorem dX11_solve_54 : decode cX11_solve 54 = .ok (.getfield 196, 3) := by decide +kernel
theorem dX11_solve_57 : decode cX11_solve 57 = .ok (.ireturn, 1) := by decide +kernel
theorem dX11_stage_0 : decode cX11_stage 0 = .ok (.iload_n 1, 1) := by decide +kernel
theorem dX11_stage_1 : decode cX11_stage 1 = .ok (.iconst 1, 1) := by decide +kernel
theorem dX11_stage_2 : decode cX11_stage 2 = .ok (.if_icmp .lt 8, 3) := by decide +kernel
theorem dX11_stage_5 : decode cX11_stage 5 = .ok (.iload_n 1, 1) := by decide +kernel
theorem dX11_stage_6 : decode cX11_stage 6 = .ok (.iconst 4, 1) := by decide +kernel
theorem dX11_stage_7 : decode cX11_stage 7 = .ok (.if_icmp .le 7, 3) := by decide +kernel
theorem dX11_stage_10 : decode cX11_stage 10 = .ok (.iconst (-1), 1) := by decide +kernel
theorem dX11_stage_11 : decode cX11_stage 11 = .ok (.goto 22, 3) := by decide +kernel
theorem dX11_stage_14 : decode cX11_stage 14 = .ok (.aload_n 0, 1) := by decide +kernel
theorem dX11_stage_15 : decode cX11_stage 15 = .ok (.getfield 199, 3) := by decide +kernel
theorem dX11_stage_18 : decode cX11_stage 18 = .ok (.ifCond .eq 14, 3) := by decide +kernel
theorem dX11_stage_21 : decode cX11_stage 21 = .ok (.aload_n 0, 1) := by decide +kernel
theorem dX11_stage_22 : decode cX11_stage 22 = .ok (.getfield 55, 3) := by decide +kernel
theorem dX11_stage_25 : decode cX11_stage 25 = .ok (.iload_n 1, 1) := by decide +kernel
theorem dX11_stage_26 : decode cX11_stage 26 = .ok (.iconst 1, 1) := by decide +kernel
theorem dX11_stage_27 : decode cX11_stage 27 = .ok (.isub, 1) := by decide +kernel
theorem dX11_stage_28 : decode cX11_stage 28 = .ok (.iaload, 1) := by decide +kernel
theorem dX11_stage_29 : decode cX11_stage 29 = .ok (.goto 4, 3) := by decide +kernel
theorem dX11_stage_32 : decode cX11_stage 32 = .ok (.iconst 0, 1) := by decide +kernel
theorem dX11_stage_33 : decode cX11_stage 33 = .ok (.ireturn, 1) := by decide +kernel
theorem dX11_step_0 : decode cX11_step 0 = .ok (.aload_n 0, 1) := by decide +kernel
theorem dX11_step_1 : decode cX11_step 1 = .ok (.getfield 199, 3) := by decide +kernel
theorem dX11_step_4 : decode cX11_step 4 = .ok (.ifCond .eq 24, 3) := by decide +kernel
theorem dX11_step_7 : decode cX11_step 7 = .ok (.iload_n 1, 1) := by decide +kernel
theorem dX11_step_8 : decode cX11_step 8 = .ok (.ifCond .lt 20, 3) := by decide +kernel
theorem dX11_step_11 : decode cX11_step 11 = .ok (.iload_n 1, 1) := by decide +kernel
theorem dX11_step_12 : decode cX11_step 12 = .ok (.aload_n 0, 1) := by decide +kernel
theorem dX11_step_13 : decode cX11_step 13 = .ok (.getfield 196, 3) := by decide +kernel
theorem dX11_step_16 : decode cX11_step 16 = .ok (.if_icmp .ge 12, 3) := by decide +kernel
theorem dX11_step_19 : decode cX11_step 19 = .ok (.aload_n 0, 1) := by decide +kernel
theorem dX11_step_20 : decode cX11_step 20 = .ok (.getfield 52, 3) := by decide +kernel
theorem dX11_step_23 : decode cX11_step 23 = .ok (.iload_n 1, 1) := by decide +kernel
theorem dX11_step_24 : decode cX11_step 24 = .ok (.iaload, 1) := by decide +kernel
theorem dX11_step_25 : decode cX11_step 25 = .ok (.goto 4, 3) := by decide +kernel
theorem dX11_step_28 : decode cX11_step 28 = .ok (.iconst (-1), 1) := by decide +kernel
theorem dX11_step_29 : decode cX11_step 29 = .ok (.ireturn, 1) := by decide +kernel
set_option maxRecDepth 20000 in
theorem ggX11_flips_X11_lawful : GoodIn wsX11_flips wsX11_lawful := goodIn_r _ [5, 6, 7, 8, 9, 111, 112, 113, 114, 115, 116, 117, 118, 119, 120, 121, 122, 123, 124, 125, 126, 127, 128, 129, 130, 131, 132, 133, 134, 135, 136, 137, 138, 139, 140, 141, 142, 143, 144, 145, 146, 147, 148] (by decide +kernel) (by decide +kernel)
set_option maxRecDepth 20000 in
theorem gX11_flips_X11_lawful : GoodIn wsX11_flips (wsV RX11 202 RX11 yX11_lawful wsX11_lawful) := goodIn_app (goodIn_of _ (by decide +kernel)) ggX11_flips_X11_lawful
end
section
set_option maxRecDepth 20000 in
theorem ggX11_flips_X11_make_0 : GoodIn wsX11_flips [Cond.fieldLink RX11 140 "StageCubeModel" "made" "Z", Cond.methodLink RX11 144 yX11_makeFirst, Cond.instanceMethod yX11_makeFirst, Cond.selects RX11 yX11_makeFirst yX11_makeFirst, Cond.initialized RX11, Cond.code yX11_makeFirst cX11_makeFirst 7 none, Cond.fieldLink RX11 58 "StageCubeModel" "near1" "[B", Cond.fieldLink RX11 46 "StageCubeModel" "edgeFrom" "[I", Cond.fieldLink RX11 49 "StageCubeModel" "edgeMore" "[I", Cond.methodLink RX11 147 yX11_makeNumbers, Cond.instanceMethod yX11_makeNumbers, Cond.selects RX11 yX11_makeNumbers yX11_makeNumbers, Cond.code yX11_makeNumbers cX11_makeNumbers 3 none, Cond.fieldLink RX11 73 "StageCubeModel" "maskOf" "[S", Cond.fieldLink RX11 77 "StageCubeModel" "maskAt" "[S", Cond.fieldLink RX11 80 "StageCubeModel" "halfOf" "[S", Cond.fieldLink RX11 83 "StageCubeModel" "halfAt" "[S", Cond.methodLink RX11 162 yX11_ones, Cond.static yX11_ones, Cond.code yX11_ones cX11_ones 3 (some .int), Cond.methodLink RX11 150 yX11_makeSecond, Cond.instanceMethod yX11_makeSecond, Cond.selects RX11 yX11_makeSecond yX11_makeSecond, Cond.code yX11_makeSecond cX11_makeSecond 7 none] := gw_gcons (List.mem_of_getElem? (i := 14) rfl) rfl (gw_gcons (List.mem_of_getElem? (i := 15) rfl) rfl (gw_gcons (List.mem_of_getElem? (i := 16) rfl) rfl (gw_gcons (List.mem_of_getElem? (i := 17) rfl) rfl (gw_gcons (List.mem_of_getElem? (i := 4) rfl) rfl (gw_gcons (List.mem_of_getElem? (i := 18) rfl) rfl (gw_gcons (List.mem_of_getElem? (i := 19) rfl) rfl (gw_gcons (List.mem_of_getElem? (i := 20) rfl) rfl (gw_gcons (List.mem_of_getElem? (i := 21) rfl) rfl (gw_gcons (List.mem_of_getElem? (i := 22) rfl) rfl (gw_gcons (List.mem_of_getElem? (i := 23) rfl) rfl (gw_gcons (List.mem_of_getElem? (i := 24) rfl) rfl (gw_gcons (List.mem_of_getElem? (i := 25) rfl) rfl (gw_gcons (List.mem_of_getElem? (i := 26) rfl) rfl (gw_gcons (List.mem_of_getElem? (i := 27) rfl) rfl (gw_gcons (List.mem_of_getElem? (i := 28) rfl) rfl (gw_gcons (List.mem_of_getElem? (i := 29) rfl) rfl (gw_gcons (List.mem_of_getElem? (i := 30) rfl) rfl (gw_gcons (List.mem_of_getElem? (i := 31) rfl) rfl (gw_gcons (List.mem_of_getElem? (i := 32) rfl) rfl (gw_gcons (List.mem_of_getElem? (i := 33) rfl) rfl (gw_gcons (List.mem_of_getElem? (i := 34) rfl) rfl (gw_gcons (List.mem_of_getElem? (i := 35) rfl) rfl (gw_gcons (List.mem_of_getElem? (i := 36) rfl) rfl (gw_gnil))))))))))))))))))))))))
set_option maxRecDepth 20000 in
theorem ggX11_flips_X11_make_1 : GoodIn wsX11_flips [Cond.fieldLink RX11 112 "StageCubeModel" "row" "[I", Cond.fieldLink RX11 40 "StageCubeModel" "cornerFrom" "[I", Cond.fieldLink RX11 43 "StageCubeModel" "cornerMore" "[I", Cond.fieldLink RX11 100 "StageCubeModel" "move1" "[I", Cond.fieldLink RX11 103 "StageCubeModel" "move2" "[I", Cond.constant RX11 62 (1082565), Cond.fieldLink RX11 63 "StageCubeModel" "near2" "[B", Cond.methodLink RX11 166 yX11_maskBy, Cond.instanceMethod yX11_maskBy, Cond.selects RX11 yX11_maskBy yX11_maskBy, Cond.code yX11_maskBy cX11_maskBy 6 (some .int), Cond.methodLink RX11 170 yX11_spread2, Cond.instanceMethod yX11_spread2, Cond.selects RX11 yX11_spread2 yX11_spread2, Cond.code yX11_spread2 cX11_spread2 6 (some .boolean), Cond.methodLink RX11 174 yX11_may, Cond.static yX11_may, Cond.code yX11_may cX11_may 4 (some .boolean), Cond.methodLink RX11 153 yX11_makeKinds, Cond.instanceMethod yX11_makeKinds, Cond.selects RX11 yX11_makeKinds yX11_makeKinds, Cond.code yX11_makeKinds cX11_makeKinds 5 none, Cond.constant RX11 86 (40320), Cond.fieldLink RX11 93 "StageCubeModel" "squareOf" "[S"] := gw_gcons (List.mem_of_getElem? (i := 37) rfl) rfl (gw_gcons (List.mem_of_getElem? (i := 38) rfl) rfl (gw_gcons (List.mem_of_getElem? (i := 39) rfl) rfl (gw_gcons (List.mem_of_getElem? (i := 40) rfl) rfl (gw_gcons (List.mem_of_getElem? (i := 41) rfl) rfl (gw_gcons (List.mem_of_getElem? (i := 42) rfl) rfl (gw_gcons (List.mem_of_getElem? (i := 43) rfl) rfl (gw_gcons (List.mem_of_getElem? (i := 44) rfl) rfl (gw_gcons (List.mem_of_getElem? (i := 45) rfl) rfl (gw_gcons (List.mem_of_getElem? (i := 46) rfl) rfl (gw_gcons (List.mem_of_getElem? (i := 47) rfl) rfl (gw_gcons (List.mem_of_getElem? (i := 48) rfl) rfl (gw_gcons (List.mem_of_getElem? (i := 49) rfl) rfl (gw_gcons (List.mem_of_getElem? (i := 50) rfl) rfl (gw_gcons (List.mem_of_getElem? (i := 51) rfl) rfl (gw_gcons (List.mem_of_getElem? (i := 52) rfl) rfl (gw_gcons (List.mem_of_getElem? (i := 53) rfl) rfl (gw_gcons (List.mem_of_getElem? (i := 54) rfl) rfl (gw_gcons (List.mem_of_getElem? (i := 55) rfl) rfl (gw_gcons (List.mem_of_getElem? (i := 56) rfl) rfl (gw_gcons (List.mem_of_getElem? (i := 57) rfl) rfl (gw_gcons (List.mem_of_getElem? (i := 58) rfl) rfl (gw_gcons (List.mem_of_getElem? (i := 59) rfl) rfl (gw_gcons (List.mem_of_getElem? (i := 60) rfl) rfl (gw_gnil))))))))))))))))))))))))
set_option maxRecDepth 20000 in
theorem ggX11_flips_X11_make_2 : GoodIn wsX11_flips [Cond.fieldLink RX11 87 "StageCubeModel" "kindOf" "[S", Cond.fieldLink RX11 96 "StageCubeModel" "squareAt" "[I", Cond.fieldLink RX11 90 "StageCubeModel" "kindAt" "[I", Cond.methodLink RX11 177 yX11_unrank, Cond.instanceMethod yX11_unrank, Cond.selects RX11 yX11_unrank yX11_unrank, Cond.code yX11_unrank cX11_unrank 6 none, Cond.methodLink RX11 181 yX11_turnRow, Cond.instanceMethod yX11_turnRow, Cond.selects RX11 yX11_turnRow yX11_turnRow, Cond.code yX11_turnRow cX11_turnRow 3 none, Cond.fieldLink RX11 115 "StageCubeModel" "other" "[I", Cond.methodLink RX11 184 yX11_rank, Cond.instanceMethod yX11_rank, Cond.selects RX11 yX11_rank yX11_rank, Cond.code yX11_rank cX11_rank 6 (some .int), Cond.methodLink RX11 187 yX11_nameKind, Cond.instanceMethod yX11_nameKind, Cond.selects RX11 yX11_nameKind yX11_nameKind, Cond.code yX11_nameKind cX11_nameKind 6 none, Cond.fieldLink RX11 37 "StageCubeModel" "oldMore" "[I", Cond.methodLink RX11 156 yX11_makeThird, Cond.instanceMethod yX11_makeThird, Cond.selects RX11 yX11_makeThird yX11_makeThird] := gw_gcons (List.mem_of_getElem? (i := 61) rfl) rfl (gw_gcons (List.mem_of_getElem? (i := 62) rfl) rfl (gw_gcons (List.mem_of_getElem? (i := 63) rfl) rfl (gw_gcons (List.mem_of_getElem? (i := 64) rfl) rfl (gw_gcons (List.mem_of_getElem? (i := 65) rfl) rfl (gw_gcons (List.mem_of_getElem? (i := 66) rfl) rfl (gw_gcons (List.mem_of_getElem? (i := 67) rfl) rfl (gw_gcons (List.mem_of_getElem? (i := 68) rfl) rfl (gw_gcons (List.mem_of_getElem? (i := 69) rfl) rfl (gw_gcons (List.mem_of_getElem? (i := 70) rfl) rfl (gw_gcons (List.mem_of_getElem? (i := 71) rfl) rfl (gw_gcons (List.mem_of_getElem? (i := 72) rfl) rfl (gw_gcons (List.mem_of_getElem? (i := 73) rfl) rfl (gw_gcons (List.mem_of_getElem? (i := 74) rfl) rfl (gw_gcons (List.mem_of_getElem? (i := 75) rfl) rfl (gw_gcons (List.mem_of_getElem? (i := 76) rfl) rfl (gw_gcons (List.mem_of_getElem? (i := 77) rfl) rfl (gw_gcons (List.mem_of_getElem? (i := 78) rfl) rfl (gw_gcons (List.mem_of_getElem? (i := 79) rfl) rfl (gw_gcons (List.mem_of_getElem? (i := 80) rfl) rfl (gw_gcons (List.mem_of_getElem? (i := 81) rfl) rfl (gw_gcons (List.mem_of_getElem? (i := 82) rfl) rfl (gw_gcons (List.mem_of_getElem? (i := 83) rfl) rfl (gw_gcons (List.mem_of_getElem? (i := 84) rfl) rfl (gw_gnil))))))))))))))))))))))))
set_option maxRecDepth 20000 in
theorem ggX11_flips_X11_make_3 : GoodIn wsX11_flips [Cond.code yX11_makeThird cX11_makeThird 7 none, Cond.fieldLink RX11 106 "StageCubeModel" "move3" "[I", Cond.fieldLink RX11 66 "StageCubeModel" "near3" "[B", Cond.methodLink RX11 159 yX11_makeFourth, Cond.instanceMethod yX11_makeFourth, Cond.selects RX11 yX11_makeFourth yX11_makeFourth, Cond.code yX11_makeFourth cX11_makeFourth 5 none, Cond.fieldLink RX11 109 "StageCubeModel" "move4" "[I", Cond.constant RX11 69 (1327104), Cond.fieldLink RX11 70 "StageCubeModel" "near4" "[B", Cond.methodLink RX11 190 yX11_spread4, Cond.instanceMethod yX11_spread4, Cond.selects RX11 yX11_spread4 yX11_spread4, Cond.code yX11_spread4 cX11_spread4 10 (some .boolean)] := gw_gcons (List.mem_of_getElem? (i := 85) rfl) rfl (gw_gcons (List.mem_of_getElem? (i := 86) rfl) rfl (gw_gcons (List.mem_of_getElem? (i := 87) rfl) rfl (gw_gcons (List.mem_of_getElem? (i := 88) rfl) rfl (gw_gcons (List.mem_of_getElem? (i := 89) rfl) rfl (gw_gcons (List.mem_of_getElem? (i := 90) rfl) rfl (gw_gcons (List.mem_of_getElem? (i := 91) rfl) rfl (gw_gcons (List.mem_of_getElem? (i := 92) rfl) rfl (gw_gcons (List.mem_of_getElem? (i := 93) rfl) rfl (gw_gcons (List.mem_of_getElem? (i := 94) rfl) rfl (gw_gcons (List.mem_of_getElem? (i := 95) rfl) rfl (gw_gcons (List.mem_of_getElem? (i := 96) rfl) rfl (gw_gcons (List.mem_of_getElem? (i := 97) rfl) rfl (gw_gcons (List.mem_of_getElem? (i := 98) rfl) rfl (gw_gnil))))))))))))))
set_option maxRecDepth 20000 in
theorem ggX11_flips_X11_make : GoodIn wsX11_flips wsX11_make := gw_gcons (List.mem_of_getElem? (i := 13) rfl) rfl (goodIn_app (goodIn_app ((show GoodIn wsX11_flips wsX11_make_r1 from ggX11_flips_X11_make_0)) (goodIn_app ((show GoodIn wsX11_flips wsX11_make_r2 from ggX11_flips_X11_make_1)) (goodIn_app ((show GoodIn wsX11_flips wsX11_make_r3 from ggX11_flips_X11_make_2)) ((show GoodIn wsX11_flips wsX11_make_r4 from ggX11_flips_X11_make_3))))) (gw_gsub (fun _ h => List.mem_cons_of_mem _ (List.mem_append_right _ (h))) (by decide +kernel)))
end
section
set_option maxRecDepth 20000 in
theorem gX11_flips_X11_make : GoodIn wsX11_flips (wsV RX11 206 RX11 yX11_make wsX11_make) := goodIn_app (goodIn_of _ (by decide +kernel)) ggX11_flips_X11_make
set_option maxRecDepth 20000 in
theorem ggX11_flips_X11_look : GoodIn wsX11_flips wsX11_look := goodIn_r _ [102, 103, 8, 104, 9, 105, 6, 106, 7, 111, 112, 113, 114, 115, 116, 117, 118, 119, 120, 121, 122, 123, 124, 125, 126, 127, 128, 129, 130, 131, 132, 133, 134, 135, 136, 137, 138, 139, 140, 141, 142, 143, 144, 145, 146, 147, 148] (by decide +kernel) (by decide +kernel)
set_option maxRecDepth 20000 in
theorem gX11_flips_X11_look : GoodIn wsX11_flips (wsV RX11 129 RX11 yX11_look wsX11_look) := goodIn_app (goodIn_of _ (by decide +kernel)) ggX11_flips_X11_look
set_option maxRecDepth 20000 in
theorem ggX11_flips_X11_far : GoodIn wsX11_flips wsX11_far := goodIn_r _ [110, 104, 19, 106, 103, 43, 26, 37, 105, 87, 61, 28, 60, 94, 73, 74, 75, 4, 76, 111, 112, 113, 114, 115, 116, 117, 118, 119, 120, 121, 122, 123, 124, 125, 126, 127, 128, 129, 130, 131, 132, 133, 134, 135, 136, 137, 138, 139, 140, 141, 142, 143, 144, 145, 146, 147, 148] (by decide +kernel) (by decide +kernel)
set_option maxRecDepth 20000 in
theorem gX11_flips_X11_far : GoodIn wsX11_flips (wsV RX11 193 RX11 yX11_far wsX11_far) := goodIn_app (goodIn_of _ (by decide +kernel)) ggX11_flips_X11_far
theorem dX11_flips_0 : decode cX11_flips 0 = .ok (.aload_n 0, 1) := by decide +kernel
theorem dX11_flips_1 : decode cX11_flips 1 = .ok (.invokevirtual 202, 3) := by decide +kernel
theorem dX11_flips_4 : decode cX11_flips 4 = .ok (.istore_n 1, 1) := by decide +kernel
theorem dX11_flips_5 : decode cX11_flips 5 = .ok (.iload_n 1, 1) := by decide +kernel
theorem dX11_flips_6 : decode cX11_flips 6 = .ok (.iconst 1, 1) := by decide +kernel
theorem dX11_flips_7 : decode cX11_flips 7 = .ok (.if_icmp .eq 5, 3) := by decide +kernel
theorem dX11_flips_10 : decode cX11_flips 10 = .ok (.iload_n 1, 1) := by decide +kernel
theorem dX11_flips_11 : decode cX11_flips 11 = .ok (.ireturn, 1) := by decide +kernel
theorem dX11_flips_12 : decode cX11_flips 12 = .ok (.aload_n 0, 1) := by decide +kernel
theorem dX11_flips_13 : decode cX11_flips 13 = .ok (.invokevirtual 206, 3) := by decide +kernel
theorem dX11_flips_16 : decode cX11_flips 16 = .ok (.aload_n 0, 1) := by decide +kernel
theorem dX11_flips_17 : decode cX11_flips 17 = .ok (.invokevirtual 129, 3) := by decide +kernel
theorem dX11_flips_20 : decode cX11_flips 20 = .ok (.aload_n 0, 1) := by decide +kernel
theorem dX11_flips_21 : decode cX11_flips 21 = .ok (.iconst 0, 1) := by decide +kernel
theorem dX11_flips_22 : decode cX11_flips 22 = .ok (.invokevirtual 193, 3) := by decide +kernel
theorem dX11_flips_25 : decode cX11_flips 25 = .ok (.ireturn, 1) := by decide +kernel
theorem dJ6_bitCount_0f7a4_0 : decode cJ6_bitCount_0f7a4 0 = .ok (.iload_n 0, 1) := by decide +kernel
theorem dJ6_bitCount_0f7a4_1 : decode cJ6_bitCount_0f7a4 1 = .ok (.iload_n 0, 1) := by decide +kernel
theorem dJ6_bitCount_0f7a4_2 : decode cJ6_bitCount_0f7a4 2 = .ok (.iconst 1, 1) := by decide +kernel
theorem dJ6_bitCount_0f7a4_3 : decode cJ6_bitCount_0f7a4 3 = .ok (.iushr, 1) := by decide +kernel
theorem dJ6_bitCount_0f7a4_4 : decode cJ6_bitCount_0f7a4 4 = .ok (.ldc_w 265, 3) := by decide +kernel
theorem dJ6_bitCount_0f7a4_7 : decode cJ6_bitCount_0f7a4 7 = .ok (.iand, 1) := by decide +kernel
theorem dJ6_bitCount_0f7a4_8 : decode cJ6_bitCount_0f7a4 8 = .ok (.isub, 1) := by decide +kernel
theorem dJ6_bitCount_0f7a4_9 : decode cJ6_bitCount_0f7a4 9 = .ok (.istore_n 0, 1) := by decide +kernel
theorem dJ6_bitCount_0f7a4_10 : decode cJ6_bitCount_0f7a4 10 = .ok (.iload_n 0, 1) := by decide +kernel
theorem dJ6_bitCount_0f7a4_11 : decode cJ6_bitCount_0f7a4 11 = .ok (.ldc_w 266, 3) := by decide +kernel
theorem dJ6_bitCount_0f7a4_14 : decode cJ6_bitCount_0f7a4 14 = .ok (.iand, 1) := by decide +kernel
theorem dJ6_bitCount_0f7a4_15 : decode cJ6_bitCount_0f7a4 15 = .ok (.iload_n 0, 1) := by decide +kernel
theorem dJ6_bitCount_0f7a4_16 : decode cJ6_bitCount_0f7a4 16 = .ok (.iconst 2, 1) := by decide +kernel
theorem dJ6_bitCount_0f7a4_17 : decode cJ6_bitCount_0f7a4 17 = .ok (.iushr, 1) := by decide +kernel
theorem dJ6_bitCount_0f7a4_18 : decode cJ6_bitCount_0f7a4 18 = .ok (.ldc_w 266, 3) := by decide +kernel
theorem dJ6_bitCount_0f7a4_21 : decode cJ6_bitCount_0f7a4 21 = .ok (.iand, 1) := by decide +kernel
theorem dJ6_bitCount_0f7a4_22 : decode cJ6_bitCount_0f7a4 22 = .ok (.iadd, 1) := by decide +kernel
theorem dJ6_bitCount_0f7a4_23 : decode cJ6_bitCount_0f7a4 23 = .ok (.istore_n 0, 1) := by decide +kernel
theorem dJ6_bitCount_0f7a4_24 : decode cJ6_bitCount_0f7a4 24 = .ok (.iload_n 0, 1) := by decide +kernel
theorem dJ6_bitCount_0f7a4_25 : decode cJ6_bitCount_0f7a4 25 = .ok (.iload_n 0, 1) := by decide +kernel
theorem dJ6_bitCount_0f7a4_26 : decode cJ6_bitCount_0f7a4 26 = .ok (.iconst 4, 1) := by decide +kernel
theorem dJ6_bitCount_0f7a4_27 : decode cJ6_bitCount_0f7a4 27 = .ok (.iushr, 1) := by decide +kernel
theorem dJ6_bitCount_0f7a4_28 : decode cJ6_bitCount_0f7a4 28 = .ok (.iadd, 1) := by decide +kernel
theorem dJ6_bitCount_0f7a4_29 : decode cJ6_bitCount_0f7a4 29 = .ok (.ldc_w 267, 3) := by decide +kernel
theorem dJ6_bitCount_0f7a4_32 : decode cJ6_bitCount_0f7a4 32 = .ok (.iand, 1) := by decide +kernel
theorem dJ6_bitCount_0f7a4_33 : decode cJ6_bitCount_0f7a4 33 = .ok (.istore_n 0, 1) := by decide +kernel
theorem dJ6_bitCount_0f7a4_34 : decode cJ6_bitCount_0f7a4 34 = .ok (.iload_n 0, 1) := by decide +kernel
theorem dJ6_bitCount_0f7a4_35 : decode cJ6_bitCount_0f7a4 35 = .ok (.iload_n 0, 1) := by decide +kernel
theorem dJ6_bitCount_0f7a4_36 : decode cJ6_bitCount_0f7a4 36 = .ok (.bipush 8, 2) := by decide +kernel
theorem dJ6_bitCount_0f7a4_38 : decode cJ6_bitCount_0f7a4 38 = .ok (.iushr, 1) := by decide +kernel
theorem dJ6_bitCount_0f7a4_39 : decode cJ6_bitCount_0f7a4 39 = .ok (.iadd, 1) := by decide +kernel
theorem dJ6_bitCount_0f7a4_40 : decode cJ6_bitCount_0f7a4 40 = .ok (.istore_n 0, 1) := by decide +kernel
theorem dJ6_bitCount_0f7a4_41 : decode cJ6_bitCount_0f7a4 41 = .ok (.iload_n 0, 1) := by decide +kernel
theorem dJ6_bitCount_0f7a4_42 : decode cJ6_bitCount_0f7a4 42 = .ok (.iload_n 0, 1) := by decide +kernel
theorem dJ6_bitCount_0f7a4_43 : decode cJ6_bitCount_0f7a4 43 = .ok (.bipush 16, 2) := by decide +kernel
theorem dJ6_bitCount_0f7a4_45 : decode cJ6_bitCount_0f7a4 45 = .ok (.iushr, 1) := by decide +kernel
theorem dJ6_bitCount_0f7a4_46 : decode cJ6_bitCount_0f7a4 46 = .ok (.iadd, 1) := by decide +kernel
theorem dJ6_bitCount_0f7a4_47 : decode cJ6_bitCount_0f7a4 47 = .ok (.istore_n 0, 1) := by decide +kernel
theorem dJ6_bitCount_0f7a4_48 : decode cJ6_bitCount_0f7a4 48 = .ok (.iload_n 0, 1) := by decide +kernel
theorem dJ6_bitCount_0f7a4_49 : decode cJ6_bitCount_0f7a4 49 = .ok (.bipush 63, 2) := by decide +kernel
theorem dJ6_bitCount_0f7a4_51 : decode cJ6_bitCount_0f7a4 51 = .ok (.iand, 1) := by decide +kernel
theorem dJ6_bitCount_0f7a4_52 : decode cJ6_bitCount_0f7a4 52 = .ok (.ireturn, 1) := by decide +kernel
theorem dL_law_0 : decode cL_law 0 = .ok (.new 7, 3) := by decide +kernel
theorem dL_law_3 : decode cL_law 3 = .ok (.dup, 1) := by decide +kernel
theorem dL_law_4 : decode cL_law 4 = .ok (.invokespecial 9, 3) := by decide +kernel
theorem dL_law_7 : decode cL_law 7 = .ok (.astore_n 1, 1) := by decide +kernel
theorem dL_law_8 : decode cL_law 8 = .ok (.new 10, 3) := by decide +kernel
theorem dL_law_11 : decode cL_law 11 = .ok (.dup, 1) := by decide +kernel
theorem dL_law_12 : decode cL_law 12 = .ok (.invokespecial 12, 3) := by decide +kernel
theorem dL_law_15 : decode cL_law 15 = .ok (.astore_n 2, 1) := by decide +kernel
theorem dL_law_16 : decode cL_law 16 = .ok (.iconst 0, 1) := by decide +kernel
theorem dL_law_17 : decode cL_law 17 = .ok (.istore_n 3, 1) := by decide +kernel
theorem dL_law_18 : decode cL_law 18 = .ok (.iload_n 3, 1) := by decide +kernel
theorem dL_law_19 : decode cL_law 19 = .ok (.aload_n 0, 1) := by decide +kernel
theorem dL_law_20 : decode cL_law 20 = .ok (.arraylength, 1) := by decide +kernel
theorem dL_law_21 : decode cL_law 21 = .ok (.iconst 4, 1) := by decide +kernel
theorem dL_law_22 : decode cL_law 22 = .ok (.isub, 1) := by decide +kernel
theorem dL_law_23 : decode cL_law 23 = .ok (.if_icmp .gt 328, 3) := by decide +kernel
theorem dL_law_26 : decode cL_law 26 = .ok (.aload_n 0, 1) := by decide +kernel
theorem dL_law_27 : decode cL_law 27 = .ok (.iload_n 3, 1) := by decide +kernel
theorem dL_law_28 : decode cL_law 28 = .ok (.iaload, 1) := by decide +kernel
theorem dL_law_29 : decode cL_law 29 = .ok (.bipush 15, 2) := by decide +kernel
theorem dL_law_31 : decode cL_law 31 = .ok (.iand, 1) := by decide +kernel
theorem dL_law_32 : decode cL_law 32 = .ok (.tableswitch 313 0 10 #[60, 103, 146, 179, 192, 215, 228, 241, 254, 277, 300], 60) := by decide +kernel
theorem dL_law_92 : decode cL_law 92 = .ok (.aload_n 1, 1) := by decide +kernel
theorem dL_law_93 : decode cL_law 93 = .ok (.aload_n 0, 1) := by decide +kernel
theorem dL_law_94 : decode cL_law 94 = .ok (.iload_n 3, 1) := by decide +kernel
theorem dL_law_95 : decode cL_law 95 = .ok (.iconst 1, 1) := by decide +kernel
theorem dL_law_96 : decode cL_law 96 = .ok (.iadd, 1) := by decide +kernel
theorem dL_law_97 : decode cL_law 97 = .ok (.iaload, 1) := by decide +kernel
theorem dL_law_98 : decode cL_law 98 = .ok (.aload_n 0, 1) := by decide +kernel
theorem dL_law_99 : decode cL_law 99 = .ok (.iload_n 3, 1) := by decide +kernel
theorem dL_law_100 : decode cL_law 100 = .ok (.iconst 2, 1) := by decide +kernel
theorem dL_law_101 : decode cL_law 101 = .ok (.iadd, 1) := by decide +kernel
theorem dL_law_102 : decode cL_law 102 = .ok (.iaload, 1) := by decide +kernel
theorem dL_law_103 : decode cL_law 103 = .ok (.aload_n 0, 1) := by decide +kernel
theorem dL_law_104 : decode cL_law 104 = .ok (.iload_n 3, 1) := by decide +kernel
theorem dL_law_105 : decode cL_law 105 = .ok (.iconst 3, 1) := by decide +kernel
theorem dL_law_106 : decode cL_law 106 = .ok (.iadd, 1) := by decide +kernel
theorem dL_law_107 : decode cL_law 107 = .ok (.iaload, 1) := by decide +kernel
theorem dL_law_108 : decode cL_law 108 = .ok (.invokevirtual 13, 3) := by decide +kernel
theorem dL_law_111 : decode cL_law 111 = .ok (.aload_n 2, 1) := by decide +kernel
theorem dL_law_112 : decode cL_law 112 = .ok (.aload_n 0, 1) := by decide +kernel
theorem dL_law_113 : decode cL_law 113 = .ok (.iload_n 3, 1) := by decide +kernel
theorem dL_law_114 : decode cL_law 114 = .ok (.iconst 1, 1) := by decide +kernel
theorem dL_law_115 : decode cL_law 115 = .ok (.iadd, 1) := by decide +kernel
theorem dL_law_116 : decode cL_law 116 = .ok (.iaload, 1) := by decide +kernel
theorem dL_law_117 : decode cL_law 117 = .ok (.aload_n 0, 1) := by decide +kernel
theorem dL_law_118 : decode cL_law 118 = .ok (.iload_n 3, 1) := by decide +kernel
theorem dL_law_119 : decode cL_law 119 = .ok (.iconst 2, 1) := by decide +kernel
theorem dL_law_120 : decode cL_law 120 = .ok (.iadd, 1) := by decide +kernel
theorem dL_law_121 : decode cL_law 121 = .ok (.iaload, 1) := by decide +kernel
theorem dL_law_122 : decode cL_law 122 = .ok (.aload_n 0, 1) := by decide +kernel
theorem dL_law_123 : decode cL_law 123 = .ok (.iload_n 3, 1) := by decide +kernel
theorem dL_law_124 : decode cL_law 124 = .ok (.iconst 3, 1) := by decide +kernel
theorem dL_law_125 : decode cL_law 125 = .ok (.iadd, 1) := by decide +kernel
theorem dL_law_126 : decode cL_law 126 = .ok (.iaload, 1) := by decide +kernel
theorem dL_law_127 : decode cL_law 127 = .ok (.invokevirtual 17, 3) := by decide +kernel
theorem dL_law_130 : decode cL_law 130 = .ok (.if_icmp .eq 215, 3) := by decide +kernel
theorem dL_law_133 : decode cL_law 133 = .ok (.iconst 0, 1) := by decide +kernel
theorem dL_law_134 : decode cL_law 134 = .ok (.ireturn, 1) := by decide +kernel
theorem dL_law_135 : decode cL_law 135 = .ok (.aload_n 1, 1) := by decide +kernel
theorem dL_law_136 : decode cL_law 136 = .ok (.aload_n 0, 1) := by decide +kernel
theorem dL_law_137 : decode cL_law 137 = .ok (.iload_n 3, 1) := by decide +kernel
theorem dL_law_138 : decode cL_law 138 = .ok (.iconst 1, 1) := by decide +kernel
theorem dL_law_139 : decode cL_law 139 = .ok (.iadd, 1) := by decide +kernel
theorem dL_law_140 : decode cL_law 140 = .ok (.iaload, 1) := by decide +kernel
theorem dL_law_141 : decode cL_law 141 = .ok (.aload_n 0, 1) := by decide +kernel
theorem dL_law_142 : decode cL_law 142 = .ok (.iload_n 3, 1) := by decide +kernel
theorem dL_law_143 : decode cL_law 143 = .ok (.iconst 2, 1) := by decide +kernel
theorem dL_law_144 : decode cL_law 144 = .ok (.iadd, 1) := by decide +kernel
theorem dL_law_145 : decode cL_law 145 = .ok (.iaload, 1) := by decide +kernel
theorem dL_law_146 : decode cL_law 146 = .ok (.aload_n 0, 1) := by decide +kernel
theorem dL_law_147 : decode cL_law 147 = .ok (.iload_n 3, 1) := by decide +kernel
theorem dL_law_148 : decode cL_law 148 = .ok (.iconst 3, 1) := by decide +kernel
theorem dL_law_149 : decode cL_law 149 = .ok (.iadd, 1) := by decide +kernel
theorem dL_law_150 : decode cL_law 150 = .ok (.iaload, 1) := by decide +kernel
theorem dL_law_151 : decode cL_law 151 = .ok (.invokevirtual 18, 3) := by decide +kernel
theorem dL_law_154 : decode cL_law 154 = .ok (.aload_n 2, 1) := by decide +kernel
theorem dL_law_155 : decode cL_law 155 = .ok (.aload_n 0, 1) := by decide +kernel
theorem dL_law_156 : decode cL_law 156 = .ok (.iload_n 3, 1) := by decide +kernel
theorem dL_law_157 : decode cL_law 157 = .ok (.iconst 1, 1) := by decide +kernel
theorem dL_law_158 : decode cL_law 158 = .ok (.iadd, 1) := by decide +kernel
theorem dL_law_159 : decode cL_law 159 = .ok (.iaload, 1) := by decide +kernel
theorem dL_law_160 : decode cL_law 160 = .ok (.aload_n 0, 1) := by decide +kernel
theorem dL_law_161 : decode cL_law 161 = .ok (.iload_n 3, 1) := by decide +kernel
theorem dL_law_162 : decode cL_law 162 = .ok (.iconst 2, 1) := by decide +kernel
theorem dL_law_163 : decode cL_law 163 = .ok (.iadd, 1) := by decide +kernel
theorem dL_law_164 : decode cL_law 164 = .ok (.iaload, 1) := by decide +kernel
theorem dL_law_165 : decode cL_law 165 = .ok (.aload_n 0, 1) := by decide +kernel
theorem dL_law_166 : decode cL_law 166 = .ok (.iload_n 3, 1) := by decide +kernel
theorem dL_law_167 : decode cL_law 167 = .ok (.iconst 3, 1) := by decide +kernel
theorem dL_law_168 : decode cL_law 168 = .ok (.iadd, 1) := by decide +kernel
theorem dL_law_169 : decode cL_law 169 = .ok (.iaload, 1) := by decide +kernel
theorem dL_law_170 : decode cL_law 170 = .ok (.invokevirtual 21, 3) := by decide +kernel
theorem dL_law_173 : decode cL_law 173 = .ok (.if_icmp .eq 172, 3) := by decide +kernel
theorem dL_law_176 : decode cL_law 176 = .ok (.iconst 0, 1) := by decide +kernel
theorem dL_law_177 : decode cL_law 177 = .ok (.ireturn, 1) := by decide +kernel
theorem dL_law_178 : decode cL_law 178 = .ok (.aload_n 1, 1) := by decide +kernel
theorem dL_law_179 : decode cL_law 179 = .ok (.aload_n 0, 1) := by decide +kernel
theorem dL_law_180 : decode cL_law 180 = .ok (.iload_n 3, 1) := by decide +kernel
theorem dL_law_181 : decode cL_law 181 = .ok (.iconst 1, 1) := by decide +kernel
theorem dL_law_182 : decode cL_law 182 = .ok (.iadd, 1) := by decide +kernel
theorem dL_law_183 : decode cL_law 183 = .ok (.iaload, 1) := by decide +kernel
theorem dL_law_184 : decode cL_law 184 = .ok (.aload_n 0, 1) := by decide +kernel
theorem dL_law_185 : decode cL_law 185 = .ok (.iload_n 3, 1) := by decide +kernel
theorem dL_law_186 : decode cL_law 186 = .ok (.iconst 2, 1) := by decide +kernel
theorem dL_law_187 : decode cL_law 187 = .ok (.iadd, 1) := by decide +kernel
theorem dL_law_188 : decode cL_law 188 = .ok (.iaload, 1) := by decide +kernel
theorem dL_law_189 : decode cL_law 189 = .ok (.invokevirtual 22, 3) := by decide +kernel
theorem dL_law_192 : decode cL_law 192 = .ok (.aload_n 2, 1) := by decide +kernel
theorem dL_law_193 : decode cL_law 193 = .ok (.aload_n 0, 1) := by decide +kernel
theorem dL_law_194 : decode cL_law 194 = .ok (.iload_n 3, 1) := by decide +kernel
theorem dL_law_195 : decode cL_law 195 = .ok (.iconst 1, 1) := by decide +kernel
theorem dL_law_196 : decode cL_law 196 = .ok (.iadd, 1) := by decide +kernel
theorem dL_law_197 : decode cL_law 197 = .ok (.iaload, 1) := by decide +kernel
theorem dL_law_198 : decode cL_law 198 = .ok (.aload_n 0, 1) := by decide +kernel
theorem dL_law_199 : decode cL_law 199 = .ok (.iload_n 3, 1) := by decide +kernel
theorem dL_law_200 : decode cL_law 200 = .ok (.iconst 2, 1) := by decide +kernel
theorem dL_law_201 : decode cL_law 201 = .ok (.iadd, 1) := by decide +kernel
theorem dL_law_202 : decode cL_law 202 = .ok (.iaload, 1) := by decide +kernel
theorem dL_law_203 : decode cL_law 203 = .ok (.invokevirtual 26, 3) := by decide +kernel
theorem dL_law_206 : decode cL_law 206 = .ok (.if_icmp .eq 139, 3) := by decide +kernel
theorem dL_law_209 : decode cL_law 209 = .ok (.iconst 0, 1) := by decide +kernel
theorem dL_law_210 : decode cL_law 210 = .ok (.ireturn, 1) := by decide +kernel
theorem dL_law_211 : decode cL_law 211 = .ok (.aload_n 1, 1) := by decide +kernel
theorem dL_law_212 : decode cL_law 212 = .ok (.invokevirtual 27, 3) := by decide +kernel
theorem dL_law_215 : decode cL_law 215 = .ok (.aload_n 2, 1) := by decide +kernel
theorem dL_law_216 : decode cL_law 216 = .ok (.invokevirtual 31, 3) := by decide +kernel
theorem dL_law_219 : decode cL_law 219 = .ok (.if_icmp .eq 126, 3) := by decide +kernel
theorem dL_law_222 : decode cL_law 222 = .ok (.iconst 0, 1) := by decide +kernel
theorem dL_law_223 : decode cL_law 223 = .ok (.ireturn, 1) := by decide +kernel
theorem dL_law_224 : decode cL_law 224 = .ok (.aload_n 1, 1) := by decide +kernel
theorem dL_law_225 : decode cL_law 225 = .ok (.aload_n 0, 1) := by decide +kernel
theorem dL_law_226 : decode cL_law 226 = .ok (.iload_n 3, 1) := by decide +kernel
theorem dL_law_227 : decode cL_law 227 = .ok (.iconst 1, 1) := by decide +kernel
theorem dL_law_228 : decode cL_law 228 = .ok (.iadd, 1) := by decide +kernel
theorem dL_law_229 : decode cL_law 229 = .ok (.iaload, 1) := by decide +kernel
theorem dL_law_230 : decode cL_law 230 = .ok (.invokevirtual 32, 3) := by decide +kernel
theorem dL_law_233 : decode cL_law 233 = .ok (.aload_n 2, 1) := by decide +kernel
theorem dL_law_234 : decode cL_law 234 = .ok (.aload_n 0, 1) := by decide +kernel
theorem dL_law_235 : decode cL_law 235 = .ok (.iload_n 3, 1) := by decide +kernel
theorem dL_law_236 : decode cL_law 236 = .ok (.iconst 1, 1) := by decide +kernel
theorem dL_law_237 : decode cL_law 237 = .ok (.iadd, 1) := by decide +kernel
theorem dL_law_238 : decode cL_law 238 = .ok (.iaload, 1) := by decide +kernel
theorem dL_law_239 : decode cL_law 239 = .ok (.invokevirtual 36, 3) := by decide +kernel
theorem dL_law_242 : decode cL_law 242 = .ok (.if_icmp .eq 103, 3) := by decide +kernel
theorem dL_law_245 : decode cL_law 245 = .ok (.iconst 0, 1) := by decide +kernel
theorem dL_law_246 : decode cL_law 246 = .ok (.ireturn, 1) := by decide +kernel
theorem dL_law_247 : decode cL_law 247 = .ok (.aload_n 1, 1) := by decide +kernel
theorem dL_law_248 : decode cL_law 248 = .ok (.invokevirtual 37, 3) := by decide +kernel
theorem dL_law_251 : decode cL_law 251 = .ok (.aload_n 2, 1) := by decide +kernel
theorem dL_law_252 : decode cL_law 252 = .ok (.invokevirtual 40, 3) := by decide +kernel
theorem dL_law_255 : decode cL_law 255 = .ok (.if_icmp .eq 90, 3) := by decide +kernel
theorem dL_law_258 : decode cL_law 258 = .ok (.iconst 0, 1) := by decide +kernel
theorem dL_law_259 : decode cL_law 259 = .ok (.ireturn, 1) := by decide +kernel
theorem dL_law_260 : decode cL_law 260 = .ok (.aload_n 1, 1) := by decide +kernel
theorem dL_law_261 : decode cL_law 261 = .ok (.invokevirtual 41, 3) := by decide +kernel
theorem dL_law_264 : decode cL_law 264 = .ok (.aload_n 2, 1) := by decide +kernel
theorem dL_law_265 : decode cL_law 265 = .ok (.invokevirtual 44, 3) := by decide +kernel
theorem dL_law_268 : decode cL_law 268 = .ok (.if_icmp .eq 77, 3) := by decide +kernel
theorem dL_law_271 : decode cL_law 271 = .ok (.iconst 0, 1) := by decide +kernel
theorem dL_law_272 : decode cL_law 272 = .ok (.ireturn, 1) := by decide +kernel
theorem dL_law_273 : decode cL_law 273 = .ok (.aload_n 1, 1) := by decide +kernel
theorem dL_law_274 : decode cL_law 274 = .ok (.invokevirtual 45, 3) := by decide +kernel
theorem dL_law_277 : decode cL_law 277 = .ok (.aload_n 2, 1) := by decide +kernel
theorem dL_law_278 : decode cL_law 278 = .ok (.invokevirtual 48, 3) := by decide +kernel
theorem dL_law_281 : decode cL_law 281 = .ok (.if_icmp .eq 64, 3) := by decide +kernel
theorem dL_law_284 : decode cL_law 284 = .ok (.iconst 0, 1) := by decide +kernel
theorem dL_law_285 : decode cL_law 285 = .ok (.ireturn, 1) := by decide +kernel
theorem dL_law_286 : decode cL_law 286 = .ok (.aload_n 1, 1) := by decide +kernel
theorem dL_law_287 : decode cL_law 287 = .ok (.aload_n 0, 1) := by decide +kernel
theorem dL_law_288 : decode cL_law 288 = .ok (.iload_n 3, 1) := by decide +kernel
theorem dL_law_289 : decode cL_law 289 = .ok (.iconst 1, 1) := by decide +kernel
theorem dL_law_290 : decode cL_law 290 = .ok (.iadd, 1) := by decide +kernel
theorem dL_law_291 : decode cL_law 291 = .ok (.iaload, 1) := by decide +kernel
theorem dL_law_292 : decode cL_law 292 = .ok (.invokevirtual 49, 3) := by decide +kernel
theorem dL_law_295 : decode cL_law 295 = .ok (.aload_n 2, 1) := by decide +kernel
theorem dL_law_296 : decode cL_law 296 = .ok (.aload_n 0, 1) := by decide +kernel
theorem dL_law_297 : decode cL_law 297 = .ok (.iload_n 3, 1) := by decide +kernel
theorem dL_law_298 : decode cL_law 298 = .ok (.iconst 1, 1) := by decide +kernel
theorem dL_law_299 : decode cL_law 299 = .ok (.iadd, 1) := by decide +kernel
theorem dL_law_300 : decode cL_law 300 = .ok (.iaload, 1) := by decide +kernel
theorem dL_law_301 : decode cL_law 301 = .ok (.invokevirtual 52, 3) := by decide +kernel
theorem dL_law_304 : decode cL_law 304 = .ok (.if_icmp .eq 41, 3) := by decide +kernel
theorem dL_law_307 : decode cL_law 307 = .ok (.iconst 0, 1) := by decide +kernel
theorem dL_law_308 : decode cL_law 308 = .ok (.ireturn, 1) := by decide +kernel
theorem dL_law_309 : decode cL_law 309 = .ok (.aload_n 1, 1) := by decide +kernel
theorem dL_law_310 : decode cL_law 310 = .ok (.aload_n 0, 1) := by decide +kernel
theorem dL_law_311 : decode cL_law 311 = .ok (.iload_n 3, 1) := by decide +kernel
theorem dL_law_312 : decode cL_law 312 = .ok (.iconst 1, 1) := by decide +kernel
theorem dL_law_313 : decode cL_law 313 = .ok (.iadd, 1) := by decide +kernel
theorem dL_law_314 : decode cL_law 314 = .ok (.iaload, 1) := by decide +kernel
theorem dL_law_315 : decode cL_law 315 = .ok (.invokevirtual 53, 3) := by decide +kernel
theorem dL_law_318 : decode cL_law 318 = .ok (.aload_n 2, 1) := by decide +kernel
theorem dL_law_319 : decode cL_law 319 = .ok (.aload_n 0, 1) := by decide +kernel
theorem dL_law_320 : decode cL_law 320 = .ok (.iload_n 3, 1) := by decide +kernel
theorem dL_law_321 : decode cL_law 321 = .ok (.iconst 1, 1) := by decide +kernel
theorem dL_law_322 : decode cL_law 322 = .ok (.iadd, 1) := by decide +kernel
theorem dL_law_323 : decode cL_law 323 = .ok (.iaload, 1) := by decide +kernel
theorem dL_law_324 : decode cL_law 324 = .ok (.invokevirtual 56, 3) := by decide +kernel
theorem dL_law_327 : decode cL_law 327 = .ok (.if_icmp .eq 18, 3) := by decide +kernel
theorem dL_law_330 : decode cL_law 330 = .ok (.iconst 0, 1) := by decide +kernel
theorem dL_law_331 : decode cL_law 331 = .ok (.ireturn, 1) := by decide +kernel
theorem dL_law_332 : decode cL_law 332 = .ok (.aload_n 1, 1) := by decide +kernel
theorem dL_law_333 : decode cL_law 333 = .ok (.invokevirtual 57, 3) := by decide +kernel
theorem dL_law_336 : decode cL_law 336 = .ok (.aload_n 2, 1) := by decide +kernel
theorem dL_law_337 : decode cL_law 337 = .ok (.invokevirtual 60, 3) := by decide +kernel
theorem dL_law_340 : decode cL_law 340 = .ok (.if_icmp .eq 5, 3) := by decide +kernel
theorem dL_law_343 : decode cL_law 343 = .ok (.iconst 0, 1) := by decide +kernel
theorem dL_law_344 : decode cL_law 344 = .ok (.ireturn, 1) := by decide +kernel
theorem dL_law_345 : decode cL_law 345 = .ok (.iinc 3 4, 3) := by decide +kernel
theorem dL_law_348 : decode cL_law 348 = .ok (.goto (-330), 3) := by decide +kernel
theorem dL_law_351 : decode cL_law 351 = .ok (.iconst 1, 1) := by decide +kernel
theorem dL_law_352 : decode cL_law 352 = .ok (.ireturn, 1) := by decide +kernel
abbrev vwCl : List vw_C := [(RX0, TX0, 4), (RX1, TX1, 2), (RX3, TX3, 3), (RX5, TX5, 5), (RX6, TX6, 6), (RX7, TX7, 6), (RX8, TX8, 5), (RX9, TX9, 7), (RX10, TX10, 7), (RX11, TX11, 38)]
end
section
/-! My own walk over the kit's rows: a picture of a frame is (cells, pc, locals, stack); heap and slots are quantified away. -/
/-- a predicate on the statics that a method may read: it stands while nothing outside A changes -/
def gw_zT (zz : (Nat → Prop) → State → Heap → Prop) : Prop :=
  (∀ (A : Nat → Prop) (u U : State) (H : Heap), u.vm = U.vm ∨ u.WarmedH U.vm → zz A u H → zz A U H) ∧ ∀ (A B : Nat → Prop) (U : State) (H H1 : Heap), (∀ q, B q → A q) → (∀ a : Nat, a < H.size → ¬ A a → H1[a]? = H[a]?) → zz A U H → zz B U H1
abbrev gw_K : Type := Program × Launch × Env × Room × State × MethodId × Array Value × List Frame × Method × Code × (State → Prop) × Nat × va_G × (Nat → Prop)
abbrev kp (K : gw_K) : Program := K.1
abbrev kl (K : gw_K) : Launch := K.2.1
abbrev ke (K : gw_K) : Env := K.2.2.1
abbrev kR (K : gw_K) : Room := K.2.2.2.1
abbrev ks (K : gw_K) : State := K.2.2.2.2.1
abbrev km (K : gw_K) : MethodId := K.2.2.2.2.2.1
abbrev ka (K : gw_K) : Array Value := K.2.2.2.2.2.2.1
abbrev kb (K : gw_K) : List Frame := K.2.2.2.2.2.2.2.1
abbrev kM (K : gw_K) : Method := K.2.2.2.2.2.2.2.2.1
abbrev kc (K : gw_K) : Code := K.2.2.2.2.2.2.2.2.2.1
abbrev kQ (K : gw_K) : State → Prop := K.2.2.2.2.2.2.2.2.2.2.1
abbrev kn (K : gw_K) : Nat := K.2.2.2.2.2.2.2.2.2.2.2.1
abbrev kD (K : gw_K) : va_G := K.2.2.2.2.2.2.2.2.2.2.2.2.1
abbrev kA (K : gw_K) : Nat → Prop := K.2.2.2.2.2.2.2.2.2.2.2.2.2
def gw_x (K : gw_K) (cc : ByteArray) (own : String) (Ts : List Cond) (tys : List (ClassId × FieldType)) (zz : (Nat → Prop) → State → Heap → Prop) : Prop :=
  CallFix (kp K) (km K) (kc K) cc (kn K) (ks K) (ka K) Ts own ∧ va_K (kD K) vwCl tys (ks K) ∧ (∀ q, (ks K).heap.size ≤ q → kA K q) ∧ zz (kA K) (ks K) (ks K).heap ∧ gw_zT zz
def gw_G (K : gw_K) (ws : va_W) (cells slots pc : Nat) (lv : List (Nat × Value)) (st : List Value) : Prop :=
  ∀ (H : Heap) (locs : List Loc) (ls : Array Slot), lv_has ls (kn K) lv → va_P (kD K) vwCl ws H → va_D (kA K) ws → va_S (kA K) (ks K).heap H locs → W (kp K) (kl K) (ke K) (kR K) (ks K) (km K) (ka K) (kb K) (kM K) (kc K) H locs cells slots (kQ K) (F0 (km K) pc ls st)
abbrev iN (n : Nat) : Value := .int (nI n)
/-- contracts: what a method does to the cells w0 -/
def gw_P (D : va_G) (tys : List (ClassId × FieldType)) (zz : (Nat → Prop) → State → Heap → Prop) (w0 : va_W) (sz : Nat) (U : State) : Prop :=
  U.heap.size = sz ∧ va_P D vwCl w0 U.heap ∧ va_K D vwCl tys U ∧ va_D (fun _ => True) w0 ∧ zz (va_A w0 sz) U U.heap
def gw_B {S : Type} (D : va_G) (tys : List (ClassId × FieldType)) (A : Nat → Prop) (B : S → va_W) (u : S) (t : State) : Prop := va_P D vwCl (B u) t.heap ∧ va_K D vwCl tys t ∧ va_D A (B u)
def gw_CI {S : Type} (l : Launch) (y : MethodName) (wy : List Cond) (fr lc mc ms : Nat) (D : va_G) (tys : List (ClassId × FieldType)) (zz : (Nat → Prop) → State → Heap → Prop) (w0 : va_W) (av : List Value) (post : Int32 → S → Prop) (B : S → va_W) : Prop :=
  ∀ sz : Nat, Met l y wy { frames := fr, cells := mc, slots := ms, locals := lc } (va_Pc av (gw_P D tys zz w0 sz)) (va_Qi post (gw_B D tys (va_A w0 sz) B) (va_A w0 sz)) mc ms (va_A w0 sz)
def gw_CV {S : Type} (l : Launch) (y : MethodName) (wy : List Cond) (fr lc mc ms : Nat) (D : va_G) (tys : List (ClassId × FieldType)) (zz : (Nat → Prop) → State → Heap → Prop) (w0 : va_W) (av : List Value) (post : S → Prop) (B : S → va_W) : Prop :=
  ∀ sz : Nat, Met l y wy { frames := fr, cells := mc, slots := ms, locals := lc } (va_Pc av (gw_P D tys zz w0 sz)) (va_Qv post (gw_B D tys (va_A w0 sz) B) (va_A w0 sz)) mc ms (va_A w0 sz)
def gw_BR {S : Type} (D : va_G) (tys : List (ClassId × FieldType)) (A : Nat → Prop) (B : S → Nat → va_W) (u : S) (a : Nat) (t : State) : Prop := va_P D vwCl (B u a) t.heap ∧ va_K D vwCl tys t ∧ va_D A (B u a)
def gw_CR {S : Type} (l : Launch) (y : MethodName) (wy : List Cond) (fr lc mc ms : Nat) (D : va_G) (tys : List (ClassId × FieldType)) (zz : (Nat → Prop) → State → Heap → Prop) (w0 : va_W) (av : List Value) (post : S → Prop) (B : S → Nat → va_W) : Prop :=
  ∀ sz : Nat, Met l y wy { frames := fr, cells := mc, slots := ms, locals := lc } (va_Pc av (gw_P D tys zz w0 sz)) (va_Qr post (gw_BR D tys (va_A w0 sz) B) (va_A w0 sz)) mc ms (va_A w0 sz)
section GWE
theorem gw_CI.of {S : Type} {l : Launch} {y : MethodName} {wy wy' : List Cond} {fr lc mc ms : Nat} {D : va_G} {tys : List (ClassId × FieldType)} {zz : (Nat → Prop) → State → Heap → Prop} {w0 : va_W} {av : List Value} {post : Int32 → S → Prop} {B : S → va_W} {cc : ByteArray} {maxL : Nat} {rt : FieldType} (hz : gw_zT zz) (hy : plainName y.cls = true) (hw : wy = Cond.code y cc maxL (some rt) :: wy') (hlen : (lg_sl av).length ≤ maxL)
    (body : ∀ (K : gw_K), gw_x K cc y.cls wy tys zz → kl K = l → kn K = maxL → kR K = { frames := fr, cells := mc, slots := ms, locals := lc } → kD K = D → (kM K).name = y.name → (∀ {ws : va_W} {cells slots pc : Nat} {lv : List (Nat × Value)} {v : Int32} (u : S), decode cc pc = .ok (.ireturn, 1) → narrow rt (.int v) = .int v → post v u → ws = B u → cells ≤ mc → slots ≤ ms → gw_G K ws cells slots pc lv [.int v]) →
      gw_G K w0 0 0 0 (lv_args 0 av) []) : gw_CI l y wy fr lc mc ms D tys zz w0 av post B := by
  intro sz
  refine Met.ofW (cc := cc) (maxL := maxL) (ret := some rt) hy hw ?_
  intro p e s m args below meth c s₁ BB hml hv
  obtain ⟨rfl, hsz, hP, hK, hD0, hzz⟩ := hv
  have hts := atoms_spec (ws := wy) BB.pre
  have hown : s.vm.findClass y.cls = some m.cls := findClass_of_methodNamed BB.named
  have hin := (name_of_methodNamed BB.named BB.method).1
  subst hsz
  have hD := hD0.self (sz := s.heap.size)
  have hl := lv_entry av (n := maxL) hlen
  rw [lg_entry_eq]
  exact body (p, l, e, { frames := fr, cells := mc, slots := ms, locals := lc }, s, m, av.toArray, below, meth, c, MQ below (va_Qi post (gw_B D tys (va_A w0 s.heap.size) B) (va_A w0 s.heap.size)) av.toArray s mc ms (va_A w0 s.heap.size), maxL, D, va_A w0 s.heap.size) ⟨⟨BB.exec, BB.bytes, hml, hown, hts⟩, hK, fun q h => Or.inr h, hzz, hz⟩ rfl rfl rfl rfl hin (fun u hd hn hp hB hc hs H locs ls hl hP hD hS => W.widen hc hs (W.zret BB.exec BB.bytes BB.returns hn (fun t ht hW => ⟨⟨_, u, rfl, hp, by rw [ht, ← hB]; exact hP, va_K.moved hW.alike hK, hB ▸ hD⟩, hS.F ht⟩) hS.2.2 hd BB.notSynchronized)) s.heap [] _ hl hP hD va_S.rf
theorem gw_CV.of {S : Type} {l : Launch} {y : MethodName} {wy wy' : List Cond} {fr lc mc ms : Nat} {D : va_G} {tys : List (ClassId × FieldType)} {zz : (Nat → Prop) → State → Heap → Prop} {w0 : va_W} {av : List Value} {post : S → Prop} {B : S → va_W} {cc : ByteArray} {maxL : Nat} (hz : gw_zT zz) (hy : plainName y.cls = true) (hw : wy = Cond.code y cc maxL (none) :: wy') (hlen : (lg_sl av).length ≤ maxL)
    (body : ∀ (K : gw_K), gw_x K cc y.cls wy tys zz → kl K = l → kn K = maxL → kR K = { frames := fr, cells := mc, slots := ms, locals := lc } → kD K = D → (kM K).name = y.name → (∀ {ws : va_W} {cells slots pc : Nat} {lv : List (Nat × Value)} (u : S), decode cc pc = .ok (.return_, 1) → post u → ws = B u → cells ≤ mc → slots ≤ ms → gw_G K ws cells slots pc lv []) →
      gw_G K w0 0 0 0 (lv_args 0 av) []) : gw_CV l y wy fr lc mc ms D tys zz w0 av post B := by
  intro sz
  refine Met.ofW (cc := cc) (maxL := maxL) (ret := none) hy hw ?_
  intro p e s m args below meth c s₁ BB hml hv
  obtain ⟨rfl, hsz, hP, hK, hD0, hzz⟩ := hv
  have hts := atoms_spec (ws := wy) BB.pre
  have hown : s.vm.findClass y.cls = some m.cls := findClass_of_methodNamed BB.named
  have hin := (name_of_methodNamed BB.named BB.method).1
  subst hsz
  have hD := hD0.self (sz := s.heap.size)
  have hl := lv_entry av (n := maxL) hlen
  rw [lg_entry_eq]
  exact body (p, l, e, { frames := fr, cells := mc, slots := ms, locals := lc }, s, m, av.toArray, below, meth, c, MQ below (va_Qv post (gw_B D tys (va_A w0 s.heap.size) B) (va_A w0 s.heap.size)) av.toArray s mc ms (va_A w0 s.heap.size), maxL, D, va_A w0 s.heap.size) ⟨⟨BB.exec, BB.bytes, hml, hown, hts⟩, hK, fun q h => Or.inr h, hzz, hz⟩ rfl rfl rfl rfl hin (fun u hd hp hB hc hs H locs ls hl hP hD hS => W.widen hc hs (W.vret BB.exec BB.bytes BB.returns (fun t ht hW => ⟨⟨u, rfl, hp, by rw [ht, ← hB]; exact hP, va_K.moved hW.alike hK, hB ▸ hD⟩, hS.F ht⟩) hS.2.2 hd BB.notSynchronized)) s.heap [] _ hl hP hD va_S.rf
theorem gw_CR.of {S : Type} {l : Launch} {y : MethodName} {wy wy' : List Cond} {fr lc mc ms : Nat} {D : va_G} {tys : List (ClassId × FieldType)} {zz : (Nat → Prop) → State → Heap → Prop} {w0 : va_W} {av : List Value} {post : S → Prop} {B : S → Nat → va_W} {cc : ByteArray} {maxL : Nat} {rt : String} (hz : gw_zT zz) (hy : plainName y.cls = true) (hw : wy = Cond.code y cc maxL (some (.object rt)) :: wy') (hlen : (lg_sl av).length ≤ maxL)
    (body : ∀ (K : gw_K), gw_x K cc y.cls wy tys zz → kl K = l → kn K = maxL → kR K = { frames := fr, cells := mc, slots := ms, locals := lc } → kD K = D → (kM K).name = y.name → (∀ {ws : va_W} {cells slots pc : Nat} {lv : List (Nat × Value)} (u : S) (a : Nat), decode cc pc = .ok (.areturn, 1) → post u → ws = B u a → cells ≤ mc → slots ≤ ms → gw_G K ws cells slots pc lv [.ref a]) →
      gw_G K w0 0 0 0 (lv_args 0 av) []) : gw_CR l y wy fr lc mc ms D tys zz w0 av post B := by
  intro sz
  refine Met.ofW (cc := cc) (maxL := maxL) (ret := some (.object rt)) hy hw ?_
  intro p e s m args below meth c s₁ BB hml hv
  obtain ⟨rfl, hsz, hP, hK, hD0, hzz⟩ := hv
  have hts := atoms_spec (ws := wy) BB.pre
  have hown : s.vm.findClass y.cls = some m.cls := findClass_of_methodNamed BB.named
  have hin := (name_of_methodNamed BB.named BB.method).1
  subst hsz
  have hD := hD0.self (sz := s.heap.size)
  have hl := lv_entry av (n := maxL) hlen
  rw [lg_entry_eq]
  exact body (p, l, e, { frames := fr, cells := mc, slots := ms, locals := lc }, s, m, av.toArray, below, meth, c, MQ below (va_Qr post (gw_BR D tys (va_A w0 s.heap.size) B) (va_A w0 s.heap.size)) av.toArray s mc ms (va_A w0 s.heap.size), maxL, D, va_A w0 s.heap.size) ⟨⟨BB.exec, BB.bytes, hml, hown, hts⟩, hK, fun q h => Or.inr h, hzz, hz⟩ rfl rfl rfl rfl hin (fun u a hd hp hB hc hs H locs ls hl hP hD hS => W.widen hc hs (W.aret BB.exec BB.bytes BB.returns (Or.inl ⟨_, rfl⟩) (Or.inr ⟨a, rfl⟩) (fun t ht hW => ⟨⟨u, a, rfl, hp, by rw [ht, ← hB]; exact hP, va_K.moved hW.alike hK, hB ▸ hD⟩, hS.F ht⟩) hS.2.2 hd BB.notSynchronized)) s.heap [] _ hl hP hD va_S.rf
end GWE
section GWR
variable {K : gw_K} {cc : ByteArray} {own : String} {Ts : List Cond} {tys : List (ClassId × FieldType)} {zz : (Nat → Prop) → State → Heap → Prop} {ws : va_W} {cells slots pc : Nat} {lv lv' : List (Nat × Value)} {st : List Value}
theorem gw_iconst (C : gw_x K cc own Ts tys zz) {n : Int} (v : Nat) (hd : decode cc pc = .ok (.iconst n, 1)) (hv : Int32.ofInt n = nI v) (k : gw_G K ws cells slots (pc + 1) lv (iN v :: st)) : gw_G K ws cells slots pc lv st := fun H locs ls hl hP hD hS => lv_iconst C.1.1 C.1.2.1 hd hv (k H locs ls hl hP hD hS)
theorem gw_bipush (C : gw_x K cc own Ts tys zz) {n : Int} (v : Nat) (hd : decode cc pc = .ok (.bipush n, 2)) (hv : (Int8.ofInt n).toInt32 = nI v) (k : gw_G K ws cells slots (pc + 2) lv (iN v :: st)) : gw_G K ws cells slots pc lv st := fun H locs ls hl hP hD hS => lv_bipush C.1.1 C.1.2.1 hd hv (k H locs ls hl hP hD hS)
theorem gw_sipush (C : gw_x K cc own Ts tys zz) {n : Int} (v : Nat) (hd : decode cc pc = .ok (.sipush n, 3)) (hv : (Int16.ofInt n).toInt32 = nI v) (k : gw_G K ws cells slots (pc + 3) lv (iN v :: st)) : gw_G K ws cells slots pc lv st := fun H locs ls hl hP hD hS => lv_sipush C.1.1 C.1.2.1 hd hv (k H locs ls hl hP hD hS)
theorem gw_ldc (C : gw_x K cc own Ts tys zz) {index : Nat} {x : Int32} (v : Nat) (hd : decode cc pc = .ok (.ldc index, 2)) (hv : x = nI v) (hm : Jvm.Cond.constant own index x ∈ Ts) (k : gw_G K ws cells slots (pc + 2) lv (iN v :: st)) : gw_G K ws cells slots pc lv st := fun H locs ls hl hP hD hS => lv_ldc C.1.1 C.1.2.1 C.1.2.2.2.1 (hv ▸ C.1.2.2.2.2 _ hm) hd (k H locs ls hl hP hD hS)
theorem gw_iload_n (C : gw_x K cc own Ts tys zz) {j : Fin 4} {i : Nat} {x : Int32} (q : Nat) (hd : decode cc pc = .ok (.iload_n j, 1)) (hi : (j : Nat) = i) (hq : lv[q]? = some (i, .int x)) (k : gw_G K ws cells slots (pc + 1) lv (.int x :: st)) : gw_G K ws cells slots pc lv st := fun H locs ls hl hP hD hS => lv_iload_n C.1.1 C.1.2.1 hd hi (lv_at hl q hq) (k H locs ls hl hP hD hS)
theorem gw_iload (C : gw_x K cc own Ts tys zz) {i : Nat} {x : Int32} (q : Nat) (hd : decode cc pc = .ok (.iload i, 2)) (hq : lv[q]? = some (i, .int x)) (k : gw_G K ws cells slots (pc + 2) lv (.int x :: st)) : gw_G K ws cells slots pc lv st := fun H locs ls hl hP hD hS => lv_iload C.1.1 C.1.2.1 hd (lv_at hl q hq) (k H locs ls hl hP hD hS)
theorem gw_aload_n (C : gw_x K cc own Ts tys zz) {j : Fin 4} {i a : Nat} (q : Nat) (hd : decode cc pc = .ok (.aload_n j, 1)) (hi : (j : Nat) = i) (hq : lv[q]? = some (i, .ref a)) (k : gw_G K ws cells slots (pc + 1) lv (.ref a :: st)) : gw_G K ws cells slots pc lv st := fun H locs ls hl hP hD hS => lv_aload_n C.1.1 C.1.2.1 hd hi (lv_at hl q hq) (k H locs ls hl hP hD hS)
theorem gw_aload (C : gw_x K cc own Ts tys zz) {i a : Nat} (q : Nat) (hd : decode cc pc = .ok (.aload i, 2)) (hq : lv[q]? = some (i, .ref a)) (k : gw_G K ws cells slots (pc + 2) lv (.ref a :: st)) : gw_G K ws cells slots pc lv st := fun H locs ls hl hP hD hS => lv_aload C.1.1 C.1.2.1 hd (lv_at hl q hq) (k H locs ls hl hP hD hS)
variable {lv2 : List (Nat × Value)}
theorem gw_istore_n (C : gw_x K cc own Ts tys zz) {j : Fin 4} {i : Nat} {x : Int32} (hd : decode cc pc = .ok (.istore_n j, 1)) (hi : (j : Nat) = i) (hn : i < kn K) (hq : (i, Value.int x) :: lv.filter (fun q => !(q.1 == i) && !(q.1 + 1 == i && q.2.category == 2)) = lv2) (k : gw_G K ws cells slots (pc + 1) lv2 st) : gw_G K ws cells slots pc lv (.int x :: st) := fun H locs ls hl hP hD hS => lv_istore_n C.1.1 C.1.2.1 hd hi hl hn hq (fun ls' hl' => k H locs ls' hl' hP hD hS)
theorem gw_istore (C : gw_x K cc own Ts tys zz) {i : Nat} {x : Int32} (hd : decode cc pc = .ok (.istore i, 2)) (hn : i < kn K) (hq : (i, Value.int x) :: lv.filter (fun q => !(q.1 == i) && !(q.1 + 1 == i && q.2.category == 2)) = lv2) (k : gw_G K ws cells slots (pc + 2) lv2 st) : gw_G K ws cells slots pc lv (.int x :: st) := fun H locs ls hl hP hD hS => lv_istore C.1.1 C.1.2.1 hd hl hn hq (fun ls' hl' => k H locs ls' hl' hP hD hS)
theorem gw_astore_n (C : gw_x K cc own Ts tys zz) {j : Fin 4} {i a : Nat} (hd : decode cc pc = .ok (.astore_n j, 1)) (hi : (j : Nat) = i) (hn : i < kn K) (hq : (i, Value.ref a) :: lv.filter (fun q => !(q.1 == i) && !(q.1 + 1 == i && q.2.category == 2)) = lv2) (k : gw_G K ws cells slots (pc + 1) lv2 st) : gw_G K ws cells slots pc lv (.ref a :: st) := fun H locs ls hl hP hD hS => lv_astore_n C.1.1 C.1.2.1 hd hi hl hn hq (fun ls' hl' => k H locs ls' hl' hP hD hS)
theorem gw_astore (C : gw_x K cc own Ts tys zz) {i a : Nat} (hd : decode cc pc = .ok (.astore i, 2)) (hn : i < kn K) (hq : (i, Value.ref a) :: lv.filter (fun q => !(q.1 == i) && !(q.1 + 1 == i && q.2.category == 2)) = lv2) (k : gw_G K ws cells slots (pc + 2) lv2 st) : gw_G K ws cells slots pc lv (.ref a :: st) := fun H locs ls hl hP hD hS => lv_astore C.1.1 C.1.2.1 hd hl hn hq (fun ls' hl' => k H locs ls' hl' hP hD hS)
theorem gw_iinc (C : gw_x K cc own Ts tys zz) {i : Nat} {n : Int} {x v : Int32} (q : Nat) (hd : decode cc pc = .ok (.iinc i n, 3)) (hk : lv[q]? = some (i, .int x)) (hv : x + Int32.ofInt n = v) (hn : i < kn K) (hq : (i, Value.int v) :: lv.filter (fun q => !(q.1 == i) && !(q.1 + 1 == i && q.2.category == 2)) = lv2) (k : gw_G K ws cells slots (pc + 3) lv2 st) : gw_G K ws cells slots pc lv st := fun H locs ls hl hP hD hS => lv_iinc C.1.1 C.1.2.1 hd hl hk hv hn hq (fun ls' hl' => k H locs ls' hl' hP hD hS)
theorem gw_iadd (C : gw_x K cc own Ts tys zz) {a b : Nat} (hd : decode cc pc = .ok (.iadd, 1)) (k : gw_G K ws cells slots (pc + 1) lv (iN (a + b) :: st)) : gw_G K ws cells slots pc lv (iN b :: iN a :: st) := fun H locs ls hl hP hD hS => lv_iadd C.1.1 C.1.2.1 hd (by rw [nI_add]; exact k H locs ls hl hP hD hS)
theorem gw_isub (C : gw_x K cc own Ts tys zz) {a b : Nat} (hd : decode cc pc = .ok (.isub, 1)) (h : b ≤ a) (k : gw_G K ws cells slots (pc + 1) lv (iN (a - b) :: st)) : gw_G K ws cells slots pc lv (iN b :: iN a :: st) := fun H locs ls hl hP hD hS => lv_isub C.1.1 C.1.2.1 hd (by rw [pk_sub h]; exact k H locs ls hl hP hD hS)
theorem gw_imul (C : gw_x K cc own Ts tys zz) {a b : Nat} (hd : decode cc pc = .ok (.imul, 1)) (k : gw_G K ws cells slots (pc + 1) lv (iN (a * b) :: st)) : gw_G K ws cells slots pc lv (iN b :: iN a :: st) := fun H locs ls hl hP hD hS => lv_imul C.1.1 C.1.2.1 hd (by rw [pk_mul]; exact k H locs ls hl hP hD hS)
theorem gw_idiv (C : gw_x K cc own Ts tys zz) {a b : Nat} (hd : decode cc pc = .ok (.idiv, 1)) (h0 : 0 < b) (hb : b < 2 ^ 31) (ha : a < 2 ^ 31) (k : gw_G K ws cells slots (pc + 1) lv (iN (a / b) :: st)) : gw_G K ws cells slots pc lv (iN b :: iN a :: st) := fun H locs ls hl hP hD hS => lv_idiv C.1.1 C.1.2.1 hd (nI_ne0 h0 hb) (by rw [pk_div ha h0 hb]; exact k H locs ls hl hP hD hS)
theorem gw_irem (C : gw_x K cc own Ts tys zz) {a b : Nat} (hd : decode cc pc = .ok (.irem, 1)) (h0 : 0 < b) (hb : b < 2 ^ 31) (ha : a < 2 ^ 31) (k : gw_G K ws cells slots (pc + 1) lv (iN (a % b) :: st)) : gw_G K ws cells slots pc lv (iN b :: iN a :: st) := fun H locs ls hl hP hD hS => lv_irem C.1.1 C.1.2.1 hd (nI_ne0 h0 hb) (by rw [pk_rem ha h0 hb]; exact k H locs ls hl hP hD hS)
theorem gw_nand (a b : Nat) : nI a &&& nI b = nI (a &&& b) := by
  apply Int32.toBitVec_inj.mp
  simp [nI, Int32.toBitVec_and, Int32.toBitVec_ofNat', BitVec.ofNat_and]
theorem gw_nor (a b : Nat) : nI a ||| nI b = nI (a ||| b) := by
  apply Int32.toBitVec_inj.mp
  simp [nI, Int32.toBitVec_or, Int32.toBitVec_ofNat', BitVec.ofNat_or]
theorem gw_nxor (a b : Nat) : nI a ^^^ nI b = nI (a ^^^ b) := by
  apply Int32.toBitVec_inj.mp
  simp [nI, Int32.toBitVec_xor, Int32.toBitVec_ofNat', BitVec.ofNat_xor]
theorem gw_sm : ∀ n, n < 32 → ((nI n &&& 31).toBitVec.smod 32).toNat = n := by decide +kernel
theorem gw_nshl {a n : Nat} (hn : n < 32) (h : a * 2 ^ n < 2 ^ 32) : nI a <<< (nI n &&& 31) = nI (a * 2 ^ n) := pk_shlN _ n (gw_sm n hn) h
theorem gw_nshr {a n : Nat} (hn : n < 32) (h : a < 2 ^ 31) : nI a >>> (nI n &&& 31) = nI (a / 2 ^ n) := pk_shrN h _ n (gw_sm n hn)
theorem gw_iand (C : gw_x K cc own Ts tys zz) {a b : Nat} (hd : decode cc pc = .ok (.iand, 1)) (k : gw_G K ws cells slots (pc + 1) lv (iN (a &&& b) :: st)) : gw_G K ws cells slots pc lv (iN b :: iN a :: st) := fun H locs ls hl hP hD hS => lv_iand C.1.1 C.1.2.1 hd (by rw [gw_nand]; exact k H locs ls hl hP hD hS)
theorem gw_ior (C : gw_x K cc own Ts tys zz) {a b : Nat} (hd : decode cc pc = .ok (.ior, 1)) (k : gw_G K ws cells slots (pc + 1) lv (iN (a ||| b) :: st)) : gw_G K ws cells slots pc lv (iN b :: iN a :: st) := fun H locs ls hl hP hD hS => lv_ior C.1.1 C.1.2.1 hd (by rw [gw_nor]; exact k H locs ls hl hP hD hS)
theorem gw_ixor (C : gw_x K cc own Ts tys zz) {a b : Nat} (hd : decode cc pc = .ok (.ixor, 1)) (k : gw_G K ws cells slots (pc + 1) lv (iN (a ^^^ b) :: st)) : gw_G K ws cells slots pc lv (iN b :: iN a :: st) := fun H locs ls hl hP hD hS => lv_ixor C.1.1 C.1.2.1 hd (by rw [gw_nxor]; exact k H locs ls hl hP hD hS)
theorem gw_ishl (C : gw_x K cc own Ts tys zz) {a b : Nat} (hd : decode cc pc = .ok (.ishl, 1)) (hn : b < 32) (h : a * 2 ^ b < 2 ^ 32) (k : gw_G K ws cells slots (pc + 1) lv (iN (a * 2 ^ b) :: st)) : gw_G K ws cells slots pc lv (iN b :: iN a :: st) := fun H locs ls hl hP hD hS => lv_ishl C.1.1 C.1.2.1 hd (by rw [gw_nshl hn h]; exact k H locs ls hl hP hD hS)
theorem gw_ishr (C : gw_x K cc own Ts tys zz) {a b : Nat} (hd : decode cc pc = .ok (.ishr, 1)) (hn : b < 32) (h : a < 2 ^ 31) (k : gw_G K ws cells slots (pc + 1) lv (iN (a / 2 ^ b) :: st)) : gw_G K ws cells slots pc lv (iN b :: iN a :: st) := fun H locs ls hl hP hD hS => lv_ishr C.1.1 C.1.2.1 hd (by rw [gw_nshr hn h]; exact k H locs ls hl hP hD hS)
theorem gw_dup (C : gw_x K cc own Ts tys zz) {v : Value} (hd : decode cc pc = .ok (.dup, 1)) (hc : v.category = 1) (k : gw_G K ws cells slots (pc + 1) lv (v :: v :: st)) : gw_G K ws cells slots pc lv (v :: st) := fun H locs ls hl hP hD hS => lv_dup C.1.1 C.1.2.1 hd hc (k H locs ls hl hP hD hS)
theorem gw_pop (C : gw_x K cc own Ts tys zz) {v : Value} (hd : decode cc pc = .ok (.pop, 1)) (hc : v.category = 1) (k : gw_G K ws cells slots (pc + 1) lv st) : gw_G K ws cells slots pc lv (v :: st) := fun H locs ls hl hP hD hS => lv_pop C.1.1 C.1.2.1 hd hc (k H locs ls hl hP hD hS)
theorem gw_dup_x1 (C : gw_x K cc own Ts tys zz) {v u : Value} (hd : decode cc pc = .ok (.dup_x1, 1)) (hc : v.category = 1) (hc2 : u.category = 1) (k : gw_G K ws cells slots (pc + 1) lv (v :: u :: v :: st)) : gw_G K ws cells slots pc lv (v :: u :: st) := fun H locs ls hl hP hD hS => lv_dup_x1 C.1.1 C.1.2.1 hd hc hc2 (k H locs ls hl hP hD hS)
theorem gw_dup2 (C : gw_x K cc own Ts tys zz) {v u : Value} (hd : decode cc pc = .ok (.dup2, 1)) (hc : v.category = 1) (hc2 : u.category = 1) (k : gw_G K ws cells slots (pc + 1) lv (v :: u :: v :: u :: st)) : gw_G K ws cells slots pc lv (v :: u :: st) := fun H locs ls hl hP hD hS => lv_dup2_11 C.1.1 C.1.2.1 hd hc hc2 (k H locs ls hl hP hD hS)
theorem gw_goto (C : gw_x K cc own Ts tys zz) {off : Int} (tgt : Nat) (hd : decode cc pc = .ok (.goto off, 3)) (ht : (pc : Int) + off = (tgt : Int)) (k : gw_G K ws cells slots tgt lv st) : gw_G K ws cells slots pc lv st := fun H locs ls hl hP hD hS => lv_goto C.1.1 C.1.2.1 hd ht (k H locs ls hl hP hD hS)
theorem gw_icmp_eq (C : gw_x K cc own Ts tys zz) {a b : Nat} {off : Int} (tgt : Nat) (hd : decode cc pc = .ok (.if_icmp .eq off, 3)) (ht : (pc : Int) + off = (tgt : Int)) (ha : a < 2 ^ 31) (hb : b < 2 ^ 31) (kt : a = b → gw_G K ws cells slots tgt lv st) (kf : ¬ a = b → gw_G K ws cells slots (pc + 3) lv st) : gw_G K ws cells slots pc lv (iN b :: iN a :: st) := fun H locs ls hl hP hD hS => lv_icmp_eq C.1.1 C.1.2.1 hd ht (fun h => kt ((nI_eq ha hb).mp h) H locs ls hl hP hD hS) (fun h => kf (fun q => h ((nI_eq ha hb).mpr q)) H locs ls hl hP hD hS)
theorem gw_icmp_eq_r (C : gw_x K cc own Ts tys zz) {x y : Int32} {off : Int} (tgt : Nat) (hd : decode cc pc = .ok (.if_icmp .eq off, 3)) (ht : (pc : Int) + off = (tgt : Int)) (kt : x = y → gw_G K ws cells slots tgt lv st) (kf : ¬ x = y → gw_G K ws cells slots (pc + 3) lv st) : gw_G K ws cells slots pc lv (.int y :: .int x :: st) := fun H locs ls hl hP hD hS => lv_icmp_eq C.1.1 C.1.2.1 hd ht (fun h => kt h H locs ls hl hP hD hS) (fun h => kf h H locs ls hl hP hD hS)
theorem gw_icmp_ne (C : gw_x K cc own Ts tys zz) {a b : Nat} {off : Int} (tgt : Nat) (hd : decode cc pc = .ok (.if_icmp .ne off, 3)) (ht : (pc : Int) + off = (tgt : Int)) (ha : a < 2 ^ 31) (hb : b < 2 ^ 31) (kt : ¬ a = b → gw_G K ws cells slots tgt lv st) (kf : a = b → gw_G K ws cells slots (pc + 3) lv st) : gw_G K ws cells slots pc lv (iN b :: iN a :: st) := fun H locs ls hl hP hD hS => lv_icmp_ne C.1.1 C.1.2.1 hd ht (fun h => kt (fun q => h ((nI_eq ha hb).mpr q)) H locs ls hl hP hD hS) (fun h => kf ((nI_eq ha hb).mp h) H locs ls hl hP hD hS)
theorem gw_icmp_ne_r (C : gw_x K cc own Ts tys zz) {x y : Int32} {off : Int} (tgt : Nat) (hd : decode cc pc = .ok (.if_icmp .ne off, 3)) (ht : (pc : Int) + off = (tgt : Int)) (kt : ¬ x = y → gw_G K ws cells slots tgt lv st) (kf : x = y → gw_G K ws cells slots (pc + 3) lv st) : gw_G K ws cells slots pc lv (.int y :: .int x :: st) := fun H locs ls hl hP hD hS => lv_icmp_ne C.1.1 C.1.2.1 hd ht (fun h => kt h H locs ls hl hP hD hS) (fun h => kf h H locs ls hl hP hD hS)
theorem gw_icmp_lt (C : gw_x K cc own Ts tys zz) {a b : Nat} {off : Int} (tgt : Nat) (hd : decode cc pc = .ok (.if_icmp .lt off, 3)) (ht : (pc : Int) + off = (tgt : Int)) (ha : a < 2 ^ 31) (hb : b < 2 ^ 31) (kt : a < b → gw_G K ws cells slots tgt lv st) (kf : b ≤ a → gw_G K ws cells slots (pc + 3) lv st) : gw_G K ws cells slots pc lv (iN b :: iN a :: st) := fun H locs ls hl hP hD hS => lv_icmp_lt C.1.1 C.1.2.1 hd ht (fun h => kt ((nI_ltI ha hb).mp h) H locs ls hl hP hD hS) (fun h => kf (Nat.not_lt.mp (fun q => h ((nI_ltI ha hb).mpr q))) H locs ls hl hP hD hS)
theorem gw_icmp_lt_r (C : gw_x K cc own Ts tys zz) {x y : Int32} {off : Int} (tgt : Nat) (hd : decode cc pc = .ok (.if_icmp .lt off, 3)) (ht : (pc : Int) + off = (tgt : Int)) (kt : x < y → gw_G K ws cells slots tgt lv st) (kf : ¬ x < y → gw_G K ws cells slots (pc + 3) lv st) : gw_G K ws cells slots pc lv (.int y :: .int x :: st) := fun H locs ls hl hP hD hS => lv_icmp_lt C.1.1 C.1.2.1 hd ht (fun h => kt h H locs ls hl hP hD hS) (fun h => kf h H locs ls hl hP hD hS)
theorem gw_icmp_ge (C : gw_x K cc own Ts tys zz) {a b : Nat} {off : Int} (tgt : Nat) (hd : decode cc pc = .ok (.if_icmp .ge off, 3)) (ht : (pc : Int) + off = (tgt : Int)) (ha : a < 2 ^ 31) (hb : b < 2 ^ 31) (kt : b ≤ a → gw_G K ws cells slots tgt lv st) (kf : a < b → gw_G K ws cells slots (pc + 3) lv st) : gw_G K ws cells slots pc lv (iN b :: iN a :: st) := fun H locs ls hl hP hD hS => lv_icmp_ge C.1.1 C.1.2.1 hd ht (fun h => kt ((nI_leI hb ha).mp h) H locs ls hl hP hD hS) (fun h => kf (Nat.not_le.mp (fun q => h ((nI_leI hb ha).mpr q))) H locs ls hl hP hD hS)
theorem gw_icmp_ge_r (C : gw_x K cc own Ts tys zz) {x y : Int32} {off : Int} (tgt : Nat) (hd : decode cc pc = .ok (.if_icmp .ge off, 3)) (ht : (pc : Int) + off = (tgt : Int)) (kt : y ≤ x → gw_G K ws cells slots tgt lv st) (kf : ¬ y ≤ x → gw_G K ws cells slots (pc + 3) lv st) : gw_G K ws cells slots pc lv (.int y :: .int x :: st) := fun H locs ls hl hP hD hS => lv_icmp_ge C.1.1 C.1.2.1 hd ht (fun h => kt h H locs ls hl hP hD hS) (fun h => kf h H locs ls hl hP hD hS)
theorem gw_icmp_gt (C : gw_x K cc own Ts tys zz) {a b : Nat} {off : Int} (tgt : Nat) (hd : decode cc pc = .ok (.if_icmp .gt off, 3)) (ht : (pc : Int) + off = (tgt : Int)) (ha : a < 2 ^ 31) (hb : b < 2 ^ 31) (kt : b < a → gw_G K ws cells slots tgt lv st) (kf : a ≤ b → gw_G K ws cells slots (pc + 3) lv st) : gw_G K ws cells slots pc lv (iN b :: iN a :: st) := fun H locs ls hl hP hD hS => lv_icmp_gt C.1.1 C.1.2.1 hd ht (fun h => kt ((nI_ltI hb ha).mp h) H locs ls hl hP hD hS) (fun h => kf (Nat.not_lt.mp (fun q => h ((nI_ltI hb ha).mpr q))) H locs ls hl hP hD hS)
theorem gw_icmp_gt_r (C : gw_x K cc own Ts tys zz) {x y : Int32} {off : Int} (tgt : Nat) (hd : decode cc pc = .ok (.if_icmp .gt off, 3)) (ht : (pc : Int) + off = (tgt : Int)) (kt : y < x → gw_G K ws cells slots tgt lv st) (kf : ¬ y < x → gw_G K ws cells slots (pc + 3) lv st) : gw_G K ws cells slots pc lv (.int y :: .int x :: st) := fun H locs ls hl hP hD hS => lv_icmp_gt C.1.1 C.1.2.1 hd ht (fun h => kt h H locs ls hl hP hD hS) (fun h => kf h H locs ls hl hP hD hS)
theorem gw_icmp_le (C : gw_x K cc own Ts tys zz) {a b : Nat} {off : Int} (tgt : Nat) (hd : decode cc pc = .ok (.if_icmp .le off, 3)) (ht : (pc : Int) + off = (tgt : Int)) (ha : a < 2 ^ 31) (hb : b < 2 ^ 31) (kt : a ≤ b → gw_G K ws cells slots tgt lv st) (kf : b < a → gw_G K ws cells slots (pc + 3) lv st) : gw_G K ws cells slots pc lv (iN b :: iN a :: st) := fun H locs ls hl hP hD hS => lv_icmp_le C.1.1 C.1.2.1 hd ht (fun h => kt ((nI_leI ha hb).mp h) H locs ls hl hP hD hS) (fun h => kf (Nat.not_le.mp (fun q => h ((nI_leI ha hb).mpr q))) H locs ls hl hP hD hS)
theorem gw_icmp_le_r (C : gw_x K cc own Ts tys zz) {x y : Int32} {off : Int} (tgt : Nat) (hd : decode cc pc = .ok (.if_icmp .le off, 3)) (ht : (pc : Int) + off = (tgt : Int)) (kt : x ≤ y → gw_G K ws cells slots tgt lv st) (kf : ¬ x ≤ y → gw_G K ws cells slots (pc + 3) lv st) : gw_G K ws cells slots pc lv (.int y :: .int x :: st) := fun H locs ls hl hP hD hS => lv_icmp_le C.1.1 C.1.2.1 hd ht (fun h => kt h H locs ls hl hP hD hS) (fun h => kf h H locs ls hl hP hD hS)
theorem gw_if_eq_r (C : gw_x K cc own Ts tys zz) {x : Int32} {off : Int} (tgt : Nat) (hd : decode cc pc = .ok (.ifCond .eq off, 3)) (ht : (pc : Int) + off = (tgt : Int)) (kt : x = 0 → gw_G K ws cells slots tgt lv st) (kf : ¬ x = 0 → gw_G K ws cells slots (pc + 3) lv st) : gw_G K ws cells slots pc lv (.int x :: st) := fun H locs ls hl hP hD hS => lv_if_eq C.1.1 C.1.2.1 hd ht (fun h => kt h H locs ls hl hP hD hS) (fun h => kf h H locs ls hl hP hD hS)
theorem gw_if_ne_r (C : gw_x K cc own Ts tys zz) {x : Int32} {off : Int} (tgt : Nat) (hd : decode cc pc = .ok (.ifCond .ne off, 3)) (ht : (pc : Int) + off = (tgt : Int)) (kt : ¬ x = 0 → gw_G K ws cells slots tgt lv st) (kf : x = 0 → gw_G K ws cells slots (pc + 3) lv st) : gw_G K ws cells slots pc lv (.int x :: st) := fun H locs ls hl hP hD hS => lv_if_ne C.1.1 C.1.2.1 hd ht (fun h => kt h H locs ls hl hP hD hS) (fun h => kf h H locs ls hl hP hD hS)
theorem gw_if_lt_r (C : gw_x K cc own Ts tys zz) {x : Int32} {off : Int} (tgt : Nat) (hd : decode cc pc = .ok (.ifCond .lt off, 3)) (ht : (pc : Int) + off = (tgt : Int)) (kt : x < 0 → gw_G K ws cells slots tgt lv st) (kf : ¬ x < 0 → gw_G K ws cells slots (pc + 3) lv st) : gw_G K ws cells slots pc lv (.int x :: st) := fun H locs ls hl hP hD hS => lv_if_lt C.1.1 C.1.2.1 hd ht (fun h => kt h H locs ls hl hP hD hS) (fun h => kf h H locs ls hl hP hD hS)
theorem gw_if_ge_r (C : gw_x K cc own Ts tys zz) {x : Int32} {off : Int} (tgt : Nat) (hd : decode cc pc = .ok (.ifCond .ge off, 3)) (ht : (pc : Int) + off = (tgt : Int)) (kt : 0 ≤ x → gw_G K ws cells slots tgt lv st) (kf : ¬ 0 ≤ x → gw_G K ws cells slots (pc + 3) lv st) : gw_G K ws cells slots pc lv (.int x :: st) := fun H locs ls hl hP hD hS => lv_if_ge C.1.1 C.1.2.1 hd ht (fun h => kt h H locs ls hl hP hD hS) (fun h => kf h H locs ls hl hP hD hS)
theorem gw_if_gt_r (C : gw_x K cc own Ts tys zz) {x : Int32} {off : Int} (tgt : Nat) (hd : decode cc pc = .ok (.ifCond .gt off, 3)) (ht : (pc : Int) + off = (tgt : Int)) (kt : 0 < x → gw_G K ws cells slots tgt lv st) (kf : ¬ 0 < x → gw_G K ws cells slots (pc + 3) lv st) : gw_G K ws cells slots pc lv (.int x :: st) := fun H locs ls hl hP hD hS => lv_if_gt C.1.1 C.1.2.1 hd ht (fun h => kt h H locs ls hl hP hD hS) (fun h => kf h H locs ls hl hP hD hS)
theorem gw_if_le_r (C : gw_x K cc own Ts tys zz) {x : Int32} {off : Int} (tgt : Nat) (hd : decode cc pc = .ok (.ifCond .le off, 3)) (ht : (pc : Int) + off = (tgt : Int)) (kt : x ≤ 0 → gw_G K ws cells slots tgt lv st) (kf : ¬ x ≤ 0 → gw_G K ws cells slots (pc + 3) lv st) : gw_G K ws cells slots pc lv (.int x :: st) := fun H locs ls hl hP hD hS => lv_if_le C.1.1 C.1.2.1 hd ht (fun h => kt h H locs ls hl hP hD hS) (fun h => kf h H locs ls hl hP hD hS)
theorem gw_if_eq (C : gw_x K cc own Ts tys zz) {a : Nat} {off : Int} (tgt : Nat) (hd : decode cc pc = .ok (.ifCond .eq off, 3)) (ht : (pc : Int) + off = (tgt : Int)) (ha : a < 2 ^ 31) (kt : a = 0 → gw_G K ws cells slots tgt lv st) (kf : ¬ a = 0 → gw_G K ws cells slots (pc + 3) lv st) : gw_G K ws cells slots pc lv (iN a :: st) := gw_if_eq_r C tgt hd ht (fun h => kt ((nI_eq ha (by decide)).mp h)) (fun h => kf (fun q => h ((nI_eq ha (by decide)).mpr q)))
theorem gw_if_ne (C : gw_x K cc own Ts tys zz) {a : Nat} {off : Int} (tgt : Nat) (hd : decode cc pc = .ok (.ifCond .ne off, 3)) (ht : (pc : Int) + off = (tgt : Int)) (ha : a < 2 ^ 31) (kt : ¬ a = 0 → gw_G K ws cells slots tgt lv st) (kf : a = 0 → gw_G K ws cells slots (pc + 3) lv st) : gw_G K ws cells slots pc lv (iN a :: st) := gw_if_ne_r C tgt hd ht (fun h => kt (fun q => h ((nI_eq ha (by decide)).mpr q))) (fun h => kf ((nI_eq ha (by decide)).mp h))
theorem gw_if_lt (C : gw_x K cc own Ts tys zz) {a : Nat} {off : Int} (tgt : Nat) (hd : decode cc pc = .ok (.ifCond .lt off, 3)) (ht : (pc : Int) + off = (tgt : Int)) (ha : a < 2 ^ 31) (kt : False → gw_G K ws cells slots tgt lv st) (kf : True → gw_G K ws cells slots (pc + 3) lv st) : gw_G K ws cells slots pc lv (iN a :: st) := gw_if_lt_r C tgt hd ht (fun h => kt (nI_pos ha h)) (fun h => kf (trivial))
theorem gw_if_ge (C : gw_x K cc own Ts tys zz) {a : Nat} {off : Int} (tgt : Nat) (hd : decode cc pc = .ok (.ifCond .ge off, 3)) (ht : (pc : Int) + off = (tgt : Int)) (ha : a < 2 ^ 31) (kt : True → gw_G K ws cells slots tgt lv st) (kf : False → gw_G K ws cells slots (pc + 3) lv st) : gw_G K ws cells slots pc lv (iN a :: st) := gw_if_ge_r C tgt hd ht (fun h => kt (trivial)) (fun h => kf (h (nI_pos' ha)))
theorem gw_if_gt (C : gw_x K cc own Ts tys zz) {a : Nat} {off : Int} (tgt : Nat) (hd : decode cc pc = .ok (.ifCond .gt off, 3)) (ht : (pc : Int) + off = (tgt : Int)) (ha : a < 2 ^ 31) (kt : 0 < a → gw_G K ws cells slots tgt lv st) (kf : a = 0 → gw_G K ws cells slots (pc + 3) lv st) : gw_G K ws cells slots pc lv (iN a :: st) := gw_if_gt_r C tgt hd ht (fun h => kt ((nI_ltI (a := 0) (by decide) ha).mp h)) (fun h => kf (Nat.eq_zero_of_not_pos (fun q => h ((nI_ltI (a := 0) (by decide) ha).mpr q))))
theorem gw_if_le (C : gw_x K cc own Ts tys zz) {a : Nat} {off : Int} (tgt : Nat) (hd : decode cc pc = .ok (.ifCond .le off, 3)) (ht : (pc : Int) + off = (tgt : Int)) (ha : a < 2 ^ 31) (kt : a = 0 → gw_G K ws cells slots tgt lv st) (kf : 0 < a → gw_G K ws cells slots (pc + 3) lv st) : gw_G K ws cells slots pc lv (iN a :: st) := gw_if_le_r C tgt hd ht (fun h => kt (Nat.le_zero.mp ((nI_leI (b := 0) ha (by decide)).mp h))) (fun h => kf (Nat.pos_of_ne_zero (fun q => h ((nI_leI (b := 0) ha (by decide)).mpr (Nat.le_zero.mpr q)))))
theorem gw_get (C : gw_x K cc own Ts tys zz) {ref Cn : String} {T : u_T} {N ci index a : Nat} (q0 fk : Nat) {fs : List Value} {v : Value} (hin : ∀ w ∈ u_ws Cn T N, w ∈ Ts) (hd : decode cc pc = .ok (.getfield index, 3)) (hlink : Cond.fieldLink own index ref (T fk).2.1 (T fk).2.2.1 ∈ Ts) (he : ws[q0]? = some (a, .inr (ci, fs))) (hc : vwCl[ci]? = some (Cn, T, N)) (hk : fk < N) (hr : (T fk).1 = ref) (hv : fs[fk]? = some v) (k : gw_G K ws cells slots (pc + 3) lv (v :: st)) : gw_G K ws cells slots pc lv (.ref a :: st) := fun H locs ls hl hP hD hS => va_get C.1.1 C.1.2.1 C.1.2.2.2.2 hin C.1.2.2.2.1 C.2.1 hP q0 he hc fk hk (C.1.2.2.2.2 _ hlink) (fun x h => hr ▸ h) hv hd (k H locs ls hl hP hD hS)
theorem gw_put (C : gw_x K cc own Ts tys zz) {ref Cn : String} {T : u_T} {N ci index a : Nat} (q0 fk : Nat) {fs : List Value} {v : Value} {ty : FieldType} {ws2 : va_W} (ty0 : Nat → FieldType) (hty : ∀ k, k < N → parseFieldDescriptor (T k).2.2.1 = some (ty0 k)) (hnm : ∀ a, a < N → ∀ b, b < N → a ≠ b → (T a).2.1 ≠ (T b).2.1) (hin : ∀ w ∈ u_ws Cn T N, w ∈ Ts) (hd : decode cc pc = .ok (.putfield index, 3)) (hlink : Cond.fieldLink own index ref (T fk).2.1 (T fk).2.2.1 ∈ Ts) (he : ws[q0]? = some (a, .inr (ci, fs))) (hc : vwCl[ci]? = some (Cn, T, N)) (hk : fk < N) (hr : (T fk).1 = ref) (hfin : (T fk).2.2.2 = false) (hdd : parseFieldDescriptor (T fk).2.2.1 = some ty) (hn : narrow ty v = v) (hfit : fits ty v = true) (hll : fk < fs.length) (hw : ws.set q0 (a, .inr (ci, fs.set fk v)) = ws2) (k : gw_G K ws2 cells slots (pc + 3) lv st) : gw_G K ws cells slots pc lv (v :: .ref a :: st) := fun H locs ls hl hP hD hS => va_put C.1.1 C.1.2.1 C.1.2.2.2.2 hin ty0 hty hnm C.1.2.2.2.1 C.2.1 hP hD hS q0 he hc fk hk (C.1.2.2.2.2 _ hlink) (fun x h => hr ▸ h) hfin hdd hn hfit hll hd (fun H1 locs1 hP1 hD1 hS1 => k H1 locs1 ls hl (hw ▸ hP1) (hw ▸ hD1) hS1)
theorem gw_putF (C : gw_x K cc own Ts tys zz) {ref Cn : String} {T : u_T} {N ci index a : Nat} (q0 fk : Nat) {fs : List Value} {v : Value} {ty : FieldType} {ws2 : va_W} (ty0 : Nat → FieldType) (hty : ∀ k, k < N → parseFieldDescriptor (T k).2.2.1 = some (ty0 k)) (hnm : ∀ a, a < N → ∀ b, b < N → a ≠ b → (T a).2.1 ≠ (T b).2.1) (hin : ∀ w ∈ u_ws Cn T N, w ∈ Ts) (hmn : (kM K).name = "<init>") (hd : decode cc pc = .ok (.putfield index, 3)) (hlink : Cond.fieldLink own index ref (T fk).2.1 (T fk).2.2.1 ∈ Ts) (he : ws[q0]? = some (a, .inr (ci, fs))) (hc : vwCl[ci]? = some (Cn, T, N)) (hk : fk < N) (hr : (T fk).1 = ref) (hdecl : (T fk).1 = own) (hfin : (T fk).2.2.2 = true) (hdd : parseFieldDescriptor (T fk).2.2.1 = some ty) (hn : narrow ty v = v) (hfit : fits ty v = true) (hll : fk < fs.length) (hw : ws.set q0 (a, .inr (ci, fs.set fk v)) = ws2) (k : gw_G K ws2 cells slots (pc + 3) lv st) : gw_G K ws cells slots pc lv (v :: .ref a :: st) := fun H locs ls hl hP hD hS => va_putF C.1.1 C.1.2.1 C.1.2.2.2.2 hin ty0 hty hnm C.1.2.2.2.1 C.2.1 hP hD hS q0 he hc fk hk (C.1.2.2.2.2 _ hlink) (fun x h => hr ▸ h) hfin hmn hdecl hdd hn hfit hll hd (fun H1 locs1 hP1 hD1 hS1 => k H1 locs1 ls hl (hw ▸ hP1) (hw ▸ hD1) hS1)
theorem gw_cl {a n : Nat} (h : a < n) (hn : n ≤ 2 ^ 31) : (nI a).toNatClampNeg = a := nI_clamp (by omega)
theorem gw_ild (C : gw_x K cc own Ts tys zz) {cA : ClassId} {n a i : Nat} {f : Nat → Int32} {v : Int32} (q0 t0 : Nat) (hd : decode cc pc = .ok (.iaload, 1)) (ha : ws[q0]? = some (a, .inl (cA, n, .inl f))) (ht : tys[t0]? = some (cA, .int)) (hn : n ≤ 2147483647) (hi : i < n) (hv : f i = v) (k : gw_G K ws cells slots (pc + 1) lv (.int v :: st)) : gw_G K ws cells slots pc lv (iN i :: .ref a :: st) := fun H locs ls hl hP hD hS => va_iald C.1.1 C.1.2.1 C.2.1 hP q0 t0 ha ht (vp_in_nI hi (by omega)) hd (by rw [nI_clamp (by omega), hv]; exact k H locs ls hl hP hD hS)
theorem gw_bld (C : gw_x K cc own Ts tys zz) {cA : ClassId} {n a i : Nat} {f : Nat → Int32} {v : Int32} (q0 t0 : Nat) (hd : decode cc pc = .ok (.baload, 1)) (ha : ws[q0]? = some (a, .inl (cA, n, .inl f))) (ht : tys[t0]? = some (cA, .byte)) (hn : n ≤ 2147483647) (hi : i < n) (hv : f i = v) (k : gw_G K ws cells slots (pc + 1) lv (.int v :: st)) : gw_G K ws cells slots pc lv (iN i :: .ref a :: st) := fun H locs ls hl hP hD hS => va_bald C.1.1 C.1.2.1 C.2.1 hP q0 t0 ha ht (vp_in_nI hi (by omega)) hd (by rw [nI_clamp (by omega), hv]; exact k H locs ls hl hP hD hS)
theorem gw_sld (C : gw_x K cc own Ts tys zz) {cA : ClassId} {n a i : Nat} {f : Nat → Int32} {v : Int32} (q0 t0 : Nat) (hd : decode cc pc = .ok (.saload, 1)) (ha : ws[q0]? = some (a, .inl (cA, n, .inl f))) (ht : tys[t0]? = some (cA, .short)) (hn : n ≤ 2147483647) (hi : i < n) (hv : f i = v) (k : gw_G K ws cells slots (pc + 1) lv (.int v :: st)) : gw_G K ws cells slots pc lv (iN i :: .ref a :: st) := fun H locs ls hl hP hD hS => va_sald C.1.1 C.1.2.1 C.2.1 hP q0 t0 ha ht (vp_in_nI hi (by omega)) hd (by rw [nI_clamp (by omega), hv]; exact k H locs ls hl hP hD hS)
theorem gw_ist (C : gw_x K cc own Ts tys zz) {cA : ClassId} {n a i : Nat} {f : Nat → Int32} {x : Int32} {ws2 : va_W} (q0 t0 : Nat) (hd : decode cc pc = .ok (.iastore, 1)) (ha : ws[q0]? = some (a, .inl (cA, n, .inl f))) (ht : tys[t0]? = some (cA, .int)) (hn : n ≤ 2147483647) (hi : i < n) (hw : ws.set q0 (a, .inl (cA, n, .inl (upd f i x))) = ws2) (k : gw_G K ws2 cells slots (pc + 1) lv st) : gw_G K ws cells slots pc lv (.int x :: iN i :: .ref a :: st) := fun H locs ls hl hP hD hS => va_iast C.1.1 C.1.2.1 C.2.1 hP hD hS q0 t0 ha ht (vp_in_nI hi (by omega)) hd (fun H1 locs1 hP1 hD1 hS1 => k H1 locs1 ls hl (by rw [nI_clamp (by omega), hw] at hP1; exact hP1) (by rw [nI_clamp (by omega), hw] at hD1; exact hD1) hS1)
theorem gw_alen (C : gw_x K cc own Ts tys zz) {cA : ClassId} {x : vp_A} {ty : FieldType} {a : Nat} (q0 t0 n : Nat) (hd : decode cc pc = .ok (.arraylength, 1)) (ha : ws[q0]? = some (a, .inl (cA, x))) (ht : tys[t0]? = some (cA, ty)) (hn : x.1 = n) (k : gw_G K ws cells slots (pc + 1) lv (iN n :: st)) : gw_G K ws cells slots pc lv (.ref a :: st) := fun H locs ls hl hP hD hS => va_alen C.1.1 C.1.2.1 C.2.1 hP q0 t0 ha ht (v := nI n) (by rw [hn]; rfl) hd (k H locs ls hl hP hD hS)
theorem gw_tld (C : gw_x K cc own Ts tys zz) {t N i : Nat} {f : Nat → Value} {v : Value} (hT : va_T .int t N f (kA K) (ks K) (ks K).heap) (hd : decode cc pc = .ok (.iaload, 1)) (hN : N ≤ 2147483647) (hi : i < N) (hv : f i = v) (k : gw_G K ws cells slots (pc + 1) lv (v :: st)) : gw_G K ws cells slots pc lv (iN i :: .ref t :: st) := fun H locs ls hl hP hD hS => va_ti C.1.1 C.1.2.1 hT hS (vp_in_nI hi (by omega)) (by rw [nI_clamp (by omega)]; exact hv) hd (k H locs ls hl hP hD hS)
theorem gw_gets (C : gw_x K cc own Ts tys zz) {Cn n d : String} {v : Value} {index : Nat} (hZ : va_Z Cn n d v (kA K) (ks K) (ks K).heap) (hd : decode cc pc = .ok (.getstatic index, 3)) (hlink : Cond.fieldLink own index Cn n d ∈ Ts) (k : gw_G K ws cells slots (pc + 3) lv (v :: st)) : gw_G K ws cells slots pc lv st := fun H locs ls hl hP hD hS => va_gets C.1.1 C.1.2.1 hZ hS C.1.2.2.2.1 (C.1.2.2.2.2 _ hlink) (fun _ h => h) hd (k H locs ls hl hP hD hS)
theorem gw_widen {k1 n1 : Nat} (h1 : cells ≤ k1) (h2 : slots ≤ n1) (k : gw_G K ws k1 n1 pc lv st) : gw_G K ws cells slots pc lv st := fun H locs ls hl hP hD hS => W.widen h1 h2 (k H locs ls hl hP hD hS)
theorem gw_dec1 {a : Nat} (h : 1 ≤ a) : nI a + Int32.ofInt (-1) = nI (a - 1) := by
  obtain ⟨b, rfl⟩ : ∃ b, a = b + 1 := ⟨a - 1, by omega⟩
  exact pk_m1 b
theorem gw_nb {v : Nat} (h : v < 128) : vp_nar .byte (nI v) = nI v ∧ (nI v).toInt8.toInt32 = nI v := by
  have e : (nI v).toInt8.toInt32 = nI v := by
    have : ∀ v : Fin 128, (nI v.val).toInt8.toInt32 = nI v.val := by decide +kernel
    exact this ⟨v, h⟩
  exact ⟨by rw [vp_nar_byte]; exact e, e⟩
theorem gw_nst (v : Nat) (h : v < 32768) : (nI v).toInt16.toInt32 = nI v := by
  apply Int32.toInt_inj.mp
  have h1 : (nI v).toInt = (v : Int) := nI_toInt (by omega)
  simp only [Int16.toInt_toInt32, Int32.toInt_toInt16, h1]
  rw [Int.bmod_def]
  omega
theorem gw_ns {v : Nat} (h : v < 32768) : vp_nar .short (nI v) = nI v ∧ (nI v).toInt16.toInt32 = nI v := ⟨by rw [vp_nar_short]; exact gw_nst v h, gw_nst v h⟩
theorem gw_i2b (C : gw_x K cc own Ts tys zz) {a : Nat} (hd : decode cc pc = .ok (.i2b, 1)) (h : a < 128) (k : gw_G K ws cells slots (pc + 1) lv (iN a :: st)) : gw_G K ws cells slots pc lv (iN a :: st) := fun H locs ls hl hP hD hS => lv_i2b C.1.1 C.1.2.1 hd (gw_nb h).2 (k H locs ls hl hP hD hS)
theorem gw_i2s (C : gw_x K cc own Ts tys zz) {a : Nat} (hd : decode cc pc = .ok (.i2s, 1)) (h : a < 32768) (k : gw_G K ws cells slots (pc + 1) lv (iN a :: st)) : gw_G K ws cells slots pc lv (iN a :: st) := fun H locs ls hl hP hD hS => lv_i2s C.1.1 C.1.2.1 hd (gw_ns h).2 (k H locs ls hl hP hD hS)
theorem gw_bst (C : gw_x K cc own Ts tys zz) {cA : ClassId} {n a i v : Nat} {f : Nat → Int32} {ws2 : va_W} (q0 t0 : Nat) (hd : decode cc pc = .ok (.bastore, 1)) (ha : ws[q0]? = some (a, .inl (cA, n, .inl f))) (ht : tys[t0]? = some (cA, .byte)) (hn : n ≤ 2147483647) (hi : i < n) (hx : vp_nar .byte (nI v) = nI v) (hw : ws.set q0 (a, .inl (cA, n, .inl (upd f i (nI v)))) = ws2) (k : gw_G K ws2 cells slots (pc + 1) lv st) : gw_G K ws cells slots pc lv (iN v :: iN i :: .ref a :: st) := fun H locs ls hl hP hD hS => va_bast C.1.1 C.1.2.1 C.2.1 hP hD hS q0 t0 ha ht (vp_in_nI hi (by omega)) hd (fun H1 locs1 hP1 hD1 hS1 => k H1 locs1 ls hl (by rw [nI_clamp (by omega), hx, hw] at hP1; exact hP1) (by rw [nI_clamp (by omega), hx, hw] at hD1; exact hD1) hS1)
theorem gw_sst (C : gw_x K cc own Ts tys zz) {cA : ClassId} {n a i v : Nat} {f : Nat → Int32} {ws2 : va_W} (q0 t0 : Nat) (hd : decode cc pc = .ok (.sastore, 1)) (ha : ws[q0]? = some (a, .inl (cA, n, .inl f))) (ht : tys[t0]? = some (cA, .short)) (hn : n ≤ 2147483647) (hi : i < n) (hx : vp_nar .short (nI v) = nI v) (hw : ws.set q0 (a, .inl (cA, n, .inl (upd f i (nI v)))) = ws2) (k : gw_G K ws2 cells slots (pc + 1) lv st) : gw_G K ws cells slots pc lv (iN v :: iN i :: .ref a :: st) := fun H locs ls hl hP hD hS => va_sast C.1.1 C.1.2.1 C.2.1 hP hD hS q0 t0 ha ht (vp_in_nI hi (by omega)) hd (fun H1 locs1 hP1 hD1 hS1 => k H1 locs1 ls hl (by rw [nI_clamp (by omega), hx, hw] at hP1; exact hP1) (by rw [nI_clamp (by omega), hx, hw] at hD1; exact hD1) hS1)
theorem gw_ws {ws2 : va_W} (h : ws = ws2) (k : gw_G K ws2 cells slots pc lv st) : gw_G K ws cells slots pc lv st := h ▸ k
theorem gw_lv (ks : List Nat) (h : lv_pick lv ks = lv2) (k : gw_G K ws cells slots pc lv2 st) : gw_G K ws cells slots pc lv st := fun H locs ls hl hP hD hS => k H locs ls (lv_sub hl ks h) hP hD hS
theorem gw_fm {ws w0 : va_W} {is : List Nat} (h : is.map (fun i => ws[i]?) = w0.map some) : is.filterMap (fun i => ws[i]?) = w0 := by
  have e : is.filterMap (fun i => ws[i]?) = (is.map (fun i => ws[i]?)).filterMap id := by rw [List.filterMap_map]; rfl
  rw [e, h, List.filterMap_map]
  exact List.filterMap_some
theorem gw_blind {DD : va_G} {tys : List (ClassId × FieldType)} {zz : (Nat → Prop) → State → Heap → Prop} {w0 : va_W} {sz : Nat} {av : List Value} (hz : gw_zT zz) : FrameBlind (va_Pc av (gw_P DD tys zz w0 sz)) := fun a U g mk q => ⟨q.1, q.2.1, q.2.2.1, va_K.moved (u := U) (U := U.calling g mk a) (Vm.Alike.refl U.vm) q.2.2.2.1, q.2.2.2.2.1, hz.1 _ U (U.calling g mk a) _ (Or.inl rfl) q.2.2.2.2.2⟩
theorem gw_pre (C : gw_x K cc own Ts tys zz) {H : Heap} {locs : List Loc} {w0 : va_W} (hPc : va_P (kD K) vwCl w0 H) (hDc : va_D (kA K) w0) (hS : va_S (kA K) (ks K).heap H locs) (hFc : ∀ q, va_A w0 H.size q → kA K q) (av : List Value) (U : State) (hU : U.heap = H) (hW : (ks K).WarmedH U.vm) : va_Pc av (gw_P (kD K) tys zz w0 H.size) av.toArray U := ⟨rfl, by rw [hU], by rw [hU]; exact hPc, va_K.moved hW.alike C.2.1, hDc.weaken (fun _ _ _ _ => trivial), by rw [hU]; exact C.2.2.2.2.1 _ (ks K) U H (Or.inr hW) (C.2.2.2.2.2 (kA K) _ (ks K) (ks K).heap H hFc hS.2.1 C.2.2.2.1)⟩
theorem gw_callVI (C : gw_x K cc own Ts tys zz) {S : Type} {y : MethodName} {wy wy' : List Cond} {bytes : ByteArray} {maxL fr lc mc ms n index b : Nat} {w0 wr : va_W} {As rest : List Value} {post : Int32 → S → Prop} {B : S → va_W} {rt : FieldType} (h : gw_CI (kl K) y wy fr lc mc ms (kD K) tys zz w0 (.ref b :: As) post B) {Cn : String} {ci : Nat} {fs : List Value} {r0 : vw_C} (q0 : Nat) (he : w0[q0]? = some (b, .inr (ci, fs))) (hc : vwCl[ci]? = some r0) (hrn : r0.1 = Cn) (hG : GoodIn Ts (wsV own index Cn y wy)) (hw : wy = Cond.code y bytes maxL (some rt) :: wy') (hd4 : y.cls = Cn ∧ y.cls ≠ "java/lang/invoke/MethodHandle" ∧ y.cls ≠ "java/lang/invoke/VarHandle" ∧ (parseMethodDescriptor y.desc).map (fun d => d.parameters.length) = some n) (hd : decode cc pc = .ok (.invokevirtual index, 3)) (hR : fr + 1 ≤ (kR K).frames ∧ 8 + (maxL + 11) + lc ≤ (kR K).locals) (hcs : cells + mc ≤ (kR K).cells ∧ slots + ms ≤ (kR K).slots) (isC isR : List Nat) (hC : isC.map (fun i => ws[i]?) = w0.map some) (hRr : isR.map (fun i => ws[i]?) = wr.map some) (hnC : va_nd isC = true) (hnR : va_nd isR = true) (hdis : ∀ i ∈ isR, i ∉ isC) (hn : As.length = n) (hroom : (rest.map fun v => v.category).sum ≤ 8) (hst : st = As.reverse ++ .ref b :: rest) (k : ∀ (r : Int32) (u : S), post r u → gw_G K (wr ++ B u) (cells + mc) (slots + ms) (pc + 3) lv (.int r :: rest)) : gw_G K ws cells slots pc lv st := fun H locs ls hl hP hD hS => by
  subst hst
  have hPc := hP.sub isC (gw_fm hC)
  have hDc := hD.sub isC hnC hC
  have hFc := va_free (wc := w0) hD hS C.2.2.1 isC hC
  refine va_calli (va_runV (As := As) (rest := rest) C.1 (h H.size) (cwV n C.1.2.2.2.2 hG hw rfl rfl hd4 hR) ⟨gw_blind C.2.2.2.2, by obtain ⟨cell, g1, g2, g3⟩ := va_recv C.2.1 hPc hc he; exact ⟨cell, g1, g2, by rw [← hrn]; exact g3⟩, gw_pre C hPc hDc hS hFc _⟩ rfl hn hl.1 rfl (lv_room hroom) hd hcs) hS (fun q _ h => hFc q h) hFc (fun r u t H1 locs1 ht hvm hp hB hz1 hk1 hS1 => ?_)
  obtain ⟨hP1, hK1, hD1⟩ := hB
  rw [ht] at hP1
  obtain ⟨hP2, hD2⟩ := va_join hP hD isC isR hC hRr hnR hdis hk1 hFc hP1 hD1
  exact k r u hp H1 locs1 ls hl hP2 hD2 hS1
theorem gw_callVV (C : gw_x K cc own Ts tys zz) {S : Type} {y : MethodName} {wy wy' : List Cond} {bytes : ByteArray} {maxL fr lc mc ms n index b : Nat} {w0 wr : va_W} {As rest : List Value} {post : S → Prop} {B : S → va_W} (h : gw_CV (kl K) y wy fr lc mc ms (kD K) tys zz w0 (.ref b :: As) post B) {Cn : String} {ci : Nat} {fs : List Value} {r0 : vw_C} (q0 : Nat) (he : w0[q0]? = some (b, .inr (ci, fs))) (hc : vwCl[ci]? = some r0) (hrn : r0.1 = Cn) (hG : GoodIn Ts (wsV own index Cn y wy)) (hw : wy = Cond.code y bytes maxL (none) :: wy') (hd4 : y.cls = Cn ∧ y.cls ≠ "java/lang/invoke/MethodHandle" ∧ y.cls ≠ "java/lang/invoke/VarHandle" ∧ (parseMethodDescriptor y.desc).map (fun d => d.parameters.length) = some n) (hd : decode cc pc = .ok (.invokevirtual index, 3)) (hR : fr + 1 ≤ (kR K).frames ∧ 8 + (maxL + 11) + lc ≤ (kR K).locals) (hcs : cells + mc ≤ (kR K).cells ∧ slots + ms ≤ (kR K).slots) (isC isR : List Nat) (hC : isC.map (fun i => ws[i]?) = w0.map some) (hRr : isR.map (fun i => ws[i]?) = wr.map some) (hnC : va_nd isC = true) (hnR : va_nd isR = true) (hdis : ∀ i ∈ isR, i ∉ isC) (hn : As.length = n) (hroom : (rest.map fun v => v.category).sum ≤ 8) (hst : st = As.reverse ++ .ref b :: rest) (k : ∀ (u : S), post u → gw_G K (wr ++ B u) (cells + mc) (slots + ms) (pc + 3) lv rest) : gw_G K ws cells slots pc lv st := fun H locs ls hl hP hD hS => by
  subst hst
  have hPc := hP.sub isC (gw_fm hC)
  have hDc := hD.sub isC hnC hC
  have hFc := va_free (wc := w0) hD hS C.2.2.1 isC hC
  refine va_callv (va_runV (As := As) (rest := rest) C.1 (h H.size) (cwV n C.1.2.2.2.2 hG hw rfl rfl hd4 hR) ⟨gw_blind C.2.2.2.2, by obtain ⟨cell, g1, g2, g3⟩ := va_recv C.2.1 hPc hc he; exact ⟨cell, g1, g2, by rw [← hrn]; exact g3⟩, gw_pre C hPc hDc hS hFc _⟩ rfl hn hl.1 rfl (lv_room hroom) hd hcs) hS (fun q _ h => hFc q h) hFc (fun u t H1 locs1 ht hvm hp hB hz1 hk1 hS1 => ?_)
  obtain ⟨hP1, hK1, hD1⟩ := hB
  rw [ht] at hP1
  obtain ⟨hP2, hD2⟩ := va_join hP hD isC isR hC hRr hnR hdis hk1 hFc hP1 hD1
  exact k u hp H1 locs1 ls hl hP2 hD2 hS1
theorem gw_callVR (C : gw_x K cc own Ts tys zz) {S : Type} {y : MethodName} {wy wy' : List Cond} {bytes : ByteArray} {maxL fr lc mc ms n index b : Nat} {w0 wr : va_W} {As rest : List Value} {post : S → Prop} {B : S → Nat → va_W} {rt : FieldType} (h : gw_CR (kl K) y wy fr lc mc ms (kD K) tys zz w0 (.ref b :: As) post B) {Cn : String} {ci : Nat} {fs : List Value} {r0 : vw_C} (q0 : Nat) (he : w0[q0]? = some (b, .inr (ci, fs))) (hc : vwCl[ci]? = some r0) (hrn : r0.1 = Cn) (hG : GoodIn Ts (wsV own index Cn y wy)) (hw : wy = Cond.code y bytes maxL (some rt) :: wy') (hd4 : y.cls = Cn ∧ y.cls ≠ "java/lang/invoke/MethodHandle" ∧ y.cls ≠ "java/lang/invoke/VarHandle" ∧ (parseMethodDescriptor y.desc).map (fun d => d.parameters.length) = some n) (hd : decode cc pc = .ok (.invokevirtual index, 3)) (hR : fr + 1 ≤ (kR K).frames ∧ 8 + (maxL + 11) + lc ≤ (kR K).locals) (hcs : cells + mc ≤ (kR K).cells ∧ slots + ms ≤ (kR K).slots) (isC isR : List Nat) (hC : isC.map (fun i => ws[i]?) = w0.map some) (hRr : isR.map (fun i => ws[i]?) = wr.map some) (hnC : va_nd isC = true) (hnR : va_nd isR = true) (hdis : ∀ i ∈ isR, i ∉ isC) (hn : As.length = n) (hroom : (rest.map fun v => v.category).sum ≤ 8) (hst : st = As.reverse ++ .ref b :: rest) (k : ∀ (u : S) (r : Nat), post u → gw_G K (wr ++ B u r) (cells + mc) (slots + ms) (pc + 3) lv (.ref r :: rest)) : gw_G K ws cells slots pc lv st := fun H locs ls hl hP hD hS => by
  subst hst
  have hPc := hP.sub isC (gw_fm hC)
  have hDc := hD.sub isC hnC hC
  have hFc := va_free (wc := w0) hD hS C.2.2.1 isC hC
  refine va_callr (va_runV (As := As) (rest := rest) C.1 (h H.size) (cwV n C.1.2.2.2.2 hG hw rfl rfl hd4 hR) ⟨gw_blind C.2.2.2.2, by obtain ⟨cell, g1, g2, g3⟩ := va_recv C.2.1 hPc hc he; exact ⟨cell, g1, g2, by rw [← hrn]; exact g3⟩, gw_pre C hPc hDc hS hFc _⟩ rfl hn hl.1 rfl (lv_room hroom) hd hcs) hS (fun q _ h => hFc q h) hFc (fun u r t H1 locs1 ht hvm hp hB hz1 hk1 hS1 => ?_)
  obtain ⟨hP1, hK1, hD1⟩ := hB
  rw [ht] at hP1
  obtain ⟨hP2, hD2⟩ := va_join hP hD isC isR hC hRr hnR hdis hk1 hFc hP1 hD1
  exact k u r hp H1 locs1 ls hl hP2 hD2 hS1
theorem gw_callSI (C : gw_x K cc own Ts tys zz) {S : Type} {y : MethodName} {wy wy' : List Cond} {bytes : ByteArray} {maxL fr lc mc ms n index b : Nat} {w0 wr : va_W} {As rest : List Value} {post : Int32 → S → Prop} {B : S → va_W} {rt : FieldType} (h : gw_CI (kl K) y wy fr lc mc ms (kD K) tys zz w0 As post B) (hG : GoodIn Ts (va_wsS own index y wy)) (hw : wy = Cond.code y bytes maxL (some rt) :: wy') (hd4 : y.cls ≠ "java/lang/invoke/MethodHandle" ∧ y.cls ≠ "java/lang/invoke/VarHandle" ∧ (parseMethodDescriptor y.desc).map (fun d => d.parameters.length) = some n) (hd : decode cc pc = .ok (.invokestatic index, 3)) (hR : fr + 1 ≤ (kR K).frames ∧ 8 + (maxL + 11) + lc ≤ (kR K).locals) (hcs : cells + mc ≤ (kR K).cells ∧ slots + ms ≤ (kR K).slots) (isC isR : List Nat) (hC : isC.map (fun i => ws[i]?) = w0.map some) (hRr : isR.map (fun i => ws[i]?) = wr.map some) (hnC : va_nd isC = true) (hnR : va_nd isR = true) (hdis : ∀ i ∈ isR, i ∉ isC) (hn : As.length = n) (hroom : (rest.map fun v => v.category).sum ≤ 8) (hst : st = As.reverse ++ rest) (k : ∀ (r : Int32) (u : S), post r u → gw_G K (wr ++ B u) (cells + mc) (slots + ms) (pc + 3) lv (.int r :: rest)) : gw_G K ws cells slots pc lv st := fun H locs ls hl hP hD hS => by
  subst hst
  have hPc := hP.sub isC (gw_fm hC)
  have hDc := hD.sub isC hnC hC
  have hFc := va_free (wc := w0) hD hS C.2.2.1 isC hC
  refine va_calli (va_runS (As := As) (rest := rest) C.1 (h H.size) (va_cwS n C.1.2.2.2.2 hG hw rfl rfl hd4 hR) ⟨gw_blind C.2.2.2.2, gw_pre C hPc hDc hS hFc _⟩ rfl hn hl.1 rfl (lv_room hroom) hd hcs) hS (fun q _ h => hFc q h) hFc (fun r u t H1 locs1 ht hvm hp hB hz1 hk1 hS1 => ?_)
  obtain ⟨hP1, hK1, hD1⟩ := hB
  rw [ht] at hP1
  obtain ⟨hP2, hD2⟩ := va_join hP hD isC isR hC hRr hnR hdis hk1 hFc hP1 hD1
  exact k r u hp H1 locs1 ls hl hP2 hD2 hS1
theorem gw_callSV (C : gw_x K cc own Ts tys zz) {S : Type} {y : MethodName} {wy wy' : List Cond} {bytes : ByteArray} {maxL fr lc mc ms n index b : Nat} {w0 wr : va_W} {As rest : List Value} {post : S → Prop} {B : S → va_W} (h : gw_CV (kl K) y wy fr lc mc ms (kD K) tys zz w0 As post B) (hG : GoodIn Ts (va_wsS own index y wy)) (hw : wy = Cond.code y bytes maxL (none) :: wy') (hd4 : y.cls ≠ "java/lang/invoke/MethodHandle" ∧ y.cls ≠ "java/lang/invoke/VarHandle" ∧ (parseMethodDescriptor y.desc).map (fun d => d.parameters.length) = some n) (hd : decode cc pc = .ok (.invokestatic index, 3)) (hR : fr + 1 ≤ (kR K).frames ∧ 8 + (maxL + 11) + lc ≤ (kR K).locals) (hcs : cells + mc ≤ (kR K).cells ∧ slots + ms ≤ (kR K).slots) (isC isR : List Nat) (hC : isC.map (fun i => ws[i]?) = w0.map some) (hRr : isR.map (fun i => ws[i]?) = wr.map some) (hnC : va_nd isC = true) (hnR : va_nd isR = true) (hdis : ∀ i ∈ isR, i ∉ isC) (hn : As.length = n) (hroom : (rest.map fun v => v.category).sum ≤ 8) (hst : st = As.reverse ++ rest) (k : ∀ (u : S), post u → gw_G K (wr ++ B u) (cells + mc) (slots + ms) (pc + 3) lv rest) : gw_G K ws cells slots pc lv st := fun H locs ls hl hP hD hS => by
  subst hst
  have hPc := hP.sub isC (gw_fm hC)
  have hDc := hD.sub isC hnC hC
  have hFc := va_free (wc := w0) hD hS C.2.2.1 isC hC
  refine va_callv (va_runS (As := As) (rest := rest) C.1 (h H.size) (va_cwS n C.1.2.2.2.2 hG hw rfl rfl hd4 hR) ⟨gw_blind C.2.2.2.2, gw_pre C hPc hDc hS hFc _⟩ rfl hn hl.1 rfl (lv_room hroom) hd hcs) hS (fun q _ h => hFc q h) hFc (fun u t H1 locs1 ht hvm hp hB hz1 hk1 hS1 => ?_)
  obtain ⟨hP1, hK1, hD1⟩ := hB
  rw [ht] at hP1
  obtain ⟨hP2, hD2⟩ := va_join hP hD isC isR hC hRr hnR hdis hk1 hFc hP1 hD1
  exact k u hp H1 locs1 ls hl hP2 hD2 hS1
theorem gw_callSR (C : gw_x K cc own Ts tys zz) {S : Type} {y : MethodName} {wy wy' : List Cond} {bytes : ByteArray} {maxL fr lc mc ms n index b : Nat} {w0 wr : va_W} {As rest : List Value} {post : S → Prop} {B : S → Nat → va_W} {rt : FieldType} (h : gw_CR (kl K) y wy fr lc mc ms (kD K) tys zz w0 As post B) (hG : GoodIn Ts (va_wsS own index y wy)) (hw : wy = Cond.code y bytes maxL (some rt) :: wy') (hd4 : y.cls ≠ "java/lang/invoke/MethodHandle" ∧ y.cls ≠ "java/lang/invoke/VarHandle" ∧ (parseMethodDescriptor y.desc).map (fun d => d.parameters.length) = some n) (hd : decode cc pc = .ok (.invokestatic index, 3)) (hR : fr + 1 ≤ (kR K).frames ∧ 8 + (maxL + 11) + lc ≤ (kR K).locals) (hcs : cells + mc ≤ (kR K).cells ∧ slots + ms ≤ (kR K).slots) (isC isR : List Nat) (hC : isC.map (fun i => ws[i]?) = w0.map some) (hRr : isR.map (fun i => ws[i]?) = wr.map some) (hnC : va_nd isC = true) (hnR : va_nd isR = true) (hdis : ∀ i ∈ isR, i ∉ isC) (hn : As.length = n) (hroom : (rest.map fun v => v.category).sum ≤ 8) (hst : st = As.reverse ++ rest) (k : ∀ (u : S) (r : Nat), post u → gw_G K (wr ++ B u r) (cells + mc) (slots + ms) (pc + 3) lv (.ref r :: rest)) : gw_G K ws cells slots pc lv st := fun H locs ls hl hP hD hS => by
  subst hst
  have hPc := hP.sub isC (gw_fm hC)
  have hDc := hD.sub isC hnC hC
  have hFc := va_free (wc := w0) hD hS C.2.2.1 isC hC
  refine va_callr (va_runS (As := As) (rest := rest) C.1 (h H.size) (va_cwS n C.1.2.2.2.2 hG hw rfl rfl hd4 hR) ⟨gw_blind C.2.2.2.2, gw_pre C hPc hDc hS hFc _⟩ rfl hn hl.1 rfl (lv_room hroom) hd hcs) hS (fun q _ h => hFc q h) hFc (fun u r t H1 locs1 ht hvm hp hB hz1 hk1 hS1 => ?_)
  obtain ⟨hP1, hK1, hD1⟩ := hB
  rw [ht] at hP1
  obtain ⟨hP2, hD2⟩ := va_join hP hD isC isR hC hRr hnR hdis hk1 hFc hP1 hD1
  exact k u r hp H1 locs1 ls hl hP2 hD2 hS1
theorem gw_callIV (C : gw_x K cc own Ts tys zz) {S : Type} {y : MethodName} {wy wy' : List Cond} {bytes : ByteArray} {maxL fr lc mc ms n index b : Nat} {w0 wr : va_W} {As rest : List Value} {post : S → Prop} {B : S → va_W} (h : gw_CV (kl K) y wy fr lc mc ms (kD K) tys zz w0 (.ref b :: As) post B) (hG : GoodIn Ts wy) (hw : wy = Cond.code y bytes maxL (none) :: wy') (hini : Cond.initialized y.cls ∈ Ts) (hlk : Cond.methodLink own index y ∈ Ts) (him : Cond.instanceMethod y ∈ Ts) (hyn : y.name = "<init>") (hd4 : y.cls ≠ "java/lang/invoke/MethodHandle" ∧ y.cls ≠ "java/lang/invoke/VarHandle" ∧ (parseMethodDescriptor y.desc).map (fun d => d.parameters.length) = some n) (hd : decode cc pc = .ok (.invokespecial index, 3)) (hR : fr + 1 ≤ (kR K).frames ∧ 8 + (maxL + 11) + lc ≤ (kR K).locals) (hcs : cells + mc ≤ (kR K).cells ∧ slots + ms ≤ (kR K).slots) (isC isR : List Nat) (hC : isC.map (fun i => ws[i]?) = w0.map some) (hRr : isR.map (fun i => ws[i]?) = wr.map some) (hnC : va_nd isC = true) (hnR : va_nd isR = true) (hdis : ∀ i ∈ isR, i ∉ isC) (hn : As.length = n) (hroom : (rest.map fun v => v.category).sum ≤ 8) (hst : st = As.reverse ++ .ref b :: rest) (k : ∀ (u : S), post u → gw_G K (wr ++ B u) (cells + mc) (slots + ms) (pc + 3) lv rest) : gw_G K ws cells slots pc lv st := fun H locs ls hl hP hD hS => by
  subst hst
  have hPc := hP.sub isC (gw_fm hC)
  have hDc := hD.sub isC hnC hC
  have hFc := va_free (wc := w0) hD hS C.2.2.1 isC hC
  refine va_callv (va_runI (As := As) (rest := rest) C.1 (h H.size) (cwI n C.1.2.2.2.2 hG hw rfl rfl (C.1.2.2.2.2 _ hini) (C.1.2.2.2.2 _ hlk) (C.1.2.2.2.2 _ him) hyn hd4 hR) ⟨gw_blind C.2.2.2.2, gw_pre C hPc hDc hS hFc _⟩ rfl hn hl.1 rfl (lv_room hroom) hd hcs) hS (fun q _ h => hFc q h) hFc (fun u t H1 locs1 ht hvm hp hB hz1 hk1 hS1 => ?_)
  obtain ⟨hP1, hK1, hD1⟩ := hB
  rw [ht] at hP1
  obtain ⟨hP2, hD2⟩ := va_join hP hD isC isR hC hRr hnR hdis hk1 hFc hP1 hD1
  exact k u hp H1 locs1 ls hl hP2 hD2 hS1
theorem gw_callUI (C : gw_x K cc own Ts tys zz) {S : Type} {y : MethodName} {wy wy' : List Cond} {bytes : ByteArray} {maxL fr lc mc ms n index b : Nat} {w0 wr : va_W} {As rest : List Value} {post : Int32 → S → Prop} {B : S → va_W} {rt : FieldType} (h : gw_CI (kl K) y wy fr lc mc ms (kD K) tys zz w0 (.ref b :: As) post B) {x : MethodName} {owner : String} {Cn : String} {ci : Nat} {fs : List Value} {r0 : vw_C} (q0 : Nat) (he : w0[q0]? = some (b, .inr (ci, fs))) (hc : vwCl[ci]? = some r0) (hrn : r0.1 = Cn) (hG : GoodIn Ts (va_wsU own index Cn owner x y wy)) (hw : wy = Cond.code y bytes maxL (some rt) :: wy') (hyx : y = ⟨owner, x.name, x.desc⟩) (hd4 : owner ≠ "java/lang/invoke/MethodHandle" ∧ owner ≠ "java/lang/invoke/VarHandle" ∧ (parseMethodDescriptor x.desc).map (fun d => d.parameters.length) = some n) (hd : decode cc pc = .ok (.invokevirtual index, 3)) (hR : fr + 1 ≤ (kR K).frames ∧ 8 + (maxL + 11) + lc ≤ (kR K).locals) (hcs : cells + mc ≤ (kR K).cells ∧ slots + ms ≤ (kR K).slots) (isC isR : List Nat) (hC : isC.map (fun i => ws[i]?) = w0.map some) (hRr : isR.map (fun i => ws[i]?) = wr.map some) (hnC : va_nd isC = true) (hnR : va_nd isR = true) (hdis : ∀ i ∈ isR, i ∉ isC) (hn : As.length = n) (hroom : (rest.map fun v => v.category).sum ≤ 8) (hst : st = As.reverse ++ .ref b :: rest) (k : ∀ (r : Int32) (u : S), post r u → gw_G K (wr ++ B u) (cells + mc) (slots + ms) (pc + 3) lv (.int r :: rest)) : gw_G K ws cells slots pc lv st := fun H locs ls hl hP hD hS => by
  subst hst
  have hPc := hP.sub isC (gw_fm hC)
  have hDc := hD.sub isC hnC hC
  have hFc := va_free (wc := w0) hD hS C.2.2.1 isC hC
  refine va_calli (va_runU (As := As) (rest := rest) C.1 (h H.size) (va_cwU n C.1.2.2.2.2 hG hw rfl rfl hyx hd4 hR) ⟨gw_blind C.2.2.2.2, by obtain ⟨cell, g1, g2, g3⟩ := va_recv C.2.1 hPc hc he; exact ⟨cell, g1, g2, by rw [← hrn]; exact g3⟩, gw_pre C hPc hDc hS hFc _⟩ rfl hn hl.1 rfl (lv_room hroom) hd hcs) hS (fun q _ h => hFc q h) hFc (fun r u t H1 locs1 ht hvm hp hB hz1 hk1 hS1 => ?_)
  obtain ⟨hP1, hK1, hD1⟩ := hB
  rw [ht] at hP1
  obtain ⟨hP2, hD2⟩ := va_join hP hD isC isR hC hRr hnR hdis hk1 hFc hP1 hD1
  exact k r u hp H1 locs1 ls hl hP2 hD2 hS1
theorem gw_callUV (C : gw_x K cc own Ts tys zz) {S : Type} {y : MethodName} {wy wy' : List Cond} {bytes : ByteArray} {maxL fr lc mc ms n index b : Nat} {w0 wr : va_W} {As rest : List Value} {post : S → Prop} {B : S → va_W} (h : gw_CV (kl K) y wy fr lc mc ms (kD K) tys zz w0 (.ref b :: As) post B) {x : MethodName} {owner : String} {Cn : String} {ci : Nat} {fs : List Value} {r0 : vw_C} (q0 : Nat) (he : w0[q0]? = some (b, .inr (ci, fs))) (hc : vwCl[ci]? = some r0) (hrn : r0.1 = Cn) (hG : GoodIn Ts (va_wsU own index Cn owner x y wy)) (hw : wy = Cond.code y bytes maxL (none) :: wy') (hyx : y = ⟨owner, x.name, x.desc⟩) (hd4 : owner ≠ "java/lang/invoke/MethodHandle" ∧ owner ≠ "java/lang/invoke/VarHandle" ∧ (parseMethodDescriptor x.desc).map (fun d => d.parameters.length) = some n) (hd : decode cc pc = .ok (.invokevirtual index, 3)) (hR : fr + 1 ≤ (kR K).frames ∧ 8 + (maxL + 11) + lc ≤ (kR K).locals) (hcs : cells + mc ≤ (kR K).cells ∧ slots + ms ≤ (kR K).slots) (isC isR : List Nat) (hC : isC.map (fun i => ws[i]?) = w0.map some) (hRr : isR.map (fun i => ws[i]?) = wr.map some) (hnC : va_nd isC = true) (hnR : va_nd isR = true) (hdis : ∀ i ∈ isR, i ∉ isC) (hn : As.length = n) (hroom : (rest.map fun v => v.category).sum ≤ 8) (hst : st = As.reverse ++ .ref b :: rest) (k : ∀ (u : S), post u → gw_G K (wr ++ B u) (cells + mc) (slots + ms) (pc + 3) lv rest) : gw_G K ws cells slots pc lv st := fun H locs ls hl hP hD hS => by
  subst hst
  have hPc := hP.sub isC (gw_fm hC)
  have hDc := hD.sub isC hnC hC
  have hFc := va_free (wc := w0) hD hS C.2.2.1 isC hC
  refine va_callv (va_runU (As := As) (rest := rest) C.1 (h H.size) (va_cwU n C.1.2.2.2.2 hG hw rfl rfl hyx hd4 hR) ⟨gw_blind C.2.2.2.2, by obtain ⟨cell, g1, g2, g3⟩ := va_recv C.2.1 hPc hc he; exact ⟨cell, g1, g2, by rw [← hrn]; exact g3⟩, gw_pre C hPc hDc hS hFc _⟩ rfl hn hl.1 rfl (lv_room hroom) hd hcs) hS (fun q _ h => hFc q h) hFc (fun u t H1 locs1 ht hvm hp hB hz1 hk1 hS1 => ?_)
  obtain ⟨hP1, hK1, hD1⟩ := hB
  rw [ht] at hP1
  obtain ⟨hP2, hD2⟩ := va_join hP hD isC isR hC hRr hnR hdis hk1 hFc hP1 hD1
  exact k u hp H1 locs1 ls hl hP2 hD2 hS1
theorem gw_callUR (C : gw_x K cc own Ts tys zz) {S : Type} {y : MethodName} {wy wy' : List Cond} {bytes : ByteArray} {maxL fr lc mc ms n index b : Nat} {w0 wr : va_W} {As rest : List Value} {post : S → Prop} {B : S → Nat → va_W} {rt : FieldType} (h : gw_CR (kl K) y wy fr lc mc ms (kD K) tys zz w0 (.ref b :: As) post B) {x : MethodName} {owner : String} {Cn : String} {ci : Nat} {fs : List Value} {r0 : vw_C} (q0 : Nat) (he : w0[q0]? = some (b, .inr (ci, fs))) (hc : vwCl[ci]? = some r0) (hrn : r0.1 = Cn) (hG : GoodIn Ts (va_wsU own index Cn owner x y wy)) (hw : wy = Cond.code y bytes maxL (some rt) :: wy') (hyx : y = ⟨owner, x.name, x.desc⟩) (hd4 : owner ≠ "java/lang/invoke/MethodHandle" ∧ owner ≠ "java/lang/invoke/VarHandle" ∧ (parseMethodDescriptor x.desc).map (fun d => d.parameters.length) = some n) (hd : decode cc pc = .ok (.invokevirtual index, 3)) (hR : fr + 1 ≤ (kR K).frames ∧ 8 + (maxL + 11) + lc ≤ (kR K).locals) (hcs : cells + mc ≤ (kR K).cells ∧ slots + ms ≤ (kR K).slots) (isC isR : List Nat) (hC : isC.map (fun i => ws[i]?) = w0.map some) (hRr : isR.map (fun i => ws[i]?) = wr.map some) (hnC : va_nd isC = true) (hnR : va_nd isR = true) (hdis : ∀ i ∈ isR, i ∉ isC) (hn : As.length = n) (hroom : (rest.map fun v => v.category).sum ≤ 8) (hst : st = As.reverse ++ .ref b :: rest) (k : ∀ (u : S) (r : Nat), post u → gw_G K (wr ++ B u r) (cells + mc) (slots + ms) (pc + 3) lv (.ref r :: rest)) : gw_G K ws cells slots pc lv st := fun H locs ls hl hP hD hS => by
  subst hst
  have hPc := hP.sub isC (gw_fm hC)
  have hDc := hD.sub isC hnC hC
  have hFc := va_free (wc := w0) hD hS C.2.2.1 isC hC
  refine va_callr (va_runU (As := As) (rest := rest) C.1 (h H.size) (va_cwU n C.1.2.2.2.2 hG hw rfl rfl hyx hd4 hR) ⟨gw_blind C.2.2.2.2, by obtain ⟨cell, g1, g2, g3⟩ := va_recv C.2.1 hPc hc he; exact ⟨cell, g1, g2, by rw [← hrn]; exact g3⟩, gw_pre C hPc hDc hS hFc _⟩ rfl hn hl.1 rfl (lv_room hroom) hd hcs) hS (fun q _ h => hFc q h) hFc (fun u r t H1 locs1 ht hvm hp hB hz1 hk1 hS1 => ?_)
  obtain ⟨hP1, hK1, hD1⟩ := hB
  rw [ht] at hP1
  obtain ⟨hP2, hD2⟩ := va_join hP hD isC isR hC hRr hnR hdis hk1 hFc hP1 hD1
  exact k u r hp H1 locs1 ls hl hP2 hD2 hS1
theorem gw_callAI (C : gw_x K cc own Ts tys zz) {S : Type} {y : MethodName} {wy wy' : List Cond} {bytes : ByteArray} {maxL fr lc mc ms n index b : Nat} {w0 wr : va_W} {As rest : List Value} {post : Int32 → S → Prop} {B : S → va_W} {rt : FieldType} (h : gw_CI (kl K) y wy fr lc mc ms (kD K) tys zz w0 (.ref b :: As) post B) {x : MethodName} {owner : String} {Cn : String} {ci : Nat} {fs : List Value} {r0 : vw_C} (q0 : Nat) (he : w0[q0]? = some (b, .inr (ci, fs))) (hc : vwCl[ci]? = some r0) (hrn : r0.1 = Cn) (hG : GoodIn Ts (va_wsU own index Cn owner x y wy)) (hw : wy = Cond.code y bytes maxL (some rt) :: wy') (hz : va_Nw (.declares ⟨owner, x.name, x.desc⟩) (ks K)) (hd4 : owner ≠ "java/lang/invoke/MethodHandle" ∧ owner ≠ "java/lang/invoke/VarHandle" ∧ (parseMethodDescriptor x.desc).map (fun d => d.parameters.length) = some n) (hd : decode cc pc = .ok (.invokevirtual index, 3)) (hR : fr + 1 ≤ (kR K).frames ∧ 8 + (maxL + 11) + lc ≤ (kR K).locals) (hcs : cells + mc ≤ (kR K).cells ∧ slots + ms ≤ (kR K).slots) (isC isR : List Nat) (hC : isC.map (fun i => ws[i]?) = w0.map some) (hRr : isR.map (fun i => ws[i]?) = wr.map some) (hnC : va_nd isC = true) (hnR : va_nd isR = true) (hdis : ∀ i ∈ isR, i ∉ isC) (hn : As.length = n) (hroom : (rest.map fun v => v.category).sum ≤ 8) (hst : st = As.reverse ++ .ref b :: rest) (k : ∀ (r : Int32) (u : S), post r u → gw_G K (wr ++ B u) (cells + mc) (slots + ms) (pc + 3) lv (.int r :: rest)) : gw_G K ws cells slots pc lv st := fun H locs ls hl hP hD hS => by
  subst hst
  have hPc := hP.sub isC (gw_fm hC)
  have hDc := hD.sub isC hnC hC
  have hFc := va_free (wc := w0) hD hS C.2.2.1 isC hC
  refine va_calli (va_runU (As := As) (rest := rest) C.1 (h H.size) (va_cwA n C.1.2.2.2.2 hG hw rfl rfl hz hd4 hR) ⟨gw_blind C.2.2.2.2, by obtain ⟨cell, g1, g2, g3⟩ := va_recv C.2.1 hPc hc he; exact ⟨cell, g1, g2, by rw [← hrn]; exact g3⟩, gw_pre C hPc hDc hS hFc _⟩ rfl hn hl.1 rfl (lv_room hroom) hd hcs) hS (fun q _ h => hFc q h) hFc (fun r u t H1 locs1 ht hvm hp hB hz1 hk1 hS1 => ?_)
  obtain ⟨hP1, hK1, hD1⟩ := hB
  rw [ht] at hP1
  obtain ⟨hP2, hD2⟩ := va_join hP hD isC isR hC hRr hnR hdis hk1 hFc hP1 hD1
  exact k r u hp H1 locs1 ls hl hP2 hD2 hS1
theorem gw_callAV (C : gw_x K cc own Ts tys zz) {S : Type} {y : MethodName} {wy wy' : List Cond} {bytes : ByteArray} {maxL fr lc mc ms n index b : Nat} {w0 wr : va_W} {As rest : List Value} {post : S → Prop} {B : S → va_W} (h : gw_CV (kl K) y wy fr lc mc ms (kD K) tys zz w0 (.ref b :: As) post B) {x : MethodName} {owner : String} {Cn : String} {ci : Nat} {fs : List Value} {r0 : vw_C} (q0 : Nat) (he : w0[q0]? = some (b, .inr (ci, fs))) (hc : vwCl[ci]? = some r0) (hrn : r0.1 = Cn) (hG : GoodIn Ts (va_wsU own index Cn owner x y wy)) (hw : wy = Cond.code y bytes maxL (none) :: wy') (hz : va_Nw (.declares ⟨owner, x.name, x.desc⟩) (ks K)) (hd4 : owner ≠ "java/lang/invoke/MethodHandle" ∧ owner ≠ "java/lang/invoke/VarHandle" ∧ (parseMethodDescriptor x.desc).map (fun d => d.parameters.length) = some n) (hd : decode cc pc = .ok (.invokevirtual index, 3)) (hR : fr + 1 ≤ (kR K).frames ∧ 8 + (maxL + 11) + lc ≤ (kR K).locals) (hcs : cells + mc ≤ (kR K).cells ∧ slots + ms ≤ (kR K).slots) (isC isR : List Nat) (hC : isC.map (fun i => ws[i]?) = w0.map some) (hRr : isR.map (fun i => ws[i]?) = wr.map some) (hnC : va_nd isC = true) (hnR : va_nd isR = true) (hdis : ∀ i ∈ isR, i ∉ isC) (hn : As.length = n) (hroom : (rest.map fun v => v.category).sum ≤ 8) (hst : st = As.reverse ++ .ref b :: rest) (k : ∀ (u : S), post u → gw_G K (wr ++ B u) (cells + mc) (slots + ms) (pc + 3) lv rest) : gw_G K ws cells slots pc lv st := fun H locs ls hl hP hD hS => by
  subst hst
  have hPc := hP.sub isC (gw_fm hC)
  have hDc := hD.sub isC hnC hC
  have hFc := va_free (wc := w0) hD hS C.2.2.1 isC hC
  refine va_callv (va_runU (As := As) (rest := rest) C.1 (h H.size) (va_cwA n C.1.2.2.2.2 hG hw rfl rfl hz hd4 hR) ⟨gw_blind C.2.2.2.2, by obtain ⟨cell, g1, g2, g3⟩ := va_recv C.2.1 hPc hc he; exact ⟨cell, g1, g2, by rw [← hrn]; exact g3⟩, gw_pre C hPc hDc hS hFc _⟩ rfl hn hl.1 rfl (lv_room hroom) hd hcs) hS (fun q _ h => hFc q h) hFc (fun u t H1 locs1 ht hvm hp hB hz1 hk1 hS1 => ?_)
  obtain ⟨hP1, hK1, hD1⟩ := hB
  rw [ht] at hP1
  obtain ⟨hP2, hD2⟩ := va_join hP hD isC isR hC hRr hnR hdis hk1 hFc hP1 hD1
  exact k u hp H1 locs1 ls hl hP2 hD2 hS1
theorem gw_callAR (C : gw_x K cc own Ts tys zz) {S : Type} {y : MethodName} {wy wy' : List Cond} {bytes : ByteArray} {maxL fr lc mc ms n index b : Nat} {w0 wr : va_W} {As rest : List Value} {post : S → Prop} {B : S → Nat → va_W} {rt : FieldType} (h : gw_CR (kl K) y wy fr lc mc ms (kD K) tys zz w0 (.ref b :: As) post B) {x : MethodName} {owner : String} {Cn : String} {ci : Nat} {fs : List Value} {r0 : vw_C} (q0 : Nat) (he : w0[q0]? = some (b, .inr (ci, fs))) (hc : vwCl[ci]? = some r0) (hrn : r0.1 = Cn) (hG : GoodIn Ts (va_wsU own index Cn owner x y wy)) (hw : wy = Cond.code y bytes maxL (some rt) :: wy') (hz : va_Nw (.declares ⟨owner, x.name, x.desc⟩) (ks K)) (hd4 : owner ≠ "java/lang/invoke/MethodHandle" ∧ owner ≠ "java/lang/invoke/VarHandle" ∧ (parseMethodDescriptor x.desc).map (fun d => d.parameters.length) = some n) (hd : decode cc pc = .ok (.invokevirtual index, 3)) (hR : fr + 1 ≤ (kR K).frames ∧ 8 + (maxL + 11) + lc ≤ (kR K).locals) (hcs : cells + mc ≤ (kR K).cells ∧ slots + ms ≤ (kR K).slots) (isC isR : List Nat) (hC : isC.map (fun i => ws[i]?) = w0.map some) (hRr : isR.map (fun i => ws[i]?) = wr.map some) (hnC : va_nd isC = true) (hnR : va_nd isR = true) (hdis : ∀ i ∈ isR, i ∉ isC) (hn : As.length = n) (hroom : (rest.map fun v => v.category).sum ≤ 8) (hst : st = As.reverse ++ .ref b :: rest) (k : ∀ (u : S) (r : Nat), post u → gw_G K (wr ++ B u r) (cells + mc) (slots + ms) (pc + 3) lv (.ref r :: rest)) : gw_G K ws cells slots pc lv st := fun H locs ls hl hP hD hS => by
  subst hst
  have hPc := hP.sub isC (gw_fm hC)
  have hDc := hD.sub isC hnC hC
  have hFc := va_free (wc := w0) hD hS C.2.2.1 isC hC
  refine va_callr (va_runU (As := As) (rest := rest) C.1 (h H.size) (va_cwA n C.1.2.2.2.2 hG hw rfl rfl hz hd4 hR) ⟨gw_blind C.2.2.2.2, by obtain ⟨cell, g1, g2, g3⟩ := va_recv C.2.1 hPc hc he; exact ⟨cell, g1, g2, by rw [← hrn]; exact g3⟩, gw_pre C hPc hDc hS hFc _⟩ rfl hn hl.1 rfl (lv_room hroom) hd hcs) hS (fun q _ h => hFc q h) hFc (fun u r t H1 locs1 ht hvm hp hB hz1 hk1 hS1 => ?_)
  obtain ⟨hP1, hK1, hD1⟩ := hB
  rw [ht] at hP1
  obtain ⟨hP2, hD2⟩ := va_join hP hD isC isR hC hRr hnR hdis hk1 hFc hP1 hD1
  exact k u r hp H1 locs1 ls hl hP2 hD2 hS1
theorem gw_neg {a : Nat} (h : a < 2 ^ 32) : nI a < 0 ↔ 2 ^ 31 ≤ a := by
  rw [Int32.lt_iff_toInt_lt]
  have e : (nI a).toInt = Int.bmod (a : Int) (2 ^ 32) := by simp [nI, Int32.toInt_ofNat']
  rw [e, Int.bmod_def]
  have z : (0 : Int32).toInt = 0 := rfl
  rw [z]
  omega
theorem gw_if_lt32 (C : gw_x K cc own Ts tys zz) {a : Nat} {off : Int} (tgt : Nat) (hd : decode cc pc = .ok (.ifCond .lt off, 3)) (ht : (pc : Int) + off = (tgt : Int)) (ha : a < 2 ^ 32) (kt : 2 ^ 31 ≤ a → gw_G K ws cells slots tgt lv st) (kf : a < 2 ^ 31 → gw_G K ws cells slots (pc + 3) lv st) : gw_G K ws cells slots pc lv (iN a :: st) := gw_if_lt_r C tgt hd ht (fun h => kt ((gw_neg ha).mp h)) (fun h => kf (Nat.not_le.mp (fun q => h ((gw_neg ha).mpr q))))
theorem gw_if_ge32 (C : gw_x K cc own Ts tys zz) {a : Nat} {off : Int} (tgt : Nat) (hd : decode cc pc = .ok (.ifCond .ge off, 3)) (ht : (pc : Int) + off = (tgt : Int)) (ha : a < 2 ^ 32) (kt : a < 2 ^ 31 → gw_G K ws cells slots tgt lv st) (kf : 2 ^ 31 ≤ a → gw_G K ws cells slots (pc + 3) lv st) : gw_G K ws cells slots pc lv (iN a :: st) := gw_if_ge_r C tgt hd ht (fun h => kt (Nat.not_le.mp (fun q => by have := (gw_neg ha).mpr q; rw [Int32.lt_iff_toInt_lt] at this; rw [Int32.le_iff_toInt_le] at h; omega))) (fun h => kf (Nat.not_lt.mp (fun q => h (nI_pos' q))))
theorem gw_eq32 {a b : Nat} (ha : a < 2 ^ 32) (hb : b < 2 ^ 32) : nI a = nI b ↔ a = b := by
  constructor
  · intro h
    have := congrArg (fun x : Int32 => x.toBitVec.toNat) h
    simpa [pk_tn ha, pk_tn hb] using this
  · intro h; rw [h]
theorem gw_icmp_eq32 (C : gw_x K cc own Ts tys zz) {a b : Nat} {off : Int} (tgt : Nat) (hd : decode cc pc = .ok (.if_icmp .eq off, 3)) (ht : (pc : Int) + off = (tgt : Int)) (ha : a < 2 ^ 32) (hb : b < 2 ^ 32) (kt : a = b → gw_G K ws cells slots tgt lv st) (kf : ¬ a = b → gw_G K ws cells slots (pc + 3) lv st) : gw_G K ws cells slots pc lv (iN b :: iN a :: st) := gw_icmp_eq_r C tgt hd ht (fun h => kt ((gw_eq32 ha hb).mp h)) (fun h => kf (fun q => h ((gw_eq32 ha hb).mpr q)))
theorem gw_if_eq32 (C : gw_x K cc own Ts tys zz) {a : Nat} {off : Int} (tgt : Nat) (hd : decode cc pc = .ok (.ifCond .eq off, 3)) (ht : (pc : Int) + off = (tgt : Int)) (ha : a < 2 ^ 32) (kt : a = 0 → gw_G K ws cells slots tgt lv st) (kf : ¬ a = 0 → gw_G K ws cells slots (pc + 3) lv st) : gw_G K ws cells slots pc lv (iN a :: st) := gw_if_eq_r C tgt hd ht (fun h => kt ((gw_eq32 (b := 0) ha (by decide)).mp h)) (fun h => kf (fun q => h ((gw_eq32 (b := 0) ha (by decide)).mpr q)))
theorem gw_icmp_ne32 (C : gw_x K cc own Ts tys zz) {a b : Nat} {off : Int} (tgt : Nat) (hd : decode cc pc = .ok (.if_icmp .ne off, 3)) (ht : (pc : Int) + off = (tgt : Int)) (ha : a < 2 ^ 32) (hb : b < 2 ^ 32) (kt : ¬ a = b → gw_G K ws cells slots tgt lv st) (kf : a = b → gw_G K ws cells slots (pc + 3) lv st) : gw_G K ws cells slots pc lv (iN b :: iN a :: st) := gw_icmp_ne_r C tgt hd ht (fun h => kt (fun q => h ((gw_eq32 ha hb).mpr q))) (fun h => kf ((gw_eq32 ha hb).mp h))
theorem gw_if_ne32 (C : gw_x K cc own Ts tys zz) {a : Nat} {off : Int} (tgt : Nat) (hd : decode cc pc = .ok (.ifCond .ne off, 3)) (ht : (pc : Int) + off = (tgt : Int)) (ha : a < 2 ^ 32) (kt : ¬ a = 0 → gw_G K ws cells slots tgt lv st) (kf : a = 0 → gw_G K ws cells slots (pc + 3) lv st) : gw_G K ws cells slots pc lv (iN a :: st) := gw_if_ne_r C tgt hd ht (fun h => kt (fun q => h ((gw_eq32 (b := 0) ha (by decide)).mpr q))) (fun h => kf ((gw_eq32 (b := 0) ha (by decide)).mp h))
end GWR
end
section
section GWS
variable {K : gw_K} {cc : ByteArray} {own : String} {Ts : List Cond} {tys : List (ClassId × FieldType)} {zz : (Nat → Prop) → State → Heap → Prop} {ws : va_W} {cells slots pc : Nat} {lv lv' : List (Nat × Value)} {st : List Value}
theorem gw_toInt {a : Nat} (h : a < 2 ^ 32) : (nI a).toInt = if a < 2 ^ 31 then (a : Int) else (a : Int) - 2 ^ 32 := by
  have e : (nI a).toInt = Int.bmod (a : Int) (2 ^ 32) := by simp [nI, Int32.toInt_ofNat']
  rw [e, Int.bmod_def]
  split <;> split <;> omega
theorem gw_lt32 {a b : Nat} (ha : a < 2 ^ 32) (hb : b < 2 ^ 31) : nI a < nI b ↔ (2 ^ 31 ≤ a ∨ a < b) := by
  rw [Int32.lt_iff_toInt_lt, gw_toInt ha, gw_toInt (show b < 2 ^ 32 by omega), if_pos hb]
  split <;> omega
theorem gw_icmp_lt32 (C : gw_x K cc own Ts tys zz) {a b : Nat} {off : Int} (tgt : Nat) (hd : decode cc pc = .ok (.if_icmp .lt off, 3)) (ht : (pc : Int) + off = (tgt : Int)) (ha : a < 2 ^ 32) (hb : b < 2 ^ 31) (kt : 2 ^ 31 ≤ a ∨ a < b → gw_G K ws cells slots tgt lv st) (kf : ¬ (2 ^ 31 ≤ a ∨ a < b) → gw_G K ws cells slots (pc + 3) lv st) : gw_G K ws cells slots pc lv (iN b :: iN a :: st) := gw_icmp_lt_r C tgt hd ht (fun h => kt ((gw_lt32 ha hb).mp h)) (fun h => kf (fun q => h ((gw_lt32 ha hb).mpr q)))
theorem gw_rng (ws : va_W) : (List.range ws.length).map (fun i => ws[i]?) = ws.map some := by
  apply List.ext_getElem
  · simp
  · intro i h1 h2
    simp at h1
    simp [h1]
theorem gw_nd1 : ∀ l : List Nat, l.Nodup → va_nd l = true
  | [], _ => rfl
  | a :: l, h => by
    rw [List.nodup_cons] at h
    simp [va_nd, h.1, gw_nd1 l h.2]
theorem gw_ndr (n : Nat) : va_nd (List.range n) = true := gw_nd1 _ List.nodup_range
theorem gw_allVI (C : gw_x K cc own Ts tys zz) {S : Type} {y : MethodName} {wy wy' : List Cond} {bytes : ByteArray} {maxL fr lc mc ms n index b : Nat} {As rest : List Value} {post : Int32 → S → Prop} {B : S → va_W} {rt : FieldType} (h : gw_CI (kl K) y wy fr lc mc ms (kD K) tys zz ws (.ref b :: As) post B) {Cn : String} {ci : Nat} {fs : List Value} {r0 : vw_C} (q0 : Nat) (he : ws[q0]? = some (b, .inr (ci, fs))) (hc : vwCl[ci]? = some r0) (hrn : r0.1 = Cn) (hG : GoodIn Ts (wsV own index Cn y wy)) (hw : wy = Cond.code y bytes maxL (some rt) :: wy') (hd4 : y.cls = Cn ∧ y.cls ≠ "java/lang/invoke/MethodHandle" ∧ y.cls ≠ "java/lang/invoke/VarHandle" ∧ (parseMethodDescriptor y.desc).map (fun d => d.parameters.length) = some n) (hd : decode cc pc = .ok (.invokevirtual index, 3)) (hR : fr + 1 ≤ (kR K).frames ∧ 8 + (maxL + 11) + lc ≤ (kR K).locals) (hcs : cells + mc ≤ (kR K).cells ∧ slots + ms ≤ (kR K).slots) (hn : As.length = n) (hroom : (rest.map fun v => v.category).sum ≤ 8) (hst : st = As.reverse ++ .ref b :: rest) (k : ∀ (r : Int32) (u : S), post r u → gw_G K (B u) (cells + mc) (slots + ms) (pc + 3) lv (.int r :: rest)) : gw_G K ws cells slots pc lv st := gw_callVI (wr := []) C h q0 he hc hrn hG hw hd4 hd hR hcs (List.range ws.length) [] (gw_rng ws) rfl (gw_ndr _) rfl (fun _ h => absurd h List.not_mem_nil) hn hroom hst k
theorem gw_allVV (C : gw_x K cc own Ts tys zz) {S : Type} {y : MethodName} {wy wy' : List Cond} {bytes : ByteArray} {maxL fr lc mc ms n index b : Nat} {As rest : List Value} {post : S → Prop} {B : S → va_W} (h : gw_CV (kl K) y wy fr lc mc ms (kD K) tys zz ws (.ref b :: As) post B) {Cn : String} {ci : Nat} {fs : List Value} {r0 : vw_C} (q0 : Nat) (he : ws[q0]? = some (b, .inr (ci, fs))) (hc : vwCl[ci]? = some r0) (hrn : r0.1 = Cn) (hG : GoodIn Ts (wsV own index Cn y wy)) (hw : wy = Cond.code y bytes maxL (none) :: wy') (hd4 : y.cls = Cn ∧ y.cls ≠ "java/lang/invoke/MethodHandle" ∧ y.cls ≠ "java/lang/invoke/VarHandle" ∧ (parseMethodDescriptor y.desc).map (fun d => d.parameters.length) = some n) (hd : decode cc pc = .ok (.invokevirtual index, 3)) (hR : fr + 1 ≤ (kR K).frames ∧ 8 + (maxL + 11) + lc ≤ (kR K).locals) (hcs : cells + mc ≤ (kR K).cells ∧ slots + ms ≤ (kR K).slots) (hn : As.length = n) (hroom : (rest.map fun v => v.category).sum ≤ 8) (hst : st = As.reverse ++ .ref b :: rest) (k : ∀ (u : S), post u → gw_G K (B u) (cells + mc) (slots + ms) (pc + 3) lv rest) : gw_G K ws cells slots pc lv st := gw_callVV (wr := []) C h q0 he hc hrn hG hw hd4 hd hR hcs (List.range ws.length) [] (gw_rng ws) rfl (gw_ndr _) rfl (fun _ h => absurd h List.not_mem_nil) hn hroom hst k
theorem gw_allSI (C : gw_x K cc own Ts tys zz) {S : Type} {y : MethodName} {wy wy' : List Cond} {bytes : ByteArray} {maxL fr lc mc ms n index : Nat} {As rest : List Value} {post : Int32 → S → Prop} {B : S → va_W} {rt : FieldType} (h : gw_CI (kl K) y wy fr lc mc ms (kD K) tys zz ws As post B) (hG : GoodIn Ts (va_wsS own index y wy)) (hw : wy = Cond.code y bytes maxL (some rt) :: wy') (hd4 : y.cls ≠ "java/lang/invoke/MethodHandle" ∧ y.cls ≠ "java/lang/invoke/VarHandle" ∧ (parseMethodDescriptor y.desc).map (fun d => d.parameters.length) = some n) (hd : decode cc pc = .ok (.invokestatic index, 3)) (hR : fr + 1 ≤ (kR K).frames ∧ 8 + (maxL + 11) + lc ≤ (kR K).locals) (hcs : cells + mc ≤ (kR K).cells ∧ slots + ms ≤ (kR K).slots) (hn : As.length = n) (hroom : (rest.map fun v => v.category).sum ≤ 8) (hst : st = As.reverse ++ rest) (k : ∀ (r : Int32) (u : S), post r u → gw_G K (B u) (cells + mc) (slots + ms) (pc + 3) lv (.int r :: rest)) : gw_G K ws cells slots pc lv st := gw_callSI (wr := []) (b := 0) C h hG hw hd4 hd hR hcs (List.range ws.length) [] (gw_rng ws) rfl (gw_ndr _) rfl (fun _ h => absurd h List.not_mem_nil) hn hroom hst k
theorem gw_allSV (C : gw_x K cc own Ts tys zz) {S : Type} {y : MethodName} {wy wy' : List Cond} {bytes : ByteArray} {maxL fr lc mc ms n index : Nat} {As rest : List Value} {post : S → Prop} {B : S → va_W} (h : gw_CV (kl K) y wy fr lc mc ms (kD K) tys zz ws As post B) (hG : GoodIn Ts (va_wsS own index y wy)) (hw : wy = Cond.code y bytes maxL (none) :: wy') (hd4 : y.cls ≠ "java/lang/invoke/MethodHandle" ∧ y.cls ≠ "java/lang/invoke/VarHandle" ∧ (parseMethodDescriptor y.desc).map (fun d => d.parameters.length) = some n) (hd : decode cc pc = .ok (.invokestatic index, 3)) (hR : fr + 1 ≤ (kR K).frames ∧ 8 + (maxL + 11) + lc ≤ (kR K).locals) (hcs : cells + mc ≤ (kR K).cells ∧ slots + ms ≤ (kR K).slots) (hn : As.length = n) (hroom : (rest.map fun v => v.category).sum ≤ 8) (hst : st = As.reverse ++ rest) (k : ∀ (u : S), post u → gw_G K (B u) (cells + mc) (slots + ms) (pc + 3) lv rest) : gw_G K ws cells slots pc lv st := gw_callSV (wr := []) (b := 0) C h hG hw hd4 hd hR hcs (List.range ws.length) [] (gw_rng ws) rfl (gw_ndr _) rfl (fun _ h => absurd h List.not_mem_nil) hn hroom hst k
end GWS
end
section
/-! The reference's cells: its object at o, the array of its field k at ad k; N k j is what stands there (a number below 2^32), N k 0 for a field that is a number. -/
def mo_fs (ad : Nat → Nat) (N : Nat → Nat → Nat) : List Value := [.ref (ad 0), .ref (ad 1), .ref (ad 2), .ref (ad 3), .ref (ad 4), .ref (ad 5), .ref (ad 6), .ref (ad 7), .ref (ad 8), .ref (ad 9), .ref (ad 10), .ref (ad 11), .ref (ad 12), .ref (ad 13), iN (N 14 0), iN (N 15 0), iN (N 16 0), .ref (ad 17), .ref (ad 18), iN (N 19 0), .ref (ad 20), .ref (ad 21), .ref (ad 22), .ref (ad 23), .ref (ad 24), .ref (ad 25), .ref (ad 26), .ref (ad 27), .ref (ad 28), .ref (ad 29), .ref (ad 30), .ref (ad 31), .ref (ad 32), .ref (ad 33), .ref (ad 34), .ref (ad 35), .ref (ad 36), .ref (ad 37)]
def mo_ws (o : Nat) (ad : Nat → Nat) (cI cB cS : ClassId) (N : Nat → Nat → Nat) : va_W := [(o, .inr (9, mo_fs ad N)), (ad 0, .inl (cI, 8, .inl (fun j => nI (N 0 j)))), (ad 1, .inl (cI, 8, .inl (fun j => nI (N 1 j)))), (ad 2, .inl (cI, 12, .inl (fun j => nI (N 2 j)))), (ad 3, .inl (cI, 12, .inl (fun j => nI (N 3 j)))), (ad 4, .inl (cI, 8, .inl (fun j => nI (N 4 j)))), (ad 5, .inl (cI, 8, .inl (fun j => nI (N 5 j)))), (ad 6, .inl (cI, 12, .inl (fun j => nI (N 6 j)))), (ad 7, .inl (cI, 12, .inl (fun j => nI (N 7 j)))), (ad 8, .inl (cI, 12, .inl (fun j => nI (N 8 j)))), (ad 9, .inl (cI, 12, .inl (fun j => nI (N 9 j)))), (ad 10, .inl (cI, 144, .inl (fun j => nI (N 10 j)))), (ad 11, .inl (cI, 144, .inl (fun j => nI (N 11 j)))), (ad 12, .inl (cI, 216, .inl (fun j => nI (N 12 j)))), (ad 13, .inl (cI, 216, .inl (fun j => nI (N 13 j)))), (ad 17, .inl (cI, 100, .inl (fun j => nI (N 17 j)))), (ad 18, .inl (cI, 4, .inl (fun j => nI (N 18 j)))), (ad 20, .inl (cB, 4096, .inl (fun j => nI (N 20 j)))), (ad 21, .inl (cB, 1082565, .inl (fun j => nI (N 21 j)))), (ad 22, .inl (cB, 29400, .inl (fun j => nI (N 22 j)))), (ad 23, .inl (cB, 1327104, .inl (fun j => nI (N 23 j)))), (ad 24, .inl (cS, 4096, .inl (fun j => nI (N 24 j)))), (ad 25, .inl (cS, 495, .inl (fun j => nI (N 25 j)))), (ad 26, .inl (cS, 256, .inl (fun j => nI (N 26 j)))), (ad 27, .inl (cS, 70, .inl (fun j => nI (N 27 j)))), (ad 28, .inl (cS, 40320, .inl (fun j => nI (N 28 j)))), (ad 29, .inl (cI, 420, .inl (fun j => nI (N 29 j)))), (ad 30, .inl (cS, 40320, .inl (fun j => nI (N 30 j)))), (ad 31, .inl (cI, 96, .inl (fun j => nI (N 31 j)))), (ad 32, .inl (cI, 39366, .inl (fun j => nI (N 32 j)))), (ad 33, .inl (cI, 8910, .inl (fun j => nI (N 33 j)))), (ad 34, .inl (cI, 7560, .inl (fun j => nI (N 34 j)))), (ad 35, .inl (cI, 1296, .inl (fun j => nI (N 35 j)))), (ad 36, .inl (cI, 8, .inl (fun j => nI (N 36 j)))), (ad 37, .inl (cI, 8, .inl (fun j => nI (N 37 j))))]
def mo_up (N : Nat → Nat → Nat) (k i v : Nat) : Nat → Nat → Nat := fun k' j => if k' = k then (if j = i then v else N k j) else N k' j
def mo_ty (cI cB cS cJ cF cG : ClassId) : List (ClassId × FieldType) := [(cI, .int), (cB, .byte), (cS, .short), (cJ, .long), (cF, .object "StageCube$Feature"), (cG, .object "StageCube$Stage")]
theorem mo_up_e {N : Nat → Nat → Nat} {k i v : Nat} : (fun j => nI (mo_up N k i v k j)) = upd (fun j => nI (N k j)) i (nI v) := by
  funext j
  simp only [mo_up, if_pos, upd]
  split <;> rfl
theorem mo_st0 {o : Nat} {ad : Nat → Nat} {cI cB cS : ClassId} {N : Nat → Nat → Nat} {i v : Nat} : (mo_ws o ad cI cB cS N).set 1 (ad 0, .inl (cI, 8, .inl (upd (fun j => nI (N 0 j)) i (nI v)))) = mo_ws o ad cI cB cS (mo_up N 0 i v) := by
  rw [← mo_up_e]
  rfl
theorem mo_st1 {o : Nat} {ad : Nat → Nat} {cI cB cS : ClassId} {N : Nat → Nat → Nat} {i v : Nat} : (mo_ws o ad cI cB cS N).set 2 (ad 1, .inl (cI, 8, .inl (upd (fun j => nI (N 1 j)) i (nI v)))) = mo_ws o ad cI cB cS (mo_up N 1 i v) := by
  rw [← mo_up_e]
  rfl
theorem mo_st2 {o : Nat} {ad : Nat → Nat} {cI cB cS : ClassId} {N : Nat → Nat → Nat} {i v : Nat} : (mo_ws o ad cI cB cS N).set 3 (ad 2, .inl (cI, 12, .inl (upd (fun j => nI (N 2 j)) i (nI v)))) = mo_ws o ad cI cB cS (mo_up N 2 i v) := by
  rw [← mo_up_e]
  rfl
theorem mo_st3 {o : Nat} {ad : Nat → Nat} {cI cB cS : ClassId} {N : Nat → Nat → Nat} {i v : Nat} : (mo_ws o ad cI cB cS N).set 4 (ad 3, .inl (cI, 12, .inl (upd (fun j => nI (N 3 j)) i (nI v)))) = mo_ws o ad cI cB cS (mo_up N 3 i v) := by
  rw [← mo_up_e]
  rfl
theorem mo_st4 {o : Nat} {ad : Nat → Nat} {cI cB cS : ClassId} {N : Nat → Nat → Nat} {i v : Nat} : (mo_ws o ad cI cB cS N).set 5 (ad 4, .inl (cI, 8, .inl (upd (fun j => nI (N 4 j)) i (nI v)))) = mo_ws o ad cI cB cS (mo_up N 4 i v) := by
  rw [← mo_up_e]
  rfl
theorem mo_st5 {o : Nat} {ad : Nat → Nat} {cI cB cS : ClassId} {N : Nat → Nat → Nat} {i v : Nat} : (mo_ws o ad cI cB cS N).set 6 (ad 5, .inl (cI, 8, .inl (upd (fun j => nI (N 5 j)) i (nI v)))) = mo_ws o ad cI cB cS (mo_up N 5 i v) := by
  rw [← mo_up_e]
  rfl
theorem mo_st6 {o : Nat} {ad : Nat → Nat} {cI cB cS : ClassId} {N : Nat → Nat → Nat} {i v : Nat} : (mo_ws o ad cI cB cS N).set 7 (ad 6, .inl (cI, 12, .inl (upd (fun j => nI (N 6 j)) i (nI v)))) = mo_ws o ad cI cB cS (mo_up N 6 i v) := by
  rw [← mo_up_e]
  rfl
theorem mo_st7 {o : Nat} {ad : Nat → Nat} {cI cB cS : ClassId} {N : Nat → Nat → Nat} {i v : Nat} : (mo_ws o ad cI cB cS N).set 8 (ad 7, .inl (cI, 12, .inl (upd (fun j => nI (N 7 j)) i (nI v)))) = mo_ws o ad cI cB cS (mo_up N 7 i v) := by
  rw [← mo_up_e]
  rfl
theorem mo_st8 {o : Nat} {ad : Nat → Nat} {cI cB cS : ClassId} {N : Nat → Nat → Nat} {i v : Nat} : (mo_ws o ad cI cB cS N).set 9 (ad 8, .inl (cI, 12, .inl (upd (fun j => nI (N 8 j)) i (nI v)))) = mo_ws o ad cI cB cS (mo_up N 8 i v) := by
  rw [← mo_up_e]
  rfl
theorem mo_st9 {o : Nat} {ad : Nat → Nat} {cI cB cS : ClassId} {N : Nat → Nat → Nat} {i v : Nat} : (mo_ws o ad cI cB cS N).set 10 (ad 9, .inl (cI, 12, .inl (upd (fun j => nI (N 9 j)) i (nI v)))) = mo_ws o ad cI cB cS (mo_up N 9 i v) := by
  rw [← mo_up_e]
  rfl
theorem mo_st10 {o : Nat} {ad : Nat → Nat} {cI cB cS : ClassId} {N : Nat → Nat → Nat} {i v : Nat} : (mo_ws o ad cI cB cS N).set 11 (ad 10, .inl (cI, 144, .inl (upd (fun j => nI (N 10 j)) i (nI v)))) = mo_ws o ad cI cB cS (mo_up N 10 i v) := by
  rw [← mo_up_e]
  rfl
theorem mo_st11 {o : Nat} {ad : Nat → Nat} {cI cB cS : ClassId} {N : Nat → Nat → Nat} {i v : Nat} : (mo_ws o ad cI cB cS N).set 12 (ad 11, .inl (cI, 144, .inl (upd (fun j => nI (N 11 j)) i (nI v)))) = mo_ws o ad cI cB cS (mo_up N 11 i v) := by
  rw [← mo_up_e]
  rfl
theorem mo_st12 {o : Nat} {ad : Nat → Nat} {cI cB cS : ClassId} {N : Nat → Nat → Nat} {i v : Nat} : (mo_ws o ad cI cB cS N).set 13 (ad 12, .inl (cI, 216, .inl (upd (fun j => nI (N 12 j)) i (nI v)))) = mo_ws o ad cI cB cS (mo_up N 12 i v) := by
  rw [← mo_up_e]
  rfl
theorem mo_st13 {o : Nat} {ad : Nat → Nat} {cI cB cS : ClassId} {N : Nat → Nat → Nat} {i v : Nat} : (mo_ws o ad cI cB cS N).set 14 (ad 13, .inl (cI, 216, .inl (upd (fun j => nI (N 13 j)) i (nI v)))) = mo_ws o ad cI cB cS (mo_up N 13 i v) := by
  rw [← mo_up_e]
  rfl
theorem mo_st14 {o : Nat} {ad : Nat → Nat} {cI cB cS : ClassId} {N : Nat → Nat → Nat} {v : Nat} : (mo_ws o ad cI cB cS N).set 0 (o, .inr (9, (mo_fs ad N).set 14 (iN v))) = mo_ws o ad cI cB cS (mo_up N 14 0 v) := rfl
theorem mo_st15 {o : Nat} {ad : Nat → Nat} {cI cB cS : ClassId} {N : Nat → Nat → Nat} {v : Nat} : (mo_ws o ad cI cB cS N).set 0 (o, .inr (9, (mo_fs ad N).set 15 (iN v))) = mo_ws o ad cI cB cS (mo_up N 15 0 v) := rfl
theorem mo_st16 {o : Nat} {ad : Nat → Nat} {cI cB cS : ClassId} {N : Nat → Nat → Nat} {v : Nat} : (mo_ws o ad cI cB cS N).set 0 (o, .inr (9, (mo_fs ad N).set 16 (iN v))) = mo_ws o ad cI cB cS (mo_up N 16 0 v) := rfl
theorem mo_st17 {o : Nat} {ad : Nat → Nat} {cI cB cS : ClassId} {N : Nat → Nat → Nat} {i v : Nat} : (mo_ws o ad cI cB cS N).set 15 (ad 17, .inl (cI, 100, .inl (upd (fun j => nI (N 17 j)) i (nI v)))) = mo_ws o ad cI cB cS (mo_up N 17 i v) := by
  rw [← mo_up_e]
  rfl
theorem mo_st18 {o : Nat} {ad : Nat → Nat} {cI cB cS : ClassId} {N : Nat → Nat → Nat} {i v : Nat} : (mo_ws o ad cI cB cS N).set 16 (ad 18, .inl (cI, 4, .inl (upd (fun j => nI (N 18 j)) i (nI v)))) = mo_ws o ad cI cB cS (mo_up N 18 i v) := by
  rw [← mo_up_e]
  rfl
theorem mo_st19 {o : Nat} {ad : Nat → Nat} {cI cB cS : ClassId} {N : Nat → Nat → Nat} {v : Nat} : (mo_ws o ad cI cB cS N).set 0 (o, .inr (9, (mo_fs ad N).set 19 (iN v))) = mo_ws o ad cI cB cS (mo_up N 19 0 v) := rfl
theorem mo_st20 {o : Nat} {ad : Nat → Nat} {cI cB cS : ClassId} {N : Nat → Nat → Nat} {i v : Nat} : (mo_ws o ad cI cB cS N).set 17 (ad 20, .inl (cB, 4096, .inl (upd (fun j => nI (N 20 j)) i (nI v)))) = mo_ws o ad cI cB cS (mo_up N 20 i v) := by
  rw [← mo_up_e]
  rfl
theorem mo_st21 {o : Nat} {ad : Nat → Nat} {cI cB cS : ClassId} {N : Nat → Nat → Nat} {i v : Nat} : (mo_ws o ad cI cB cS N).set 18 (ad 21, .inl (cB, 1082565, .inl (upd (fun j => nI (N 21 j)) i (nI v)))) = mo_ws o ad cI cB cS (mo_up N 21 i v) := by
  rw [← mo_up_e]
  rfl
theorem mo_st22 {o : Nat} {ad : Nat → Nat} {cI cB cS : ClassId} {N : Nat → Nat → Nat} {i v : Nat} : (mo_ws o ad cI cB cS N).set 19 (ad 22, .inl (cB, 29400, .inl (upd (fun j => nI (N 22 j)) i (nI v)))) = mo_ws o ad cI cB cS (mo_up N 22 i v) := by
  rw [← mo_up_e]
  rfl
theorem mo_st23 {o : Nat} {ad : Nat → Nat} {cI cB cS : ClassId} {N : Nat → Nat → Nat} {i v : Nat} : (mo_ws o ad cI cB cS N).set 20 (ad 23, .inl (cB, 1327104, .inl (upd (fun j => nI (N 23 j)) i (nI v)))) = mo_ws o ad cI cB cS (mo_up N 23 i v) := by
  rw [← mo_up_e]
  rfl
theorem mo_st24 {o : Nat} {ad : Nat → Nat} {cI cB cS : ClassId} {N : Nat → Nat → Nat} {i v : Nat} : (mo_ws o ad cI cB cS N).set 21 (ad 24, .inl (cS, 4096, .inl (upd (fun j => nI (N 24 j)) i (nI v)))) = mo_ws o ad cI cB cS (mo_up N 24 i v) := by
  rw [← mo_up_e]
  rfl
theorem mo_st25 {o : Nat} {ad : Nat → Nat} {cI cB cS : ClassId} {N : Nat → Nat → Nat} {i v : Nat} : (mo_ws o ad cI cB cS N).set 22 (ad 25, .inl (cS, 495, .inl (upd (fun j => nI (N 25 j)) i (nI v)))) = mo_ws o ad cI cB cS (mo_up N 25 i v) := by
  rw [← mo_up_e]
  rfl
theorem mo_st26 {o : Nat} {ad : Nat → Nat} {cI cB cS : ClassId} {N : Nat → Nat → Nat} {i v : Nat} : (mo_ws o ad cI cB cS N).set 23 (ad 26, .inl (cS, 256, .inl (upd (fun j => nI (N 26 j)) i (nI v)))) = mo_ws o ad cI cB cS (mo_up N 26 i v) := by
  rw [← mo_up_e]
  rfl
theorem mo_st27 {o : Nat} {ad : Nat → Nat} {cI cB cS : ClassId} {N : Nat → Nat → Nat} {i v : Nat} : (mo_ws o ad cI cB cS N).set 24 (ad 27, .inl (cS, 70, .inl (upd (fun j => nI (N 27 j)) i (nI v)))) = mo_ws o ad cI cB cS (mo_up N 27 i v) := by
  rw [← mo_up_e]
  rfl
theorem mo_st28 {o : Nat} {ad : Nat → Nat} {cI cB cS : ClassId} {N : Nat → Nat → Nat} {i v : Nat} : (mo_ws o ad cI cB cS N).set 25 (ad 28, .inl (cS, 40320, .inl (upd (fun j => nI (N 28 j)) i (nI v)))) = mo_ws o ad cI cB cS (mo_up N 28 i v) := by
  rw [← mo_up_e]
  rfl
theorem mo_st29 {o : Nat} {ad : Nat → Nat} {cI cB cS : ClassId} {N : Nat → Nat → Nat} {i v : Nat} : (mo_ws o ad cI cB cS N).set 26 (ad 29, .inl (cI, 420, .inl (upd (fun j => nI (N 29 j)) i (nI v)))) = mo_ws o ad cI cB cS (mo_up N 29 i v) := by
  rw [← mo_up_e]
  rfl
theorem mo_st30 {o : Nat} {ad : Nat → Nat} {cI cB cS : ClassId} {N : Nat → Nat → Nat} {i v : Nat} : (mo_ws o ad cI cB cS N).set 27 (ad 30, .inl (cS, 40320, .inl (upd (fun j => nI (N 30 j)) i (nI v)))) = mo_ws o ad cI cB cS (mo_up N 30 i v) := by
  rw [← mo_up_e]
  rfl
theorem mo_st31 {o : Nat} {ad : Nat → Nat} {cI cB cS : ClassId} {N : Nat → Nat → Nat} {i v : Nat} : (mo_ws o ad cI cB cS N).set 28 (ad 31, .inl (cI, 96, .inl (upd (fun j => nI (N 31 j)) i (nI v)))) = mo_ws o ad cI cB cS (mo_up N 31 i v) := by
  rw [← mo_up_e]
  rfl
theorem mo_st32 {o : Nat} {ad : Nat → Nat} {cI cB cS : ClassId} {N : Nat → Nat → Nat} {i v : Nat} : (mo_ws o ad cI cB cS N).set 29 (ad 32, .inl (cI, 39366, .inl (upd (fun j => nI (N 32 j)) i (nI v)))) = mo_ws o ad cI cB cS (mo_up N 32 i v) := by
  rw [← mo_up_e]
  rfl
theorem mo_st33 {o : Nat} {ad : Nat → Nat} {cI cB cS : ClassId} {N : Nat → Nat → Nat} {i v : Nat} : (mo_ws o ad cI cB cS N).set 30 (ad 33, .inl (cI, 8910, .inl (upd (fun j => nI (N 33 j)) i (nI v)))) = mo_ws o ad cI cB cS (mo_up N 33 i v) := by
  rw [← mo_up_e]
  rfl
theorem mo_st34 {o : Nat} {ad : Nat → Nat} {cI cB cS : ClassId} {N : Nat → Nat → Nat} {i v : Nat} : (mo_ws o ad cI cB cS N).set 31 (ad 34, .inl (cI, 7560, .inl (upd (fun j => nI (N 34 j)) i (nI v)))) = mo_ws o ad cI cB cS (mo_up N 34 i v) := by
  rw [← mo_up_e]
  rfl
theorem mo_st35 {o : Nat} {ad : Nat → Nat} {cI cB cS : ClassId} {N : Nat → Nat → Nat} {i v : Nat} : (mo_ws o ad cI cB cS N).set 32 (ad 35, .inl (cI, 1296, .inl (upd (fun j => nI (N 35 j)) i (nI v)))) = mo_ws o ad cI cB cS (mo_up N 35 i v) := by
  rw [← mo_up_e]
  rfl
theorem mo_st36 {o : Nat} {ad : Nat → Nat} {cI cB cS : ClassId} {N : Nat → Nat → Nat} {i v : Nat} : (mo_ws o ad cI cB cS N).set 33 (ad 36, .inl (cI, 8, .inl (upd (fun j => nI (N 36 j)) i (nI v)))) = mo_ws o ad cI cB cS (mo_up N 36 i v) := by
  rw [← mo_up_e]
  rfl
theorem mo_st37 {o : Nat} {ad : Nat → Nat} {cI cB cS : ClassId} {N : Nat → Nat → Nat} {i v : Nat} : (mo_ws o ad cI cB cS N).set 34 (ad 37, .inl (cI, 8, .inl (upd (fun j => nI (N 37 j)) i (nI v)))) = mo_ws o ad cI cB cS (mo_up N 37 i v) := by
  rw [← mo_up_e]
  rfl
end
section
def mo_bhS (p : Nat) (N : Nat → Nat → Nat) : Nat → Nat → Nat := if p < 8 then mo_up (mo_up (mo_up (mo_up N 2 p p) 3 p 0) 0 p p) 1 p 0 else mo_up (mo_up N 2 p p) 3 p 0
def mo_bh : Nat → (Nat → Nat → Nat) → Nat → Nat → Nat
  | 0, N => N
  | p + 1, N => mo_bhS p (mo_bh p N)
theorem in_X11_bringHome : ∀ w ∈ wsX110, w ∈ wsX11_bringHome := fun _ h => List.mem_cons_of_mem _ (List.mem_append_right _ h)
theorem lk_X11_bringHome_7 : Cond.fieldLink RX11 7 "StageCubeModel" "corners" "[I" ∈ wsX11_bringHome := by decide +kernel
theorem lk_X11_bringHome_13 : Cond.fieldLink RX11 13 "StageCubeModel" "twists" "[I" ∈ wsX11_bringHome := by decide +kernel
theorem lk_X11_bringHome_16 : Cond.fieldLink RX11 16 "StageCubeModel" "edges" "[I" ∈ wsX11_bringHome := by decide +kernel
theorem lk_X11_bringHome_19 : Cond.fieldLink RX11 19 "StageCubeModel" "flips" "[I" ∈ wsX11_bringHome := by decide +kernel
set_option maxHeartbeats 4000000 in
set_option maxRecDepth 100000 in
theorem c_bringHome (l : Launch) (D : va_G) (cI cB cS cJ cF cG : ClassId) (zz : (Nat → Prop) → State → Heap → Prop) (hz : gw_zT zz) (o : Nat) (ad : Nat → Nat) (N : Nat → Nat → Nat) : gw_CV l yX11_bringHome wsX11_bringHome 0 0 0 0 D (mo_ty cI cB cS cJ cF cG) zz (mo_ws o ad cI cB cS N) [.ref o] (fun N' => N' = mo_bh 12 N) (fun N' => mo_ws o ad cI cB cS N') := by
  refine gw_CV.of (cc := cX11_bringHome) (maxL := 2) hz (by decide) rfl (Nat.le_of_ble_eq_true rfl) ?_
  intro K C hkl hkn hkR hkD hmn ret
  have C : gw_x K cX11_bringHome RX11 wsX11_bringHome (mo_ty cI cB cS cJ cF cG) zz := C
  have lp : ∀ n i : Nat, i + n = 12 → gw_G K (mo_ws o ad cI cB cS (mo_bh i N)) 0 0 2 [(1, iN i), (0, .ref o)] [] := by
    intro n
    induction n with
    | zero =>
      intro i hi
      refine gw_iload_n C 0 dX11_bringHome_2 rfl rfl ?_
      refine gw_bipush C 12 dX11_bringHome_3 (by decide) ?_
      refine gw_icmp_ge C 48 dX11_bringHome_5 (by decide) (by omega) (by omega) (fun h1 => ?_) (fun h1 => ?_)
      ·
        exact ret (mo_bh 12 N) dX11_bringHome_48 rfl (by rw [show i = 12 by omega]) (Nat.le_refl 0) (Nat.le_refl 0)
      ·
        exact absurd h1 (by omega)
    | succ n ih =>
      intro i hi
      refine gw_iload_n C 0 dX11_bringHome_2 rfl rfl ?_
      refine gw_bipush C 12 dX11_bringHome_3 (by decide) ?_
      refine gw_icmp_ge C 48 dX11_bringHome_5 (by decide) (by omega) (by omega) (fun h2 => ?_) (fun h2 => ?_)
      ·
        exact absurd h2 (by omega)
      ·
        refine gw_aload_n C 1 dX11_bringHome_8 rfl rfl ?_
        refine gw_get C 0 2 in_X11_bringHome dX11_bringHome_9 lk_X11_bringHome_16 rfl rfl (by decide) rfl rfl ?_
        refine gw_iload_n C 0 dX11_bringHome_12 rfl rfl ?_
        refine gw_iload_n C 0 dX11_bringHome_13 rfl rfl ?_
        refine gw_ist C 3 0 dX11_bringHome_14 rfl rfl (by decide) (by omega) mo_st2 ?_
        refine gw_aload_n C 1 dX11_bringHome_15 rfl rfl ?_
        refine gw_get C 0 3 in_X11_bringHome dX11_bringHome_16 lk_X11_bringHome_19 rfl rfl (by decide) rfl rfl ?_
        refine gw_iload_n C 0 dX11_bringHome_19 rfl rfl ?_
        refine gw_iconst C 0 dX11_bringHome_20 (by decide) ?_
        refine gw_ist C 4 0 dX11_bringHome_21 rfl rfl (by decide) (by omega) mo_st3 ?_
        refine gw_iload_n C 0 dX11_bringHome_22 rfl rfl ?_
        refine gw_bipush C 8 dX11_bringHome_23 (by decide) ?_
        refine gw_icmp_ge C 42 dX11_bringHome_25 (by decide) (by omega) (by omega) (fun h3 => ?_) (fun h3 => ?_)
        ·
          refine gw_iinc C (v := nI (i + 1)) (lv2 := [(1, iN (i + 1)), (0, .ref (o))]) 0 dX11_bringHome_42 rfl (nI_add _ _) (by omega) rfl ?_
          refine gw_goto C 2 dX11_bringHome_45 (by decide) ?_
          refine gw_lv (lv2 := [(1, iN (i + 1)), (0, .ref (o))]) [0, 1] rfl ?_
          exact gw_ws (by rw [mo_bh, mo_bhS, if_neg (by omega)]) (ih (i + 1) (by omega))
        ·
          refine gw_aload_n C 1 dX11_bringHome_28 rfl rfl ?_
          refine gw_get C 0 0 in_X11_bringHome dX11_bringHome_29 lk_X11_bringHome_7 rfl rfl (by decide) rfl rfl ?_
          refine gw_iload_n C 0 dX11_bringHome_32 rfl rfl ?_
          refine gw_iload_n C 0 dX11_bringHome_33 rfl rfl ?_
          refine gw_ist C 1 0 dX11_bringHome_34 rfl rfl (by decide) (by omega) mo_st0 ?_
          refine gw_aload_n C 1 dX11_bringHome_35 rfl rfl ?_
          refine gw_get C 0 1 in_X11_bringHome dX11_bringHome_36 lk_X11_bringHome_13 rfl rfl (by decide) rfl rfl ?_
          refine gw_iload_n C 0 dX11_bringHome_39 rfl rfl ?_
          refine gw_iconst C 0 dX11_bringHome_40 (by decide) ?_
          refine gw_ist C 2 0 dX11_bringHome_41 rfl rfl (by decide) (by omega) mo_st1 ?_
          refine gw_iinc C (v := nI (i + 1)) (lv2 := [(1, iN (i + 1)), (0, .ref (o))]) 0 dX11_bringHome_42 rfl (nI_add _ _) (by omega) rfl ?_
          refine gw_goto C 2 dX11_bringHome_45 (by decide) ?_
          refine gw_lv (lv2 := [(1, iN (i + 1)), (0, .ref (o))]) [0, 1] rfl ?_
          exact gw_ws (by rw [mo_bh, mo_bhS, if_pos (by omega)]) (ih (i + 1) (by omega))
  refine gw_iconst C 0 dX11_bringHome_0 (by decide) ?_
  refine gw_istore_n C (lv2 := [(1, iN (0)), (0, .ref (o))]) dX11_bringHome_1 rfl (by omega) rfl ?_
  exact lp 12 0 rfl
end
section
def mo_lkS (p : Nat) (N : Nat → Nat → Nat) : Nat → Nat → Nat := if p < 8 then mo_up (mo_up (mo_up (mo_up N 6 p (N 2 p)) 7 p (N 3 p)) 4 p (N 0 p)) 5 p (N 1 p) else mo_up (mo_up N 6 p (N 2 p)) 7 p (N 3 p)
def mo_lk : Nat → (Nat → Nat → Nat) → Nat → Nat → Nat
  | 0, N => N
  | p + 1, N => mo_lkS p (mo_lk p N)
def mo_t1 : Nat → (Nat → Nat → Nat) → Nat → Nat → Nat
  | 0, N => N
  | p + 1, N => mo_up (mo_up (mo_t1 p N) 8 p (mo_t1 p N 4 p)) 9 p (mo_t1 p N 5 p)
def mo_t2 (t : Nat) : Nat → (Nat → Nat → Nat) → Nat → Nat → Nat
  | 0, N => N
  | p + 1, N => mo_up (mo_up (mo_t2 t p N) 4 p (mo_t2 t p N 8 (mo_t2 t p N 10 (8 * t + p)))) 5 p ((mo_t2 t p N 9 (mo_t2 t p N 10 (8 * t + p)) + mo_t2 t p N 11 (8 * t + p)) % 3)
def mo_t3 : Nat → (Nat → Nat → Nat) → Nat → Nat → Nat
  | 0, N => N
  | p + 1, N => mo_up (mo_up (mo_t3 p N) 8 p (mo_t3 p N 6 p)) 9 p (mo_t3 p N 7 p)
def mo_t4 (t : Nat) : Nat → (Nat → Nat → Nat) → Nat → Nat → Nat
  | 0, N => N
  | p + 1, N => mo_up (mo_up (mo_t4 t p N) 6 p (mo_t4 t p N 8 (mo_t4 t p N 12 (12 * t + p)))) 7 p (mo_t4 t p N 9 (mo_t4 t p N 12 (12 * t + p)) ^^^ mo_t4 t p N 13 (12 * t + p))
def mo_turn (t : Nat) (N : Nat → Nat → Nat) : Nat → Nat → Nat := mo_t4 t 12 (mo_t3 12 (mo_t2 t 8 (mo_t1 8 N)))
/-- an iteration that never writes the array k -/
theorem mo_lk_k {k : Nat} (h4 : k ≠ 4) (h5 : k ≠ 5) (h6 : k ≠ 6) (h7 : k ≠ 7) (N : Nat → Nat → Nat) : ∀ p, mo_lk p N k = N k := by
  intro p
  induction p with
  | zero => rfl
  | succ p ih => funext j; rw [mo_lk, mo_lkS]; split <;> simp [mo_up, h4, h5, h6, h7, ih]
theorem mo_t1_k {k : Nat} (h8 : k ≠ 8) (h9 : k ≠ 9) (N : Nat → Nat → Nat) : ∀ p, mo_t1 p N k = N k := by
  intro p
  induction p with
  | zero => rfl
  | succ p ih => funext j; simp [mo_t1, mo_up, h8, h9, ih]
theorem mo_t2_k {k t : Nat} (h8 : k ≠ 4) (h9 : k ≠ 5) (N : Nat → Nat → Nat) : ∀ p, mo_t2 t p N k = N k := by
  intro p
  induction p with
  | zero => rfl
  | succ p ih => funext j; simp [mo_t2, mo_up, h8, h9, ih]
theorem mo_t3_k {k : Nat} (h8 : k ≠ 8) (h9 : k ≠ 9) (N : Nat → Nat → Nat) : ∀ p, mo_t3 p N k = N k := by
  intro p
  induction p with
  | zero => rfl
  | succ p ih => funext j; simp [mo_t3, mo_up, h8, h9, ih]
theorem mo_t4_k {k t : Nat} (h8 : k ≠ 6) (h9 : k ≠ 7) (N : Nat → Nat → Nat) : ∀ p, mo_t4 t p N k = N k := by
  intro p
  induction p with
  | zero => rfl
  | succ p ih => funext j; simp [mo_t4, mo_up, h8, h9, ih]
theorem mo_t1_9 (N : Nat → Nat → Nat) : ∀ p j, j < p → mo_t1 p N 9 j = N 5 j := by
  intro p
  induction p with
  | zero => intro j h; omega
  | succ p ih =>
    intro j h
    rw [mo_t1]
    by_cases e : j = p
    · subst e; simp [mo_up, mo_t1_k (k := 5) (by decide) (by decide)]
    · simp [mo_up, e, ih j (by omega)]
theorem in_X11_look : ∀ w ∈ wsX110, w ∈ wsX11_look := fun _ h => List.mem_cons_of_mem _ (List.mem_append_right _ h)
theorem lk_X11_look_7 : Cond.fieldLink RX11 7 "StageCubeModel" "corners" "[I" ∈ wsX11_look := by decide +kernel
theorem lk_X11_look_13 : Cond.fieldLink RX11 13 "StageCubeModel" "twists" "[I" ∈ wsX11_look := by decide +kernel
theorem lk_X11_look_16 : Cond.fieldLink RX11 16 "StageCubeModel" "edges" "[I" ∈ wsX11_look := by decide +kernel
theorem lk_X11_look_19 : Cond.fieldLink RX11 19 "StageCubeModel" "flips" "[I" ∈ wsX11_look := by decide +kernel
theorem lk_X11_look_22 : Cond.fieldLink RX11 22 "StageCubeModel" "c" "[I" ∈ wsX11_look := by decide +kernel
theorem lk_X11_look_25 : Cond.fieldLink RX11 25 "StageCubeModel" "tw" "[I" ∈ wsX11_look := by decide +kernel
theorem lk_X11_look_28 : Cond.fieldLink RX11 28 "StageCubeModel" "e" "[I" ∈ wsX11_look := by decide +kernel
theorem lk_X11_look_31 : Cond.fieldLink RX11 31 "StageCubeModel" "fl" "[I" ∈ wsX11_look := by decide +kernel
set_option maxHeartbeats 4000000 in
set_option maxRecDepth 100000 in
theorem c_look (l : Launch) (D : va_G) (cI cB cS cJ cF cG : ClassId) (zz : (Nat → Prop) → State → Heap → Prop) (hz : gw_zT zz) (o : Nat) (ad : Nat → Nat) (N : Nat → Nat → Nat) : gw_CV l yX11_look wsX11_look 0 0 0 0 D (mo_ty cI cB cS cJ cF cG) zz (mo_ws o ad cI cB cS N) [.ref o] (fun N' => N' = mo_lk 12 N) (fun N' => mo_ws o ad cI cB cS N') := by
  refine gw_CV.of (cc := cX11_look) (maxL := 2) hz (by decide) rfl (Nat.le_of_ble_eq_true rfl) ?_
  intro K C hkl hkn hkR hkD hmn ret
  have C : gw_x K cX11_look RX11 wsX11_look (mo_ty cI cB cS cJ cF cG) zz := C
  refine gw_iconst C 0 dX11_look_0 (by decide) ?_
  refine gw_istore_n C (lv2 := [(1, iN (0)), (0, .ref (o))]) dX11_look_1 rfl (by omega) rfl ?_
  have lp : ∀ ni i : Nat, i + ni = 12 → gw_G K (mo_ws o ad cI cB cS (mo_lk i N)) 0 0 2 [(1, iN (i)), (0, .ref (o))] [] := by
    intro ni
    induction ni with
    | zero =>
      intro i hii
      refine gw_iload_n C 0 dX11_look_2 rfl rfl ?_
      refine gw_bipush C 12 dX11_look_3 (by decide) ?_
      refine gw_icmp_ge C 68 dX11_look_5 (by decide) (by omega) (by omega) (fun h1 => ?_) (fun h1 => ?_)
      ·
        exact ret (mo_lk 12 N) dX11_look_68 rfl (by rw [show i = 12 by omega]) (Nat.le_refl 0) (Nat.le_refl 0)
      ·
        exact absurd h1 (by omega)
    | succ ni ihi =>
      intro i hii
      refine gw_iload_n C 0 dX11_look_2 rfl rfl ?_
      refine gw_bipush C 12 dX11_look_3 (by decide) ?_
      refine gw_icmp_ge C 68 dX11_look_5 (by decide) (by omega) (by omega) (fun h2 => ?_) (fun h2 => ?_)
      ·
        exact absurd h2 (by omega)
      ·
        refine gw_aload_n C 1 dX11_look_8 rfl rfl ?_
        refine gw_get C 0 6 in_X11_look dX11_look_9 lk_X11_look_28 rfl rfl (by decide) rfl rfl ?_
        refine gw_iload_n C 0 dX11_look_12 rfl rfl ?_
        refine gw_aload_n C 1 dX11_look_13 rfl rfl ?_
        refine gw_get C 0 2 in_X11_look dX11_look_14 lk_X11_look_16 rfl rfl (by decide) rfl rfl ?_
        refine gw_iload_n C 0 dX11_look_17 rfl rfl ?_
        refine gw_ild C (v := nI ((mo_lk i N) 2 (i))) 3 0 dX11_look_18 rfl rfl (by decide) (by omega) (by first | rfl | simp [mo_up]) ?_
        refine gw_ist C 7 0 dX11_look_19 rfl rfl (by decide) (by omega) mo_st6 ?_
        refine gw_aload_n C 1 dX11_look_20 rfl rfl ?_
        refine gw_get C 0 7 in_X11_look dX11_look_21 lk_X11_look_31 rfl rfl (by decide) rfl rfl ?_
        refine gw_iload_n C 0 dX11_look_24 rfl rfl ?_
        refine gw_aload_n C 1 dX11_look_25 rfl rfl ?_
        refine gw_get C 0 3 in_X11_look dX11_look_26 lk_X11_look_19 rfl rfl (by decide) rfl rfl ?_
        refine gw_iload_n C 0 dX11_look_29 rfl rfl ?_
        refine gw_ild C (v := nI ((mo_lk i N) 3 (i))) 4 0 dX11_look_30 rfl rfl (by decide) (by omega) (by first | rfl | simp [mo_up]) ?_
        refine gw_ist C 8 0 dX11_look_31 rfl rfl (by decide) (by omega) mo_st7 ?_
        refine gw_iload_n C 0 dX11_look_32 rfl rfl ?_
        refine gw_bipush C 8 dX11_look_33 (by decide) ?_
        refine gw_icmp_ge C 62 dX11_look_35 (by decide) (by omega) (by omega) (fun h3 => ?_) (fun h3 => ?_)
        ·
          refine gw_iinc C (v := nI (i + 1)) (lv2 := [(1, iN (i + 1)), (0, .ref (o))]) 0 dX11_look_62 rfl (nI_add _ _) (by omega) rfl ?_
          refine gw_goto C 2 dX11_look_65 (by decide) ?_
          refine gw_lv (lv2 := [(1, iN (i + 1)), (0, .ref (o))]) [0, 1] rfl ?_
          exact gw_ws (congrArg (mo_ws o ad cI cB cS) (by rw [mo_lk, mo_lkS, if_neg (by omega)])) (ihi (i + 1) (by omega))
        ·
          refine gw_aload_n C 1 dX11_look_38 rfl rfl ?_
          refine gw_get C 0 4 in_X11_look dX11_look_39 lk_X11_look_22 rfl rfl (by decide) rfl rfl ?_
          refine gw_iload_n C 0 dX11_look_42 rfl rfl ?_
          refine gw_aload_n C 1 dX11_look_43 rfl rfl ?_
          refine gw_get C 0 0 in_X11_look dX11_look_44 lk_X11_look_7 rfl rfl (by decide) rfl rfl ?_
          refine gw_iload_n C 0 dX11_look_47 rfl rfl ?_
          refine gw_ild C (v := nI ((mo_lk i N) 0 (i))) 1 0 dX11_look_48 rfl rfl (by decide) (by omega) (by first | rfl | simp [mo_up]) ?_
          refine gw_ist C 5 0 dX11_look_49 rfl rfl (by decide) (by omega) mo_st4 ?_
          refine gw_aload_n C 1 dX11_look_50 rfl rfl ?_
          refine gw_get C 0 5 in_X11_look dX11_look_51 lk_X11_look_25 rfl rfl (by decide) rfl rfl ?_
          refine gw_iload_n C 0 dX11_look_54 rfl rfl ?_
          refine gw_aload_n C 1 dX11_look_55 rfl rfl ?_
          refine gw_get C 0 1 in_X11_look dX11_look_56 lk_X11_look_13 rfl rfl (by decide) rfl rfl ?_
          refine gw_iload_n C 0 dX11_look_59 rfl rfl ?_
          refine gw_ild C (v := nI ((mo_lk i N) 1 (i))) 2 0 dX11_look_60 rfl rfl (by decide) (by omega) (by first | rfl | simp [mo_up]) ?_
          refine gw_ist C 6 0 dX11_look_61 rfl rfl (by decide) (by omega) mo_st5 ?_
          refine gw_iinc C (v := nI (i + 1)) (lv2 := [(1, iN (i + 1)), (0, .ref (o))]) 0 dX11_look_62 rfl (nI_add _ _) (by omega) rfl ?_
          refine gw_goto C 2 dX11_look_65 (by decide) ?_
          refine gw_lv (lv2 := [(1, iN (i + 1)), (0, .ref (o))]) [0, 1] rfl ?_
          exact gw_ws (congrArg (mo_ws o ad cI cB cS) (by rw [mo_lk, mo_lkS, if_pos (by omega)])) (ihi (i + 1) (by omega))
  refine gw_lv (lv2 := [(1, iN (0)), (0, .ref (o))]) [0, 1] rfl ?_
  exact lp (12 - 0) 0 (by omega)
theorem in_X11_turnIt : ∀ w ∈ wsX110, w ∈ wsX11_turnIt := fun _ h => List.mem_cons_of_mem _ (List.mem_append_right _ h)
theorem lk_X11_turnIt_22 : Cond.fieldLink RX11 22 "StageCubeModel" "c" "[I" ∈ wsX11_turnIt := by decide +kernel
theorem lk_X11_turnIt_25 : Cond.fieldLink RX11 25 "StageCubeModel" "tw" "[I" ∈ wsX11_turnIt := by decide +kernel
theorem lk_X11_turnIt_28 : Cond.fieldLink RX11 28 "StageCubeModel" "e" "[I" ∈ wsX11_turnIt := by decide +kernel
theorem lk_X11_turnIt_31 : Cond.fieldLink RX11 31 "StageCubeModel" "fl" "[I" ∈ wsX11_turnIt := by decide +kernel
theorem lk_X11_turnIt_34 : Cond.fieldLink RX11 34 "StageCubeModel" "old" "[I" ∈ wsX11_turnIt := by decide +kernel
theorem lk_X11_turnIt_37 : Cond.fieldLink RX11 37 "StageCubeModel" "oldMore" "[I" ∈ wsX11_turnIt := by decide +kernel
theorem lk_X11_turnIt_40 : Cond.fieldLink RX11 40 "StageCubeModel" "cornerFrom" "[I" ∈ wsX11_turnIt := by decide +kernel
theorem lk_X11_turnIt_43 : Cond.fieldLink RX11 43 "StageCubeModel" "cornerMore" "[I" ∈ wsX11_turnIt := by decide +kernel
theorem lk_X11_turnIt_46 : Cond.fieldLink RX11 46 "StageCubeModel" "edgeFrom" "[I" ∈ wsX11_turnIt := by decide +kernel
theorem lk_X11_turnIt_49 : Cond.fieldLink RX11 49 "StageCubeModel" "edgeMore" "[I" ∈ wsX11_turnIt := by decide +kernel
set_option maxHeartbeats 4000000 in
set_option maxRecDepth 100000 in
theorem c_turnIt (l : Launch) (D : va_G) (cI cB cS cJ cF cG : ClassId) (zz : (Nat → Prop) → State → Heap → Prop) (hz : gw_zT zz) (o : Nat) (ad : Nat → Nat) (N : Nat → Nat → Nat) (turn : Nat) (ht : turn < 18) (h9 : ∀ j, j < 8 → N 5 j < 3) (hf : ∀ j, j < 144 → N 10 j < 8) (hm : ∀ j, j < 144 → N 11 j < 3) (hg : ∀ j, j < 216 → N 12 j < 12) : gw_CV l yX11_turnIt wsX11_turnIt 0 0 0 0 D (mo_ty cI cB cS cJ cF cG) zz (mo_ws o ad cI cB cS N) [.ref o, iN turn] (fun N' => N' = mo_turn turn N) (fun N' => mo_ws o ad cI cB cS N') := by
  refine gw_CV.of (cc := cX11_turnIt) (maxL := 4) hz (by decide) rfl (Nat.le_of_ble_eq_true rfl) ?_
  intro K C hkl hkn hkR hkD hmn ret
  have C : gw_x K cX11_turnIt RX11 wsX11_turnIt (mo_ty cI cB cS cJ cF cG) zz := C
  refine gw_iconst C 0 dX11_turnIt_0 (by decide) ?_
  refine gw_istore_n C (lv2 := [(2, iN (0)), (0, .ref (o)), (1, iN (turn))]) dX11_turnIt_1 rfl (by omega) rfl ?_
  have lp : ∀ ni i : Nat, i + ni = 8 → gw_G K (mo_ws o ad cI cB cS (mo_t1 i N)) 0 0 2 [(2, iN (i)), (0, .ref (o)), (1, iN (turn))] [] := by
    intro ni
    induction ni with
    | zero =>
      intro i hii
      refine gw_iload_n C 0 dX11_turnIt_2 rfl rfl ?_
      refine gw_bipush C 8 dX11_turnIt_3 (by decide) ?_
      refine gw_icmp_ge C 38 dX11_turnIt_5 (by decide) (by omega) (by omega) (fun h4 => ?_) (fun h4 => ?_)
      ·
        refine gw_iconst C 0 dX11_turnIt_38 (by decide) ?_
        refine gw_istore_n C (lv2 := [(2, iN (0)), (0, .ref (o)), (1, iN (turn))]) dX11_turnIt_39 rfl (by omega) rfl ?_
        have b10 : ∀ j, j < 144 → (mo_t1 8 N) 10 j < 8 := fun j hj => by rw [mo_t1_k (by decide) (by decide)]; exact hf j hj
        have b11 : ∀ j, j < 144 → (mo_t1 8 N) 11 j < 3 := fun j hj => by rw [mo_t1_k (by decide) (by decide)]; exact hm j hj
        have b9 : ∀ j, j < 8 → (mo_t1 8 N) 9 j < 3 := fun j hj => by rw [mo_t1_9 _ _ _ hj]; exact h9 j hj
        rw [show i = 8 by omega]
        have lp2 : ∀ nk k : Nat, k + nk = 8 → gw_G K (mo_ws o ad cI cB cS (mo_t2 turn k (mo_t1 8 N))) 0 0 40 [(2, iN (k)), (0, .ref (o)), (1, iN (turn))] [] := by
          intro nk
          induction nk with
          | zero =>
            intro k hik
            refine gw_iload_n C 0 dX11_turnIt_40 rfl rfl ?_
            refine gw_bipush C 8 dX11_turnIt_41 (by decide) ?_
            refine gw_icmp_ge C 102 dX11_turnIt_43 (by decide) (by omega) (by omega) (fun h5 => ?_) (fun h5 => ?_)
            ·
              rw [show k = 8 by omega]
              refine gw_iconst C 0 dX11_turnIt_102 (by decide) ?_
              refine gw_istore_n C (lv2 := [(2, iN (0)), (0, .ref (o)), (1, iN (turn))]) dX11_turnIt_103 rfl (by omega) rfl ?_
              have lp3 : ∀ nu u : Nat, u + nu = 12 → gw_G K (mo_ws o ad cI cB cS (mo_t3 u (mo_t2 turn 8 (mo_t1 8 N)))) 0 0 104 [(2, iN (u)), (0, .ref (o)), (1, iN (turn))] [] := by
                intro nu
                induction nu with
                | zero =>
                  intro u hiu
                  refine gw_iload_n C 0 dX11_turnIt_104 rfl rfl ?_
                  refine gw_bipush C 12 dX11_turnIt_105 (by decide) ?_
                  refine gw_icmp_ge C 140 dX11_turnIt_107 (by decide) (by omega) (by omega) (fun h6 => ?_) (fun h6 => ?_)
                  ·
                    rw [show u = 12 by omega]
                    have b12 : ∀ j, j < 216 → (mo_t3 12 (mo_t2 turn 8 (mo_t1 8 N))) 12 j < 12 := fun j hj => by rw [mo_t3_k (by decide) (by decide), mo_t2_k (by decide) (by decide), mo_t1_k (by decide) (by decide)]; exact hg j hj
                    refine gw_iconst C 0 dX11_turnIt_140 (by decide) ?_
                    refine gw_istore_n C (lv2 := [(2, iN (0)), (0, .ref (o)), (1, iN (turn))]) dX11_turnIt_141 rfl (by omega) rfl ?_
                    have lp4 : ∀ nv v : Nat, v + nv = 12 → gw_G K (mo_ws o ad cI cB cS (mo_t4 turn v (mo_t3 12 (mo_t2 turn 8 (mo_t1 8 N))))) 0 0 142 [(2, iN (v)), (0, .ref (o)), (1, iN (turn))] [] := by
                      intro nv
                      induction nv with
                      | zero =>
                        intro v hiv
                        refine gw_iload_n C 0 dX11_turnIt_142 rfl rfl ?_
                        refine gw_bipush C 12 dX11_turnIt_143 (by decide) ?_
                        refine gw_icmp_ge C 202 dX11_turnIt_145 (by decide) (by omega) (by omega) (fun h7 => ?_) (fun h7 => ?_)
                        ·
                          exact ret (mo_turn turn N) dX11_turnIt_202 rfl (by rw [show v = 12 by omega]; rfl) (Nat.le_refl 0) (Nat.le_refl 0)
                        ·
                          exact absurd h7 (by omega)
                      | succ nv ihv =>
                        intro v hiv
                        refine gw_iload_n C 0 dX11_turnIt_142 rfl rfl ?_
                        refine gw_bipush C 12 dX11_turnIt_143 (by decide) ?_
                        refine gw_icmp_ge C 202 dX11_turnIt_145 (by decide) (by omega) (by omega) (fun h8 => ?_) (fun h8 => ?_)
                        ·
                          exact absurd h8 (by omega)
                        ·
                          have c0 := b12 (12 * turn + v) (by omega)
                          have q12 : (mo_t4 turn v (mo_t3 12 (mo_t2 turn 8 (mo_t1 8 N)))) 12 (12 * turn + v) = (mo_t3 12 (mo_t2 turn 8 (mo_t1 8 N))) 12 (12 * turn + v) := by rw [mo_t4_k (by decide) (by decide)]
                          rw [← q12] at c0
                          refine gw_aload_n C 1 dX11_turnIt_148 rfl rfl ?_
                          refine gw_get C 0 12 in_X11_turnIt dX11_turnIt_149 lk_X11_turnIt_46 rfl rfl (by decide) rfl rfl ?_
                          refine gw_bipush C 12 dX11_turnIt_152 (by decide) ?_
                          refine gw_iload_n C 2 dX11_turnIt_154 rfl rfl ?_
                          refine gw_imul C dX11_turnIt_155 ?_
                          refine gw_iload_n C 0 dX11_turnIt_156 rfl rfl ?_
                          refine gw_iadd C dX11_turnIt_157 ?_
                          refine gw_ild C (v := nI ((mo_t4 turn v (mo_t3 12 (mo_t2 turn 8 (mo_t1 8 N)))) 12 (((12) * (turn)) + (v)))) 13 0 dX11_turnIt_158 rfl rfl (by decide) (by omega) (by first | rfl | simp [mo_up]) ?_
                          refine gw_istore_n C (lv2 := [(3, iN ((mo_t4 turn v (mo_t3 12 (mo_t2 turn 8 (mo_t1 8 N)))) 12 (((12) * (turn)) + (v)))), (2, iN (v)), (0, .ref (o)), (1, iN (turn))]) dX11_turnIt_159 rfl (by omega) rfl ?_
                          refine gw_aload_n C 2 dX11_turnIt_160 rfl rfl ?_
                          refine gw_get C 0 6 in_X11_turnIt dX11_turnIt_161 lk_X11_turnIt_28 rfl rfl (by decide) rfl rfl ?_
                          refine gw_iload_n C 1 dX11_turnIt_164 rfl rfl ?_
                          refine gw_aload_n C 2 dX11_turnIt_165 rfl rfl ?_
                          refine gw_get C 0 8 in_X11_turnIt dX11_turnIt_166 lk_X11_turnIt_34 rfl rfl (by decide) rfl rfl ?_
                          refine gw_iload_n C 0 dX11_turnIt_169 rfl rfl ?_
                          refine gw_ild C (v := nI ((mo_t4 turn v (mo_t3 12 (mo_t2 turn 8 (mo_t1 8 N)))) 8 ((mo_t4 turn v (mo_t3 12 (mo_t2 turn 8 (mo_t1 8 N)))) 12 (((12) * (turn)) + (v))))) 9 0 dX11_turnIt_170 rfl rfl (by decide) (by omega) (by first | rfl | simp [mo_up]) ?_
                          refine gw_ist C 7 0 dX11_turnIt_171 rfl rfl (by decide) (by omega) mo_st6 ?_
                          refine gw_aload_n C 2 dX11_turnIt_172 rfl rfl ?_
                          refine gw_get C 0 7 in_X11_turnIt dX11_turnIt_173 lk_X11_turnIt_31 rfl rfl (by decide) rfl rfl ?_
                          refine gw_iload_n C 1 dX11_turnIt_176 rfl rfl ?_
                          refine gw_aload_n C 2 dX11_turnIt_177 rfl rfl ?_
                          refine gw_get C 0 9 in_X11_turnIt dX11_turnIt_178 lk_X11_turnIt_37 rfl rfl (by decide) rfl rfl ?_
                          refine gw_iload_n C 0 dX11_turnIt_181 rfl rfl ?_
                          refine gw_ild C (v := nI ((mo_t4 turn v (mo_t3 12 (mo_t2 turn 8 (mo_t1 8 N)))) 9 ((mo_t4 turn v (mo_t3 12 (mo_t2 turn 8 (mo_t1 8 N)))) 12 (((12) * (turn)) + (v))))) 10 0 dX11_turnIt_182 rfl rfl (by decide) (by omega) (by first | rfl | simp [mo_up]) ?_
                          refine gw_aload_n C 2 dX11_turnIt_183 rfl rfl ?_
                          refine gw_get C 0 13 in_X11_turnIt dX11_turnIt_184 lk_X11_turnIt_49 rfl rfl (by decide) rfl rfl ?_
                          refine gw_bipush C 12 dX11_turnIt_187 (by decide) ?_
                          refine gw_iload_n C 3 dX11_turnIt_189 rfl rfl ?_
                          refine gw_imul C dX11_turnIt_190 ?_
                          refine gw_iload_n C 1 dX11_turnIt_191 rfl rfl ?_
                          refine gw_iadd C dX11_turnIt_192 ?_
                          refine gw_ild C (v := nI ((mo_t4 turn v (mo_t3 12 (mo_t2 turn 8 (mo_t1 8 N)))) 13 (((12) * (turn)) + (v)))) 14 0 dX11_turnIt_193 rfl rfl (by decide) (by omega) (by first | rfl | simp [mo_up]) ?_
                          refine gw_ixor C dX11_turnIt_194 ?_
                          refine gw_ist C 8 0 dX11_turnIt_195 rfl rfl (by decide) (by omega) mo_st7 ?_
                          refine gw_iinc C (v := nI (v + 1)) (lv2 := [(2, iN (v + 1)), (3, iN ((mo_t4 turn v (mo_t3 12 (mo_t2 turn 8 (mo_t1 8 N)))) 12 (((12) * (turn)) + (v)))), (0, .ref (o)), (1, iN (turn))]) 1 dX11_turnIt_196 rfl (nI_add _ _) (by omega) rfl ?_
                          refine gw_goto C 142 dX11_turnIt_199 (by decide) ?_
                          refine gw_lv (lv2 := [(2, iN (v + 1)), (0, .ref (o)), (1, iN (turn))]) [0, 2, 3] rfl ?_
                          exact gw_ws (congrArg (mo_ws o ad cI cB cS) (by rfl)) (ihv (v + 1) (by omega))
                    refine gw_lv (lv2 := [(2, iN (0)), (0, .ref (o)), (1, iN (turn))]) [0, 1, 2] rfl ?_
                    exact lp4 (12 - 0) 0 (by omega)
                  ·
                    exact absurd h6 (by omega)
                | succ nu ihu =>
                  intro u hiu
                  refine gw_iload_n C 0 dX11_turnIt_104 rfl rfl ?_
                  refine gw_bipush C 12 dX11_turnIt_105 (by decide) ?_
                  refine gw_icmp_ge C 140 dX11_turnIt_107 (by decide) (by omega) (by omega) (fun h9 => ?_) (fun h9 => ?_)
                  ·
                    exact absurd h9 (by omega)
                  ·
                    refine gw_aload_n C 1 dX11_turnIt_110 rfl rfl ?_
                    refine gw_get C 0 8 in_X11_turnIt dX11_turnIt_111 lk_X11_turnIt_34 rfl rfl (by decide) rfl rfl ?_
                    refine gw_iload_n C 0 dX11_turnIt_114 rfl rfl ?_
                    refine gw_aload_n C 1 dX11_turnIt_115 rfl rfl ?_
                    refine gw_get C 0 6 in_X11_turnIt dX11_turnIt_116 lk_X11_turnIt_28 rfl rfl (by decide) rfl rfl ?_
                    refine gw_iload_n C 0 dX11_turnIt_119 rfl rfl ?_
                    refine gw_ild C (v := nI ((mo_t3 u (mo_t2 turn 8 (mo_t1 8 N))) 6 (u))) 7 0 dX11_turnIt_120 rfl rfl (by decide) (by omega) (by first | rfl | simp [mo_up]) ?_
                    refine gw_ist C 9 0 dX11_turnIt_121 rfl rfl (by decide) (by omega) mo_st8 ?_
                    refine gw_aload_n C 1 dX11_turnIt_122 rfl rfl ?_
                    refine gw_get C 0 9 in_X11_turnIt dX11_turnIt_123 lk_X11_turnIt_37 rfl rfl (by decide) rfl rfl ?_
                    refine gw_iload_n C 0 dX11_turnIt_126 rfl rfl ?_
                    refine gw_aload_n C 1 dX11_turnIt_127 rfl rfl ?_
                    refine gw_get C 0 7 in_X11_turnIt dX11_turnIt_128 lk_X11_turnIt_31 rfl rfl (by decide) rfl rfl ?_
                    refine gw_iload_n C 0 dX11_turnIt_131 rfl rfl ?_
                    refine gw_ild C (v := nI ((mo_t3 u (mo_t2 turn 8 (mo_t1 8 N))) 7 (u))) 8 0 dX11_turnIt_132 rfl rfl (by decide) (by omega) (by first | rfl | simp [mo_up]) ?_
                    refine gw_ist C 10 0 dX11_turnIt_133 rfl rfl (by decide) (by omega) mo_st9 ?_
                    refine gw_iinc C (v := nI (u + 1)) (lv2 := [(2, iN (u + 1)), (0, .ref (o)), (1, iN (turn))]) 0 dX11_turnIt_134 rfl (nI_add _ _) (by omega) rfl ?_
                    refine gw_goto C 104 dX11_turnIt_137 (by decide) ?_
                    refine gw_lv (lv2 := [(2, iN (u + 1)), (0, .ref (o)), (1, iN (turn))]) [0, 1, 2] rfl ?_
                    exact gw_ws (congrArg (mo_ws o ad cI cB cS) (by rfl)) (ihu (u + 1) (by omega))
              refine gw_lv (lv2 := [(2, iN (0)), (0, .ref (o)), (1, iN (turn))]) [0, 1, 2] rfl ?_
              exact lp3 (12 - 0) 0 (by omega)
            ·
              exact absurd h5 (by omega)
          | succ nk ihk =>
            intro k hik
            refine gw_iload_n C 0 dX11_turnIt_40 rfl rfl ?_
            refine gw_bipush C 8 dX11_turnIt_41 (by decide) ?_
            refine gw_icmp_ge C 102 dX11_turnIt_43 (by decide) (by omega) (by omega) (fun h10 => ?_) (fun h10 => ?_)
            ·
              exact absurd h10 (by omega)
            ·
              have c0 := b10 (8 * turn + k) (by omega)
              have c1 := b11 (8 * turn + k) (by omega)
              have c9 := b9 ((mo_t1 8 N) 10 (8 * turn + k)) c0
              have q10 : (mo_t2 turn k (mo_t1 8 N)) 10 (8 * turn + k) = (mo_t1 8 N) 10 (8 * turn + k) := by rw [mo_t2_k (by decide) (by decide)]
              have q11 : (mo_t2 turn k (mo_t1 8 N)) 11 (8 * turn + k) = (mo_t1 8 N) 11 (8 * turn + k) := by rw [mo_t2_k (by decide) (by decide)]
              have q9 : (mo_t2 turn k (mo_t1 8 N)) 9 ((mo_t2 turn k (mo_t1 8 N)) 10 (8 * turn + k)) < 3 := by rw [q10, mo_t2_k (by decide) (by decide)]; exact c9
              rw [← q10] at c0
              rw [← q11] at c1
              refine gw_aload_n C 1 dX11_turnIt_46 rfl rfl ?_
              refine gw_get C 0 10 in_X11_turnIt dX11_turnIt_47 lk_X11_turnIt_40 rfl rfl (by decide) rfl rfl ?_
              refine gw_bipush C 8 dX11_turnIt_50 (by decide) ?_
              refine gw_iload_n C 2 dX11_turnIt_52 rfl rfl ?_
              refine gw_imul C dX11_turnIt_53 ?_
              refine gw_iload_n C 0 dX11_turnIt_54 rfl rfl ?_
              refine gw_iadd C dX11_turnIt_55 ?_
              refine gw_ild C (v := nI ((mo_t2 turn k (mo_t1 8 N)) 10 (((8) * (turn)) + (k)))) 11 0 dX11_turnIt_56 rfl rfl (by decide) (by omega) (by first | rfl | simp [mo_up]) ?_
              refine gw_istore_n C (lv2 := [(3, iN ((mo_t2 turn k (mo_t1 8 N)) 10 (((8) * (turn)) + (k)))), (2, iN (k)), (0, .ref (o)), (1, iN (turn))]) dX11_turnIt_57 rfl (by omega) rfl ?_
              refine gw_aload_n C 2 dX11_turnIt_58 rfl rfl ?_
              refine gw_get C 0 4 in_X11_turnIt dX11_turnIt_59 lk_X11_turnIt_22 rfl rfl (by decide) rfl rfl ?_
              refine gw_iload_n C 1 dX11_turnIt_62 rfl rfl ?_
              refine gw_aload_n C 2 dX11_turnIt_63 rfl rfl ?_
              refine gw_get C 0 8 in_X11_turnIt dX11_turnIt_64 lk_X11_turnIt_34 rfl rfl (by decide) rfl rfl ?_
              refine gw_iload_n C 0 dX11_turnIt_67 rfl rfl ?_
              refine gw_ild C (v := nI ((mo_t2 turn k (mo_t1 8 N)) 8 ((mo_t2 turn k (mo_t1 8 N)) 10 (((8) * (turn)) + (k))))) 9 0 dX11_turnIt_68 rfl rfl (by decide) (by omega) (by first | rfl | simp [mo_up]) ?_
              refine gw_ist C 5 0 dX11_turnIt_69 rfl rfl (by decide) (by omega) mo_st4 ?_
              refine gw_aload_n C 2 dX11_turnIt_70 rfl rfl ?_
              refine gw_get C 0 5 in_X11_turnIt dX11_turnIt_71 lk_X11_turnIt_25 rfl rfl (by decide) rfl rfl ?_
              refine gw_iload_n C 1 dX11_turnIt_74 rfl rfl ?_
              refine gw_aload_n C 2 dX11_turnIt_75 rfl rfl ?_
              refine gw_get C 0 9 in_X11_turnIt dX11_turnIt_76 lk_X11_turnIt_37 rfl rfl (by decide) rfl rfl ?_
              refine gw_iload_n C 0 dX11_turnIt_79 rfl rfl ?_
              refine gw_ild C (v := nI ((mo_t2 turn k (mo_t1 8 N)) 9 ((mo_t2 turn k (mo_t1 8 N)) 10 (((8) * (turn)) + (k))))) 10 0 dX11_turnIt_80 rfl rfl (by decide) (by omega) (by first | rfl | simp [mo_up]) ?_
              refine gw_aload_n C 2 dX11_turnIt_81 rfl rfl ?_
              refine gw_get C 0 11 in_X11_turnIt dX11_turnIt_82 lk_X11_turnIt_43 rfl rfl (by decide) rfl rfl ?_
              refine gw_bipush C 8 dX11_turnIt_85 (by decide) ?_
              refine gw_iload_n C 3 dX11_turnIt_87 rfl rfl ?_
              refine gw_imul C dX11_turnIt_88 ?_
              refine gw_iload_n C 1 dX11_turnIt_89 rfl rfl ?_
              refine gw_iadd C dX11_turnIt_90 ?_
              refine gw_ild C (v := nI ((mo_t2 turn k (mo_t1 8 N)) 11 (((8) * (turn)) + (k)))) 12 0 dX11_turnIt_91 rfl rfl (by decide) (by omega) (by first | rfl | simp [mo_up]) ?_
              refine gw_iadd C dX11_turnIt_92 ?_
              refine gw_iconst C 3 dX11_turnIt_93 (by decide) ?_
              refine gw_irem C dX11_turnIt_94 (by omega) (by omega) (by omega) ?_
              refine gw_ist C 6 0 dX11_turnIt_95 rfl rfl (by decide) (by omega) mo_st5 ?_
              refine gw_iinc C (v := nI (k + 1)) (lv2 := [(2, iN (k + 1)), (3, iN ((mo_t2 turn k (mo_t1 8 N)) 10 (((8) * (turn)) + (k)))), (0, .ref (o)), (1, iN (turn))]) 1 dX11_turnIt_96 rfl (nI_add _ _) (by omega) rfl ?_
              refine gw_goto C 40 dX11_turnIt_99 (by decide) ?_
              refine gw_lv (lv2 := [(2, iN (k + 1)), (0, .ref (o)), (1, iN (turn))]) [0, 2, 3] rfl ?_
              exact gw_ws (congrArg (mo_ws o ad cI cB cS) (by rfl)) (ihk (k + 1) (by omega))
        refine gw_lv (lv2 := [(2, iN (0)), (0, .ref (o)), (1, iN (turn))]) [0, 1, 2] rfl ?_
        exact lp2 (8 - 0) 0 (by omega)
      ·
        exact absurd h4 (by omega)
    | succ ni ihi =>
      intro i hii
      refine gw_iload_n C 0 dX11_turnIt_2 rfl rfl ?_
      refine gw_bipush C 8 dX11_turnIt_3 (by decide) ?_
      refine gw_icmp_ge C 38 dX11_turnIt_5 (by decide) (by omega) (by omega) (fun h11 => ?_) (fun h11 => ?_)
      ·
        exact absurd h11 (by omega)
      ·
        refine gw_aload_n C 1 dX11_turnIt_8 rfl rfl ?_
        refine gw_get C 0 8 in_X11_turnIt dX11_turnIt_9 lk_X11_turnIt_34 rfl rfl (by decide) rfl rfl ?_
        refine gw_iload_n C 0 dX11_turnIt_12 rfl rfl ?_
        refine gw_aload_n C 1 dX11_turnIt_13 rfl rfl ?_
        refine gw_get C 0 4 in_X11_turnIt dX11_turnIt_14 lk_X11_turnIt_22 rfl rfl (by decide) rfl rfl ?_
        refine gw_iload_n C 0 dX11_turnIt_17 rfl rfl ?_
        refine gw_ild C (v := nI ((mo_t1 i N) 4 (i))) 5 0 dX11_turnIt_18 rfl rfl (by decide) (by omega) (by first | rfl | simp [mo_up]) ?_
        refine gw_ist C 9 0 dX11_turnIt_19 rfl rfl (by decide) (by omega) mo_st8 ?_
        refine gw_aload_n C 1 dX11_turnIt_20 rfl rfl ?_
        refine gw_get C 0 9 in_X11_turnIt dX11_turnIt_21 lk_X11_turnIt_37 rfl rfl (by decide) rfl rfl ?_
        refine gw_iload_n C 0 dX11_turnIt_24 rfl rfl ?_
        refine gw_aload_n C 1 dX11_turnIt_25 rfl rfl ?_
        refine gw_get C 0 5 in_X11_turnIt dX11_turnIt_26 lk_X11_turnIt_25 rfl rfl (by decide) rfl rfl ?_
        refine gw_iload_n C 0 dX11_turnIt_29 rfl rfl ?_
        refine gw_ild C (v := nI ((mo_t1 i N) 5 (i))) 6 0 dX11_turnIt_30 rfl rfl (by decide) (by omega) (by first | rfl | simp [mo_up]) ?_
        refine gw_ist C 10 0 dX11_turnIt_31 rfl rfl (by decide) (by omega) mo_st9 ?_
        refine gw_iinc C (v := nI (i + 1)) (lv2 := [(2, iN (i + 1)), (0, .ref (o)), (1, iN (turn))]) 0 dX11_turnIt_32 rfl (nI_add _ _) (by omega) rfl ?_
        refine gw_goto C 2 dX11_turnIt_35 (by decide) ?_
        refine gw_lv (lv2 := [(2, iN (i + 1)), (0, .ref (o)), (1, iN (turn))]) [0, 1, 2] rfl ?_
        exact gw_ws (congrArg (mo_ws o ad cI cB cS) (by rfl)) (ihi (i + 1) (by omega))
  refine gw_lv (lv2 := [(2, iN (0)), (0, .ref (o)), (1, iN (turn))]) [0, 1, 2] rfl ?_
  exact lp (8 - 0) 0 (by omega)
end
section
/-- corner, edge: what is written, and the answer -/
def mo_put (P M n k a b c : Nat) (N : Nat → Nat → Nat) : Nat → Nat → Nat := if a < n ∧ b < n ∧ c < k then mo_up (mo_up N P a b) M a c else N
def mo_putR (n k a b c : Nat) : Nat := if a < n ∧ b < n ∧ c < k then 1 else 4294967295
theorem in_X11_corner : ∀ w ∈ wsX110, w ∈ wsX11_corner := fun _ h => List.mem_cons_of_mem _ (List.mem_append_right _ h)
theorem lk_X11_corner_7 : Cond.fieldLink RX11 7 "StageCubeModel" "corners" "[I" ∈ wsX11_corner := by decide +kernel
theorem lk_X11_corner_13 : Cond.fieldLink RX11 13 "StageCubeModel" "twists" "[I" ∈ wsX11_corner := by decide +kernel
set_option maxHeartbeats 4000000 in
set_option maxRecDepth 100000 in
theorem c_corner (l : Launch) (D : va_G) (cI cB cS cJ cF cG : ClassId) (zz : (Nat → Prop) → State → Heap → Prop) (hz : gw_zT zz) (o : Nat) (ad : Nat → Nat) (N : Nat → Nat → Nat) (a b c : Nat) (ha : a < 2 ^ 32) (hb : b < 2 ^ 32) (hc : c < 2 ^ 32) : gw_CI l yX11_corner wsX11_corner 0 0 0 0 D (mo_ty cI cB cS cJ cF cG) zz (mo_ws o ad cI cB cS N) [.ref o, iN a, iN b, iN c] (fun r N' => r = nI (mo_putR 8 3 a b c) ∧ N' = mo_put 0 1 8 3 a b c N) (fun N' => mo_ws o ad cI cB cS N') := by
  refine gw_CI.of (cc := cX11_corner) (maxL := 4) (rt := .int) hz (by decide) rfl (Nat.le_of_ble_eq_true rfl) ?_
  intro K C hkl hkn hkR hkD hmn ret
  have C : gw_x K cX11_corner RX11 wsX11_corner (mo_ty cI cB cS cJ cF cG) zz := C
  refine gw_iload_n C 1 dX11_corner_0 rfl rfl ?_
  refine gw_if_lt32 C 29 dX11_corner_1 (by decide) (by omega) (fun h1 => ?_) (fun h1 => ?_)
  ·
    refine gw_iconst C 4294967295 dX11_corner_29 (by decide) ?_
    exact ret (N) dX11_corner_30 rfl ⟨by rw [mo_putR, if_neg (by omega)], by rw [mo_put, if_neg (by omega)]⟩ rfl (Nat.le_refl 0) (Nat.le_refl 0)
  ·
    refine gw_iload_n C 1 dX11_corner_4 rfl rfl ?_
    refine gw_bipush C 7 dX11_corner_5 (by decide) ?_
    refine gw_icmp_gt C 29 dX11_corner_7 (by decide) (by omega) (by omega) (fun h2 => ?_) (fun h2 => ?_)
    ·
      refine gw_iconst C 4294967295 dX11_corner_29 (by decide) ?_
      exact ret (N) dX11_corner_30 rfl ⟨by rw [mo_putR, if_neg (by omega)], by rw [mo_put, if_neg (by omega)]⟩ rfl (Nat.le_refl 0) (Nat.le_refl 0)
    ·
      refine gw_iload_n C 2 dX11_corner_10 rfl rfl ?_
      refine gw_if_lt32 C 29 dX11_corner_11 (by decide) (by omega) (fun h3 => ?_) (fun h3 => ?_)
      ·
        refine gw_iconst C 4294967295 dX11_corner_29 (by decide) ?_
        exact ret (N) dX11_corner_30 rfl ⟨by rw [mo_putR, if_neg (by omega)], by rw [mo_put, if_neg (by omega)]⟩ rfl (Nat.le_refl 0) (Nat.le_refl 0)
      ·
        refine gw_iload_n C 2 dX11_corner_14 rfl rfl ?_
        refine gw_bipush C 7 dX11_corner_15 (by decide) ?_
        refine gw_icmp_gt C 29 dX11_corner_17 (by decide) (by omega) (by omega) (fun h4 => ?_) (fun h4 => ?_)
        ·
          refine gw_iconst C 4294967295 dX11_corner_29 (by decide) ?_
          exact ret (N) dX11_corner_30 rfl ⟨by rw [mo_putR, if_neg (by omega)], by rw [mo_put, if_neg (by omega)]⟩ rfl (Nat.le_refl 0) (Nat.le_refl 0)
        ·
          refine gw_iload_n C 3 dX11_corner_20 rfl rfl ?_
          refine gw_if_lt32 C 29 dX11_corner_21 (by decide) (by omega) (fun h5 => ?_) (fun h5 => ?_)
          ·
            refine gw_iconst C 4294967295 dX11_corner_29 (by decide) ?_
            exact ret (N) dX11_corner_30 rfl ⟨by rw [mo_putR, if_neg (by omega)], by rw [mo_put, if_neg (by omega)]⟩ rfl (Nat.le_refl 0) (Nat.le_refl 0)
          ·
            refine gw_iload_n C 3 dX11_corner_24 rfl rfl ?_
            refine gw_iconst C 2 dX11_corner_25 (by decide) ?_
            refine gw_icmp_le C 31 dX11_corner_26 (by decide) (by omega) (by omega) (fun h6 => ?_) (fun h6 => ?_)
            ·
              refine gw_aload_n C 0 dX11_corner_31 rfl rfl ?_
              refine gw_get C 0 0 in_X11_corner dX11_corner_32 lk_X11_corner_7 rfl rfl (by decide) rfl rfl ?_
              refine gw_iload_n C 1 dX11_corner_35 rfl rfl ?_
              refine gw_iload_n C 2 dX11_corner_36 rfl rfl ?_
              refine gw_ist C 1 0 dX11_corner_37 rfl rfl (by decide) (by omega) mo_st0 ?_
              refine gw_aload_n C 0 dX11_corner_38 rfl rfl ?_
              refine gw_get C 0 1 in_X11_corner dX11_corner_39 lk_X11_corner_13 rfl rfl (by decide) rfl rfl ?_
              refine gw_iload_n C 1 dX11_corner_42 rfl rfl ?_
              refine gw_iload_n C 3 dX11_corner_43 rfl rfl ?_
              refine gw_ist C 2 0 dX11_corner_44 rfl rfl (by decide) (by omega) mo_st1 ?_
              refine gw_iconst C 1 dX11_corner_45 (by decide) ?_
              exact ret (mo_up (mo_up (N) 0 (a) (b)) 1 (a) (c)) dX11_corner_46 rfl ⟨by rw [mo_putR, if_pos (by omega)], by rw [mo_put, if_pos (by omega)]⟩ rfl (Nat.le_refl 0) (Nat.le_refl 0)
            ·
              refine gw_iconst C 4294967295 dX11_corner_29 (by decide) ?_
              exact ret (N) dX11_corner_30 rfl ⟨by rw [mo_putR, if_neg (by omega)], by rw [mo_put, if_neg (by omega)]⟩ rfl (Nat.le_refl 0) (Nat.le_refl 0)
theorem in_X11_edge : ∀ w ∈ wsX110, w ∈ wsX11_edge := fun _ h => List.mem_cons_of_mem _ (List.mem_append_right _ h)
theorem lk_X11_edge_16 : Cond.fieldLink RX11 16 "StageCubeModel" "edges" "[I" ∈ wsX11_edge := by decide +kernel
theorem lk_X11_edge_19 : Cond.fieldLink RX11 19 "StageCubeModel" "flips" "[I" ∈ wsX11_edge := by decide +kernel
set_option maxHeartbeats 4000000 in
set_option maxRecDepth 100000 in
theorem c_edge (l : Launch) (D : va_G) (cI cB cS cJ cF cG : ClassId) (zz : (Nat → Prop) → State → Heap → Prop) (hz : gw_zT zz) (o : Nat) (ad : Nat → Nat) (N : Nat → Nat → Nat) (a b c : Nat) (ha : a < 2 ^ 32) (hb : b < 2 ^ 32) (hc : c < 2 ^ 32) : gw_CI l yX11_edge wsX11_edge 0 0 0 0 D (mo_ty cI cB cS cJ cF cG) zz (mo_ws o ad cI cB cS N) [.ref o, iN a, iN b, iN c] (fun r N' => r = nI (mo_putR 12 2 a b c) ∧ N' = mo_put 2 3 12 2 a b c N) (fun N' => mo_ws o ad cI cB cS N') := by
  refine gw_CI.of (cc := cX11_edge) (maxL := 4) (rt := .int) hz (by decide) rfl (Nat.le_of_ble_eq_true rfl) ?_
  intro K C hkl hkn hkR hkD hmn ret
  have C : gw_x K cX11_edge RX11 wsX11_edge (mo_ty cI cB cS cJ cF cG) zz := C
  refine gw_iload_n C 1 dX11_edge_0 rfl rfl ?_
  refine gw_if_lt32 C 29 dX11_edge_1 (by decide) (by omega) (fun h7 => ?_) (fun h7 => ?_)
  ·
    refine gw_iconst C 4294967295 dX11_edge_29 (by decide) ?_
    exact ret (N) dX11_edge_30 rfl ⟨by rw [mo_putR, if_neg (by omega)], by rw [mo_put, if_neg (by omega)]⟩ rfl (Nat.le_refl 0) (Nat.le_refl 0)
  ·
    refine gw_iload_n C 1 dX11_edge_4 rfl rfl ?_
    refine gw_bipush C 11 dX11_edge_5 (by decide) ?_
    refine gw_icmp_gt C 29 dX11_edge_7 (by decide) (by omega) (by omega) (fun h8 => ?_) (fun h8 => ?_)
    ·
      refine gw_iconst C 4294967295 dX11_edge_29 (by decide) ?_
      exact ret (N) dX11_edge_30 rfl ⟨by rw [mo_putR, if_neg (by omega)], by rw [mo_put, if_neg (by omega)]⟩ rfl (Nat.le_refl 0) (Nat.le_refl 0)
    ·
      refine gw_iload_n C 2 dX11_edge_10 rfl rfl ?_
      refine gw_if_lt32 C 29 dX11_edge_11 (by decide) (by omega) (fun h9 => ?_) (fun h9 => ?_)
      ·
        refine gw_iconst C 4294967295 dX11_edge_29 (by decide) ?_
        exact ret (N) dX11_edge_30 rfl ⟨by rw [mo_putR, if_neg (by omega)], by rw [mo_put, if_neg (by omega)]⟩ rfl (Nat.le_refl 0) (Nat.le_refl 0)
      ·
        refine gw_iload_n C 2 dX11_edge_14 rfl rfl ?_
        refine gw_bipush C 11 dX11_edge_15 (by decide) ?_
        refine gw_icmp_gt C 29 dX11_edge_17 (by decide) (by omega) (by omega) (fun h10 => ?_) (fun h10 => ?_)
        ·
          refine gw_iconst C 4294967295 dX11_edge_29 (by decide) ?_
          exact ret (N) dX11_edge_30 rfl ⟨by rw [mo_putR, if_neg (by omega)], by rw [mo_put, if_neg (by omega)]⟩ rfl (Nat.le_refl 0) (Nat.le_refl 0)
        ·
          refine gw_iload_n C 3 dX11_edge_20 rfl rfl ?_
          refine gw_if_lt32 C 29 dX11_edge_21 (by decide) (by omega) (fun h11 => ?_) (fun h11 => ?_)
          ·
            refine gw_iconst C 4294967295 dX11_edge_29 (by decide) ?_
            exact ret (N) dX11_edge_30 rfl ⟨by rw [mo_putR, if_neg (by omega)], by rw [mo_put, if_neg (by omega)]⟩ rfl (Nat.le_refl 0) (Nat.le_refl 0)
          ·
            refine gw_iload_n C 3 dX11_edge_24 rfl rfl ?_
            refine gw_iconst C 1 dX11_edge_25 (by decide) ?_
            refine gw_icmp_le C 31 dX11_edge_26 (by decide) (by omega) (by omega) (fun h12 => ?_) (fun h12 => ?_)
            ·
              refine gw_aload_n C 0 dX11_edge_31 rfl rfl ?_
              refine gw_get C 0 2 in_X11_edge dX11_edge_32 lk_X11_edge_16 rfl rfl (by decide) rfl rfl ?_
              refine gw_iload_n C 1 dX11_edge_35 rfl rfl ?_
              refine gw_iload_n C 2 dX11_edge_36 rfl rfl ?_
              refine gw_ist C 3 0 dX11_edge_37 rfl rfl (by decide) (by omega) mo_st2 ?_
              refine gw_aload_n C 0 dX11_edge_38 rfl rfl ?_
              refine gw_get C 0 3 in_X11_edge dX11_edge_39 lk_X11_edge_19 rfl rfl (by decide) rfl rfl ?_
              refine gw_iload_n C 1 dX11_edge_42 rfl rfl ?_
              refine gw_iload_n C 3 dX11_edge_43 rfl rfl ?_
              refine gw_ist C 4 0 dX11_edge_44 rfl rfl (by decide) (by omega) mo_st3 ?_
              refine gw_iconst C 1 dX11_edge_45 (by decide) ?_
              exact ret (mo_up (mo_up (N) 2 (a) (b)) 3 (a) (c)) dX11_edge_46 rfl ⟨by rw [mo_putR, if_pos (by omega)], by rw [mo_put, if_pos (by omega)]⟩ rfl (Nat.le_refl 0) (Nat.le_refl 0)
            ·
              refine gw_iconst C 4294967295 dX11_edge_29 (by decide) ?_
              exact ret (N) dX11_edge_30 rfl ⟨by rw [mo_putR, if_neg (by omega)], by rw [mo_put, if_neg (by omega)]⟩ rfl (Nat.le_refl 0) (Nat.le_refl 0)
def mo_atR (a b : Nat) (N : Nat → Nat → Nat) : Nat := if a = 0 ∧ b < 8 then 3 * N 0 b + N 1 b else if a = 1 ∧ b < 12 then 2 * N 2 b + N 3 b else 4294967295
theorem in_X11_at : ∀ w ∈ wsX110, w ∈ wsX11_at := fun _ h => List.mem_cons_of_mem _ (List.mem_append_right _ h)
theorem lk_X11_at_7 : Cond.fieldLink RX11 7 "StageCubeModel" "corners" "[I" ∈ wsX11_at := by decide +kernel
theorem lk_X11_at_13 : Cond.fieldLink RX11 13 "StageCubeModel" "twists" "[I" ∈ wsX11_at := by decide +kernel
theorem lk_X11_at_16 : Cond.fieldLink RX11 16 "StageCubeModel" "edges" "[I" ∈ wsX11_at := by decide +kernel
theorem lk_X11_at_19 : Cond.fieldLink RX11 19 "StageCubeModel" "flips" "[I" ∈ wsX11_at := by decide +kernel
set_option maxHeartbeats 4000000 in
set_option maxRecDepth 100000 in
theorem c_at (l : Launch) (D : va_G) (cI cB cS cJ cF cG : ClassId) (zz : (Nat → Prop) → State → Heap → Prop) (hz : gw_zT zz) (o : Nat) (ad : Nat → Nat) (N : Nat → Nat → Nat) (a b : Nat) (ha : a < 2 ^ 32) (hb : b < 2 ^ 32) : gw_CI l yX11_at wsX11_at 0 0 0 0 D (mo_ty cI cB cS cJ cF cG) zz (mo_ws o ad cI cB cS N) [.ref o, iN a, iN b] (fun r N' => r = nI (mo_atR a b N) ∧ N' = N) (fun N' => mo_ws o ad cI cB cS N') := by
  refine gw_CI.of (cc := cX11_at) (maxL := 3) (rt := .int) hz (by decide) rfl (Nat.le_of_ble_eq_true rfl) ?_
  intro K C hkl hkn hkR hkD hmn ret
  have C : gw_x K cX11_at RX11 wsX11_at (mo_ty cI cB cS cJ cF cG) zz := C
  refine gw_iload_n C 1 dX11_at_0 rfl rfl ?_
  refine gw_if_ne32 C 30 dX11_at_1 (by decide) (by omega) (fun h13 => ?_) (fun h13 => ?_)
  ·
    refine gw_iload_n C 1 dX11_at_30 rfl rfl ?_
    refine gw_iconst C 1 dX11_at_31 (by decide) ?_
    refine gw_icmp_ne32 C 63 dX11_at_32 (by decide) (by omega) (by omega) (fun h14 => ?_) (fun h14 => ?_)
    ·
      refine gw_iconst C 4294967295 dX11_at_63 (by decide) ?_
      exact ret N dX11_at_64 rfl ⟨by rw [mo_atR, if_neg (by omega), if_neg (by omega)], rfl⟩ rfl (Nat.le_refl 0) (Nat.le_refl 0)
    ·
      refine gw_iload_n C 2 dX11_at_35 rfl rfl ?_
      refine gw_if_lt32 C 63 dX11_at_36 (by decide) (by omega) (fun h15 => ?_) (fun h15 => ?_)
      ·
        refine gw_iconst C 4294967295 dX11_at_63 (by decide) ?_
        exact ret N dX11_at_64 rfl ⟨by rw [mo_atR, if_neg (by omega), if_neg (by omega)], rfl⟩ rfl (Nat.le_refl 0) (Nat.le_refl 0)
      ·
        refine gw_iload_n C 2 dX11_at_39 rfl rfl ?_
        refine gw_bipush C 12 dX11_at_40 (by decide) ?_
        refine gw_icmp_ge C 63 dX11_at_42 (by decide) (by omega) (by omega) (fun h16 => ?_) (fun h16 => ?_)
        ·
          refine gw_iconst C 4294967295 dX11_at_63 (by decide) ?_
          exact ret N dX11_at_64 rfl ⟨by rw [mo_atR, if_neg (by omega), if_neg (by omega)], rfl⟩ rfl (Nat.le_refl 0) (Nat.le_refl 0)
        ·
          refine gw_iconst C 2 dX11_at_45 (by decide) ?_
          refine gw_aload_n C 0 dX11_at_46 rfl rfl ?_
          refine gw_get C 0 2 in_X11_at dX11_at_47 lk_X11_at_16 rfl rfl (by decide) rfl rfl ?_
          refine gw_iload_n C 2 dX11_at_50 rfl rfl ?_
          refine gw_ild C (v := nI (N 2 (b))) 3 0 dX11_at_51 rfl rfl (by decide) (by omega) (by first | rfl | simp [mo_up]) ?_
          refine gw_imul C dX11_at_52 ?_
          refine gw_aload_n C 0 dX11_at_53 rfl rfl ?_
          refine gw_get C 0 3 in_X11_at dX11_at_54 lk_X11_at_19 rfl rfl (by decide) rfl rfl ?_
          refine gw_iload_n C 2 dX11_at_57 rfl rfl ?_
          refine gw_ild C (v := nI (N 3 (b))) 4 0 dX11_at_58 rfl rfl (by decide) (by omega) (by first | rfl | simp [mo_up]) ?_
          refine gw_iadd C dX11_at_59 ?_
          refine gw_goto C 64 dX11_at_60 (by decide) ?_
          exact ret N dX11_at_64 rfl ⟨by rw [mo_atR, if_neg (by omega), if_pos (by omega)], rfl⟩ rfl (Nat.le_refl 0) (Nat.le_refl 0)
  ·
    refine gw_iload_n C 2 dX11_at_4 rfl rfl ?_
    refine gw_if_lt32 C 30 dX11_at_5 (by decide) (by omega) (fun h17 => ?_) (fun h17 => ?_)
    ·
      refine gw_iload_n C 1 dX11_at_30 rfl rfl ?_
      refine gw_iconst C 1 dX11_at_31 (by decide) ?_
      refine gw_icmp_ne32 C 63 dX11_at_32 (by decide) (by omega) (by omega) (fun h18 => ?_) (fun h18 => ?_)
      ·
        refine gw_iconst C 4294967295 dX11_at_63 (by decide) ?_
        exact ret N dX11_at_64 rfl ⟨by rw [mo_atR, if_neg (by omega), if_neg (by omega)], rfl⟩ rfl (Nat.le_refl 0) (Nat.le_refl 0)
      ·
        refine gw_iload_n C 2 dX11_at_35 rfl rfl ?_
        refine gw_if_lt32 C 63 dX11_at_36 (by decide) (by omega) (fun h19 => ?_) (fun h19 => ?_)
        ·
          refine gw_iconst C 4294967295 dX11_at_63 (by decide) ?_
          exact ret N dX11_at_64 rfl ⟨by rw [mo_atR, if_neg (by omega), if_neg (by omega)], rfl⟩ rfl (Nat.le_refl 0) (Nat.le_refl 0)
        ·
          refine gw_iload_n C 2 dX11_at_39 rfl rfl ?_
          refine gw_bipush C 12 dX11_at_40 (by decide) ?_
          refine gw_icmp_ge C 63 dX11_at_42 (by decide) (by omega) (by omega) (fun h20 => ?_) (fun h20 => ?_)
          ·
            refine gw_iconst C 4294967295 dX11_at_63 (by decide) ?_
            exact ret N dX11_at_64 rfl ⟨by rw [mo_atR, if_neg (by omega), if_neg (by omega)], rfl⟩ rfl (Nat.le_refl 0) (Nat.le_refl 0)
          ·
            refine gw_iconst C 2 dX11_at_45 (by decide) ?_
            refine gw_aload_n C 0 dX11_at_46 rfl rfl ?_
            refine gw_get C 0 2 in_X11_at dX11_at_47 lk_X11_at_16 rfl rfl (by decide) rfl rfl ?_
            refine gw_iload_n C 2 dX11_at_50 rfl rfl ?_
            refine gw_ild C (v := nI (N 2 (b))) 3 0 dX11_at_51 rfl rfl (by decide) (by omega) (by first | rfl | simp [mo_up]) ?_
            refine gw_imul C dX11_at_52 ?_
            refine gw_aload_n C 0 dX11_at_53 rfl rfl ?_
            refine gw_get C 0 3 in_X11_at dX11_at_54 lk_X11_at_19 rfl rfl (by decide) rfl rfl ?_
            refine gw_iload_n C 2 dX11_at_57 rfl rfl ?_
            refine gw_ild C (v := nI (N 3 (b))) 4 0 dX11_at_58 rfl rfl (by decide) (by omega) (by first | rfl | simp [mo_up]) ?_
            refine gw_iadd C dX11_at_59 ?_
            refine gw_goto C 64 dX11_at_60 (by decide) ?_
            exact ret N dX11_at_64 rfl ⟨by rw [mo_atR, if_neg (by omega), if_pos (by omega)], rfl⟩ rfl (Nat.le_refl 0) (Nat.le_refl 0)
    ·
      refine gw_iload_n C 2 dX11_at_8 rfl rfl ?_
      refine gw_bipush C 8 dX11_at_9 (by decide) ?_
      refine gw_icmp_ge C 30 dX11_at_11 (by decide) (by omega) (by omega) (fun h21 => ?_) (fun h21 => ?_)
      ·
        refine gw_iload_n C 1 dX11_at_30 rfl rfl ?_
        refine gw_iconst C 1 dX11_at_31 (by decide) ?_
        refine gw_icmp_ne32 C 63 dX11_at_32 (by decide) (by omega) (by omega) (fun h22 => ?_) (fun h22 => ?_)
        ·
          refine gw_iconst C 4294967295 dX11_at_63 (by decide) ?_
          exact ret N dX11_at_64 rfl ⟨by rw [mo_atR, if_neg (by omega), if_neg (by omega)], rfl⟩ rfl (Nat.le_refl 0) (Nat.le_refl 0)
        ·
          refine gw_iload_n C 2 dX11_at_35 rfl rfl ?_
          refine gw_if_lt C 63 dX11_at_36 (by decide) (by omega) (fun h23 => ?_) (fun h23 => ?_)
          ·
            refine gw_iconst C 4294967295 dX11_at_63 (by decide) ?_
            exact ret N dX11_at_64 rfl ⟨by rw [mo_atR, if_neg (by omega), if_neg (by omega)], rfl⟩ rfl (Nat.le_refl 0) (Nat.le_refl 0)
          ·
            refine gw_iload_n C 2 dX11_at_39 rfl rfl ?_
            refine gw_bipush C 12 dX11_at_40 (by decide) ?_
            refine gw_icmp_ge C 63 dX11_at_42 (by decide) (by omega) (by omega) (fun h24 => ?_) (fun h24 => ?_)
            ·
              refine gw_iconst C 4294967295 dX11_at_63 (by decide) ?_
              exact ret N dX11_at_64 rfl ⟨by rw [mo_atR, if_neg (by omega), if_neg (by omega)], rfl⟩ rfl (Nat.le_refl 0) (Nat.le_refl 0)
            ·
              refine gw_iconst C 2 dX11_at_45 (by decide) ?_
              refine gw_aload_n C 0 dX11_at_46 rfl rfl ?_
              refine gw_get C 0 2 in_X11_at dX11_at_47 lk_X11_at_16 rfl rfl (by decide) rfl rfl ?_
              refine gw_iload_n C 2 dX11_at_50 rfl rfl ?_
              refine gw_ild C (v := nI (N 2 (b))) 3 0 dX11_at_51 rfl rfl (by decide) (by omega) (by first | rfl | simp [mo_up]) ?_
              refine gw_imul C dX11_at_52 ?_
              refine gw_aload_n C 0 dX11_at_53 rfl rfl ?_
              refine gw_get C 0 3 in_X11_at dX11_at_54 lk_X11_at_19 rfl rfl (by decide) rfl rfl ?_
              refine gw_iload_n C 2 dX11_at_57 rfl rfl ?_
              refine gw_ild C (v := nI (N 3 (b))) 4 0 dX11_at_58 rfl rfl (by decide) (by omega) (by first | rfl | simp [mo_up]) ?_
              refine gw_iadd C dX11_at_59 ?_
              refine gw_goto C 64 dX11_at_60 (by decide) ?_
              exact ret N dX11_at_64 rfl ⟨by rw [mo_atR, if_neg (by omega), if_pos (by omega)], rfl⟩ rfl (Nat.le_refl 0) (Nat.le_refl 0)
      ·
        refine gw_iconst C 3 dX11_at_14 (by decide) ?_
        refine gw_aload_n C 0 dX11_at_15 rfl rfl ?_
        refine gw_get C 0 0 in_X11_at dX11_at_16 lk_X11_at_7 rfl rfl (by decide) rfl rfl ?_
        refine gw_iload_n C 2 dX11_at_19 rfl rfl ?_
        refine gw_ild C (v := nI (N 0 (b))) 1 0 dX11_at_20 rfl rfl (by decide) (by omega) (by first | rfl | simp [mo_up]) ?_
        refine gw_imul C dX11_at_21 ?_
        refine gw_aload_n C 0 dX11_at_22 rfl rfl ?_
        refine gw_get C 0 1 in_X11_at dX11_at_23 lk_X11_at_13 rfl rfl (by decide) rfl rfl ?_
        refine gw_iload_n C 2 dX11_at_26 rfl rfl ?_
        refine gw_ild C (v := nI (N 1 (b))) 2 0 dX11_at_27 rfl rfl (by decide) (by omega) (by first | rfl | simp [mo_up]) ?_
        refine gw_iadd C dX11_at_28 ?_
        exact ret N dX11_at_29 rfl ⟨by rw [mo_atR, if_pos (by omega)], rfl⟩ rfl (Nat.le_refl 0) (Nat.le_refl 0)
def mo_stageR (a : Nat) (N : Nat → Nat → Nat) : Nat := if a < 1 ∨ 4 < a then 4294967295 else if N 15 0 = 0 then 0 else N 18 (a - 1)
theorem in_X11_stage : ∀ w ∈ wsX110, w ∈ wsX11_stage := fun _ h => List.mem_cons_of_mem _ (List.mem_append_right _ h)
theorem lk_X11_stage_55 : Cond.fieldLink RX11 55 "StageCubeModel" "lengths" "[I" ∈ wsX11_stage := by decide +kernel
theorem lk_X11_stage_199 : Cond.fieldLink RX11 199 "StageCubeModel" "hasWay" "Z" ∈ wsX11_stage := by decide +kernel
set_option maxHeartbeats 4000000 in
set_option maxRecDepth 100000 in
theorem c_stage (l : Launch) (D : va_G) (cI cB cS cJ cF cG : ClassId) (zz : (Nat → Prop) → State → Heap → Prop) (hz : gw_zT zz) (o : Nat) (ad : Nat → Nat) (N : Nat → Nat → Nat) (a : Nat) (ha : a < 2 ^ 32) (hw : N 15 0 < 2) : gw_CI l yX11_stage wsX11_stage 0 0 0 0 D (mo_ty cI cB cS cJ cF cG) zz (mo_ws o ad cI cB cS N) [.ref o, iN a] (fun r N' => r = nI (mo_stageR a N) ∧ N' = N) (fun N' => mo_ws o ad cI cB cS N') := by
  refine gw_CI.of (cc := cX11_stage) (maxL := 2) (rt := .int) hz (by decide) rfl (Nat.le_of_ble_eq_true rfl) ?_
  intro K C hkl hkn hkR hkD hmn ret
  have C : gw_x K cX11_stage RX11 wsX11_stage (mo_ty cI cB cS cJ cF cG) zz := C
  refine gw_iload_n C 1 dX11_stage_0 rfl rfl ?_
  refine gw_iconst C 1 dX11_stage_1 (by decide) ?_
  refine gw_icmp_lt32 C 10 dX11_stage_2 (by decide) (by omega) (by omega) (fun h => ?_) (fun h => ?_)
  ·
    refine gw_iconst C 4294967295 dX11_stage_10 (by decide) ?_
    refine gw_goto C 33 dX11_stage_11 (by decide) ?_
    exact ret N dX11_stage_33 rfl ⟨by rw [mo_stageR, if_pos (by omega)], rfl⟩ rfl (Nat.le_refl 0) (Nat.le_refl 0)
  ·
    refine gw_iload_n C 1 dX11_stage_5 rfl rfl ?_
    refine gw_iconst C 4 dX11_stage_6 (by decide) ?_
    refine gw_icmp_le C 14 dX11_stage_7 (by decide) (by omega) (by omega) (fun h25 => ?_) (fun h25 => ?_)
    ·
      refine gw_aload_n C 0 dX11_stage_14 rfl rfl ?_
      refine gw_get (v := iN (N 15 (0))) C 0 15 in_X11_stage dX11_stage_15 lk_X11_stage_199 rfl rfl (by decide) rfl (by first | rfl | simp [mo_up]) ?_
      refine gw_if_eq C 32 dX11_stage_18 (by decide) (by omega) (fun h26 => ?_) (fun h26 => ?_)
      ·
        refine gw_iconst C 0 dX11_stage_32 (by decide) ?_
        exact ret N dX11_stage_33 rfl ⟨by rw [mo_stageR, if_neg (by omega), if_pos (by omega)], rfl⟩ rfl (Nat.le_refl 0) (Nat.le_refl 0)
      ·
        refine gw_aload_n C 0 dX11_stage_21 rfl rfl ?_
        refine gw_get C 0 18 in_X11_stage dX11_stage_22 lk_X11_stage_55 rfl rfl (by decide) rfl rfl ?_
        refine gw_iload_n C 1 dX11_stage_25 rfl rfl ?_
        refine gw_iconst C 1 dX11_stage_26 (by decide) ?_
        refine gw_isub C dX11_stage_27 (by omega) ?_
        refine gw_ild C (v := nI (N 18 ((a) - (1)))) 16 0 dX11_stage_28 rfl rfl (by decide) (by omega) (by first | rfl | simp [mo_up]) ?_
        refine gw_goto C 33 dX11_stage_29 (by decide) ?_
        exact ret N dX11_stage_33 rfl ⟨by rw [mo_stageR, if_neg (by omega), if_neg (by omega)], rfl⟩ rfl (Nat.le_refl 0) (Nat.le_refl 0)
    ·
      refine gw_iconst C 4294967295 dX11_stage_10 (by decide) ?_
      refine gw_goto C 33 dX11_stage_11 (by decide) ?_
      exact ret N dX11_stage_33 rfl ⟨by rw [mo_stageR, if_pos (by omega)], rfl⟩ rfl (Nat.le_refl 0) (Nat.le_refl 0)
def mo_stepR (a : Nat) (N : Nat → Nat → Nat) : Nat := if N 15 0 ≠ 0 ∧ a < N 16 0 then N 17 a else 4294967295
theorem in_X11_step : ∀ w ∈ wsX110, w ∈ wsX11_step := fun _ h => List.mem_cons_of_mem _ (List.mem_append_right _ h)
theorem lk_X11_step_52 : Cond.fieldLink RX11 52 "StageCubeModel" "way" "[I" ∈ wsX11_step := by decide +kernel
theorem lk_X11_step_196 : Cond.fieldLink RX11 196 "StageCubeModel" "steps" "I" ∈ wsX11_step := by decide +kernel
theorem lk_X11_step_199 : Cond.fieldLink RX11 199 "StageCubeModel" "hasWay" "Z" ∈ wsX11_step := by decide +kernel
set_option maxHeartbeats 4000000 in
set_option maxRecDepth 100000 in
theorem c_step (l : Launch) (D : va_G) (cI cB cS cJ cF cG : ClassId) (zz : (Nat → Prop) → State → Heap → Prop) (hz : gw_zT zz) (o : Nat) (ad : Nat → Nat) (N : Nat → Nat → Nat) (a : Nat) (ha : a < 2 ^ 32) (hw : N 15 0 < 2) (hs : N 16 0 ≤ 100) : gw_CI l yX11_step wsX11_step 0 0 0 0 D (mo_ty cI cB cS cJ cF cG) zz (mo_ws o ad cI cB cS N) [.ref o, iN a] (fun r N' => r = nI (mo_stepR a N) ∧ N' = N) (fun N' => mo_ws o ad cI cB cS N') := by
  refine gw_CI.of (cc := cX11_step) (maxL := 2) (rt := .int) hz (by decide) rfl (Nat.le_of_ble_eq_true rfl) ?_
  intro K C hkl hkn hkR hkD hmn ret
  have C : gw_x K cX11_step RX11 wsX11_step (mo_ty cI cB cS cJ cF cG) zz := C
  refine gw_aload_n C 0 dX11_step_0 rfl rfl ?_
  refine gw_get (v := iN (N 15 (0))) C 0 15 in_X11_step dX11_step_1 lk_X11_step_199 rfl rfl (by decide) rfl (by first | rfl | simp [mo_up]) ?_
  refine gw_if_eq C 28 dX11_step_4 (by decide) (by omega) (fun h27 => ?_) (fun h27 => ?_)
  ·
    refine gw_iconst C 4294967295 dX11_step_28 (by decide) ?_
    exact ret N dX11_step_29 rfl ⟨by rw [mo_stepR, if_neg (by omega)], rfl⟩ rfl (Nat.le_refl 0) (Nat.le_refl 0)
  ·
    refine gw_iload_n C 1 dX11_step_7 rfl rfl ?_
    refine gw_if_lt32 C 28 dX11_step_8 (by decide) (by omega) (fun h28 => ?_) (fun h28 => ?_)
    ·
      refine gw_iconst C 4294967295 dX11_step_28 (by decide) ?_
      exact ret N dX11_step_29 rfl ⟨by rw [mo_stepR, if_neg (by omega)], rfl⟩ rfl (Nat.le_refl 0) (Nat.le_refl 0)
    ·
      refine gw_iload_n C 1 dX11_step_11 rfl rfl ?_
      refine gw_aload_n C 0 dX11_step_12 rfl rfl ?_
      refine gw_get (v := iN (N 16 (0))) C 0 16 in_X11_step dX11_step_13 lk_X11_step_196 rfl rfl (by decide) rfl (by first | rfl | simp [mo_up]) ?_
      refine gw_icmp_ge C 28 dX11_step_16 (by decide) (by omega) (by omega) (fun h29 => ?_) (fun h29 => ?_)
      ·
        refine gw_iconst C 4294967295 dX11_step_28 (by decide) ?_
        exact ret N dX11_step_29 rfl ⟨by rw [mo_stepR, if_neg (by omega)], rfl⟩ rfl (Nat.le_refl 0) (Nat.le_refl 0)
      ·
        refine gw_aload_n C 0 dX11_step_19 rfl rfl ?_
        refine gw_get C 0 17 in_X11_step dX11_step_20 lk_X11_step_52 rfl rfl (by decide) rfl rfl ?_
        refine gw_iload_n C 1 dX11_step_23 rfl rfl ?_
        refine gw_ild C (v := nI (N 17 (a))) 15 0 dX11_step_24 rfl rfl (by decide) (by omega) (by first | rfl | simp [mo_up]) ?_
        refine gw_goto C 29 dX11_step_25 (by decide) ?_
        exact ret N dX11_step_29 rfl ⟨by rw [mo_stepR, if_pos (by omega)], rfl⟩ rfl (Nat.le_refl 0) (Nat.le_refl 0)
def mo_ih (N : Nat → Nat → Nat) : Nat → Nat
  | 0 => 1
  | i + 1 => if mo_ih N i ≠ 0 ∧ N 2 i = i ∧ N 3 i = 0 ∧ (7 < i ∨ N 0 i = i ∧ N 1 i = 0) then 1 else 0
theorem mo_ih_2 (N : Nat → Nat → Nat) : ∀ i, mo_ih N i < 2
  | 0 => (by decide : 1 < 2)
  | i + 1 => by rw [mo_ih]; split <;> decide
theorem in_X11_isHome : ∀ w ∈ wsX110, w ∈ wsX11_isHome := fun _ h => List.mem_cons_of_mem _ (List.mem_append_right _ h)
theorem lk_X11_isHome_7 : Cond.fieldLink RX11 7 "StageCubeModel" "corners" "[I" ∈ wsX11_isHome := by decide +kernel
theorem lk_X11_isHome_13 : Cond.fieldLink RX11 13 "StageCubeModel" "twists" "[I" ∈ wsX11_isHome := by decide +kernel
theorem lk_X11_isHome_16 : Cond.fieldLink RX11 16 "StageCubeModel" "edges" "[I" ∈ wsX11_isHome := by decide +kernel
theorem lk_X11_isHome_19 : Cond.fieldLink RX11 19 "StageCubeModel" "flips" "[I" ∈ wsX11_isHome := by decide +kernel
set_option maxHeartbeats 4000000 in
set_option maxRecDepth 100000 in
theorem c_isHome (l : Launch) (D : va_G) (cI cB cS cJ cF cG : ClassId) (zz : (Nat → Prop) → State → Heap → Prop) (hz : gw_zT zz) (o : Nat) (ad : Nat → Nat) (N : Nat → Nat → Nat) (h0 : ∀ j, j < 8 → N 0 j < 8) (h1 : ∀ j, j < 8 → N 1 j < 3) (h2 : ∀ j, j < 12 → N 2 j < 12) (h3 : ∀ j, j < 12 → N 3 j < 2) : gw_CI l yX11_isHome wsX11_isHome 0 0 0 0 D (mo_ty cI cB cS cJ cF cG) zz (mo_ws o ad cI cB cS N) [.ref o] (fun r N' => r = nI (mo_ih N 12) ∧ N' = N) (fun N' => mo_ws o ad cI cB cS N') := by
  refine gw_CI.of (cc := cX11_isHome) (maxL := 3) (rt := .int) hz (by decide) rfl (Nat.le_of_ble_eq_true rfl) ?_
  intro K C hkl hkn hkR hkD hmn ret
  have C : gw_x K cX11_isHome RX11 wsX11_isHome (mo_ty cI cB cS cJ cF cG) zz := C
  refine gw_iconst C 1 dX11_isHome_0 (by decide) ?_
  refine gw_istore_n C (lv2 := [(1, iN (1)), (0, .ref (o))]) dX11_isHome_1 rfl (by omega) rfl ?_
  refine gw_iconst C 0 dX11_isHome_2 (by decide) ?_
  refine gw_istore_n C (lv2 := [(2, iN (0)), (1, iN (1)), (0, .ref (o))]) dX11_isHome_3 rfl (by omega) rfl ?_
  have lp : ∀ ni i : Nat, i + ni = 12 → gw_G K (mo_ws o ad cI cB cS (N)) 0 0 4 [(2, iN (i)), (1, iN (mo_ih N i)), (0, .ref (o))] [] := by
    intro ni
    induction ni with
    | zero =>
      intro i hii
      refine gw_iload_n C 0 dX11_isHome_4 rfl rfl ?_
      refine gw_bipush C 12 dX11_isHome_5 (by decide) ?_
      refine gw_icmp_ge C 70 dX11_isHome_7 (by decide) (by omega) (by omega) (fun h30 => ?_) (fun h30 => ?_)
      ·
        have q := mo_ih_2 N 12
        rw [show i = 12 by omega]
        refine gw_iload_n C 1 dX11_isHome_70 rfl rfl ?_
        refine gw_if_eq C 78 dX11_isHome_71 (by decide) (by omega) (fun h31 => ?_) (fun h31 => ?_)
        ·
          refine gw_iconst C 0 dX11_isHome_78 (by decide) ?_
          exact ret N dX11_isHome_79 rfl ⟨by rw [show mo_ih N 12 = 0 by omega], rfl⟩ rfl (Nat.le_refl 0) (Nat.le_refl 0)
        ·
          refine gw_iconst C 1 dX11_isHome_74 (by decide) ?_
          refine gw_goto C 79 dX11_isHome_75 (by decide) ?_
          exact ret N dX11_isHome_79 rfl ⟨by rw [show mo_ih N 12 = 1 by omega], rfl⟩ rfl (Nat.le_refl 0) (Nat.le_refl 0)
      ·
        exact absurd h30 (by omega)
    | succ ni ihi =>
      intro i hii
      refine gw_iload_n C 0 dX11_isHome_4 rfl rfl ?_
      refine gw_bipush C 12 dX11_isHome_5 (by decide) ?_
      refine gw_icmp_ge C 70 dX11_isHome_7 (by decide) (by omega) (by omega) (fun h32 => ?_) (fun h32 => ?_)
      ·
        exact absurd h32 (by omega)
      ·
        have q := mo_ih_2 N i
        have q2 := h2 i (by omega)
        have q3 := h3 i (by omega)
        have q0 : i < 8 → N 0 i < 8 := h0 i
        have q1 : i < 8 → N 1 i < 3 := h1 i
        refine gw_iload_n C 1 dX11_isHome_10 rfl rfl ?_
        refine gw_if_eq C 62 dX11_isHome_11 (by decide) (by omega) (fun h33 => ?_) (fun h33 => ?_)
        ·
          refine gw_iconst C 0 dX11_isHome_62 (by decide) ?_
          refine gw_istore_n C (lv2 := [(1, iN (0)), (2, iN (i)), (0, .ref (o))]) dX11_isHome_63 rfl (by omega) rfl ?_
          refine gw_iinc C (v := nI (i + 1)) (lv2 := [(2, iN (i + 1)), (1, iN (0)), (0, .ref (o))]) 1 dX11_isHome_64 rfl (nI_add _ _) (by omega) rfl ?_
          refine gw_goto C 4 dX11_isHome_67 (by decide) ?_
          refine gw_lv (lv2 := [(2, iN (i + 1)), (1, iN (0)), (0, .ref (o))]) [0, 1, 2] rfl ?_
          have z : mo_ih N (i + 1) = 0 := by rw [mo_ih, if_neg (by omega)]
          have k := ihi (i + 1) (by omega)
          rw [z] at k
          exact k
        ·
          refine gw_aload_n C 2 dX11_isHome_14 rfl rfl ?_
          refine gw_get C 0 2 in_X11_isHome dX11_isHome_15 lk_X11_isHome_16 rfl rfl (by decide) rfl rfl ?_
          refine gw_iload_n C 0 dX11_isHome_18 rfl rfl ?_
          refine gw_ild C (v := nI (N 2 (i))) 3 0 dX11_isHome_19 rfl rfl (by decide) (by omega) (by first | rfl | simp [mo_up]) ?_
          refine gw_iload_n C 0 dX11_isHome_20 rfl rfl ?_
          refine gw_icmp_ne C 62 dX11_isHome_21 (by decide) (by omega) (by omega) (fun h34 => ?_) (fun h34 => ?_)
          ·
            refine gw_iconst C 0 dX11_isHome_62 (by decide) ?_
            refine gw_istore_n C (lv2 := [(1, iN (0)), (2, iN (i)), (0, .ref (o))]) dX11_isHome_63 rfl (by omega) rfl ?_
            refine gw_iinc C (v := nI (i + 1)) (lv2 := [(2, iN (i + 1)), (1, iN (0)), (0, .ref (o))]) 1 dX11_isHome_64 rfl (nI_add _ _) (by omega) rfl ?_
            refine gw_goto C 4 dX11_isHome_67 (by decide) ?_
            refine gw_lv (lv2 := [(2, iN (i + 1)), (1, iN (0)), (0, .ref (o))]) [0, 1, 2] rfl ?_
            have z : mo_ih N (i + 1) = 0 := by rw [mo_ih, if_neg (by omega)]
            have k := ihi (i + 1) (by omega)
            rw [z] at k
            exact k
          ·
            refine gw_aload_n C 2 dX11_isHome_24 rfl rfl ?_
            refine gw_get C 0 3 in_X11_isHome dX11_isHome_25 lk_X11_isHome_19 rfl rfl (by decide) rfl rfl ?_
            refine gw_iload_n C 0 dX11_isHome_28 rfl rfl ?_
            refine gw_ild C (v := nI (N 3 (i))) 4 0 dX11_isHome_29 rfl rfl (by decide) (by omega) (by first | rfl | simp [mo_up]) ?_
            refine gw_if_ne C 62 dX11_isHome_30 (by decide) (by omega) (fun h35 => ?_) (fun h35 => ?_)
            ·
              refine gw_iconst C 0 dX11_isHome_62 (by decide) ?_
              refine gw_istore_n C (lv2 := [(1, iN (0)), (2, iN (i)), (0, .ref (o))]) dX11_isHome_63 rfl (by omega) rfl ?_
              refine gw_iinc C (v := nI (i + 1)) (lv2 := [(2, iN (i + 1)), (1, iN (0)), (0, .ref (o))]) 1 dX11_isHome_64 rfl (nI_add _ _) (by omega) rfl ?_
              refine gw_goto C 4 dX11_isHome_67 (by decide) ?_
              refine gw_lv (lv2 := [(2, iN (i + 1)), (1, iN (0)), (0, .ref (o))]) [0, 1, 2] rfl ?_
              have z : mo_ih N (i + 1) = 0 := by rw [mo_ih, if_neg (by omega)]
              have k := ihi (i + 1) (by omega)
              rw [z] at k
              exact k
            ·
              refine gw_iload_n C 0 dX11_isHome_33 rfl rfl ?_
              refine gw_bipush C 7 dX11_isHome_34 (by decide) ?_
              refine gw_icmp_gt C 58 dX11_isHome_36 (by decide) (by omega) (by omega) (fun h36 => ?_) (fun h36 => ?_)
              ·
                refine gw_iconst C 1 dX11_isHome_58 (by decide) ?_
                refine gw_goto C 63 dX11_isHome_59 (by decide) ?_
                refine gw_istore_n C (lv2 := [(1, iN (1)), (2, iN (i)), (0, .ref (o))]) dX11_isHome_63 rfl (by omega) rfl ?_
                refine gw_iinc C (v := nI (i + 1)) (lv2 := [(2, iN (i + 1)), (1, iN (1)), (0, .ref (o))]) 1 dX11_isHome_64 rfl (nI_add _ _) (by omega) rfl ?_
                refine gw_goto C 4 dX11_isHome_67 (by decide) ?_
                refine gw_lv (lv2 := [(2, iN (i + 1)), (1, iN (1)), (0, .ref (o))]) [0, 1, 2] rfl ?_
                have z : mo_ih N (i + 1) = 1 := by rw [mo_ih, if_pos (by omega)]
                have k := ihi (i + 1) (by omega)
                rw [z] at k
                exact k
              ·
                refine gw_aload_n C 2 dX11_isHome_39 rfl rfl ?_
                refine gw_get C 0 0 in_X11_isHome dX11_isHome_40 lk_X11_isHome_7 rfl rfl (by decide) rfl rfl ?_
                refine gw_iload_n C 0 dX11_isHome_43 rfl rfl ?_
                refine gw_ild C (v := nI (N 0 (i))) 1 0 dX11_isHome_44 rfl rfl (by decide) (by omega) (by first | rfl | simp [mo_up]) ?_
                refine gw_iload_n C 0 dX11_isHome_45 rfl rfl ?_
                refine gw_icmp_ne C 62 dX11_isHome_46 (by decide) (by omega) (by omega) (fun h37 => ?_) (fun h37 => ?_)
                ·
                  refine gw_iconst C 0 dX11_isHome_62 (by decide) ?_
                  refine gw_istore_n C (lv2 := [(1, iN (0)), (2, iN (i)), (0, .ref (o))]) dX11_isHome_63 rfl (by omega) rfl ?_
                  refine gw_iinc C (v := nI (i + 1)) (lv2 := [(2, iN (i + 1)), (1, iN (0)), (0, .ref (o))]) 1 dX11_isHome_64 rfl (nI_add _ _) (by omega) rfl ?_
                  refine gw_goto C 4 dX11_isHome_67 (by decide) ?_
                  refine gw_lv (lv2 := [(2, iN (i + 1)), (1, iN (0)), (0, .ref (o))]) [0, 1, 2] rfl ?_
                  have z : mo_ih N (i + 1) = 0 := by rw [mo_ih, if_neg (by omega)]
                  have k := ihi (i + 1) (by omega)
                  rw [z] at k
                  exact k
                ·
                  refine gw_aload_n C 2 dX11_isHome_49 rfl rfl ?_
                  refine gw_get C 0 1 in_X11_isHome dX11_isHome_50 lk_X11_isHome_13 rfl rfl (by decide) rfl rfl ?_
                  refine gw_iload_n C 0 dX11_isHome_53 rfl rfl ?_
                  refine gw_ild C (v := nI (N 1 (i))) 2 0 dX11_isHome_54 rfl rfl (by decide) (by omega) (by first | rfl | simp [mo_up]) ?_
                  refine gw_if_ne C 62 dX11_isHome_55 (by decide) (by omega) (fun h38 => ?_) (fun h38 => ?_)
                  ·
                    refine gw_iconst C 0 dX11_isHome_62 (by decide) ?_
                    refine gw_istore_n C (lv2 := [(1, iN (0)), (2, iN (i)), (0, .ref (o))]) dX11_isHome_63 rfl (by omega) rfl ?_
                    refine gw_iinc C (v := nI (i + 1)) (lv2 := [(2, iN (i + 1)), (1, iN (0)), (0, .ref (o))]) 1 dX11_isHome_64 rfl (nI_add _ _) (by omega) rfl ?_
                    refine gw_goto C 4 dX11_isHome_67 (by decide) ?_
                    refine gw_lv (lv2 := [(2, iN (i + 1)), (1, iN (0)), (0, .ref (o))]) [0, 1, 2] rfl ?_
                    have z : mo_ih N (i + 1) = 0 := by rw [mo_ih, if_neg (by omega)]
                    have k := ihi (i + 1) (by omega)
                    rw [z] at k
                    exact k
                  ·
                    refine gw_iconst C 1 dX11_isHome_58 (by decide) ?_
                    refine gw_goto C 63 dX11_isHome_59 (by decide) ?_
                    refine gw_istore_n C (lv2 := [(1, iN (1)), (2, iN (i)), (0, .ref (o))]) dX11_isHome_63 rfl (by omega) rfl ?_
                    refine gw_iinc C (v := nI (i + 1)) (lv2 := [(2, iN (i + 1)), (1, iN (1)), (0, .ref (o))]) 1 dX11_isHome_64 rfl (nI_add _ _) (by omega) rfl ?_
                    refine gw_goto C 4 dX11_isHome_67 (by decide) ?_
                    refine gw_lv (lv2 := [(2, iN (i + 1)), (1, iN (1)), (0, .ref (o))]) [0, 1, 2] rfl ?_
                    have z : mo_ih N (i + 1) = 1 := by rw [mo_ih, if_pos (by omega)]
                    have k := ihi (i + 1) (by omega)
                    rw [z] at k
                    exact k
  refine gw_lv (lv2 := [(2, iN (0)), (1, iN (1)), (0, .ref (o))]) [0, 1, 2] rfl ?_
  exact lp (12 - 0) 0 (by omega)
def mo_may (st t : Nat) : Nat := if st = 0 ∨ t % 3 = 1 ∨ (st = 1 ∧ t / 3 < 4) ∨ (st = 2 ∧ t / 3 < 2) then 1 else 0
set_option maxHeartbeats 4000000 in
set_option maxRecDepth 100000 in
theorem c_may (l : Launch) (D : va_G) (tys : List (ClassId × FieldType)) (zz : (Nat → Prop) → State → Heap → Prop) (hz : gw_zT zz) (w0 : va_W) (st t : Nat) (hs : st < 4) (ht : t < 18) : gw_CI l yX11_may wsX11_may 0 0 0 0 D tys zz w0 [iN st, iN t] (fun r _ => r = nI (mo_may st t)) (fun _ : Unit => w0) := by
  refine gw_CI.of (cc := cX11_may) (maxL := 4) (rt := .boolean) hz (by decide) rfl (Nat.le_of_ble_eq_true rfl) ?_
  intro K C hkl hkn hkR hkD hmn ret
  have C : gw_x K cX11_may RX11 wsX11_may tys zz := C
  refine gw_iload_n C 1 dX11_may_0 rfl rfl ?_
  refine gw_iconst C 3 dX11_may_1 (by decide) ?_
  refine gw_irem C dX11_may_2 (by omega) (by omega) (by omega) ?_
  refine gw_iconst C 1 dX11_may_3 (by decide) ?_
  refine gw_icmp_ne C 11 dX11_may_4 (by decide) (by omega) (by omega) (fun h39 => ?_) (fun h39 => ?_)
  ·
    refine gw_iconst C 0 dX11_may_11 (by decide) ?_
    refine gw_istore_n C (lv2 := [(2, iN (0)), (0, iN (st)), (1, iN (t))]) dX11_may_12 rfl (by omega) rfl ?_
    refine gw_iload_n C 2 dX11_may_13 rfl rfl ?_
    refine gw_iconst C 3 dX11_may_14 (by decide) ?_
    refine gw_idiv C dX11_may_15 (by omega) (by omega) (by omega) ?_
    refine gw_istore_n C (lv2 := [(3, iN ((t) / (3))), (2, iN (0)), (0, iN (st)), (1, iN (t))]) dX11_may_16 rfl (by omega) rfl ?_
    refine gw_iload_n C 2 dX11_may_17 rfl rfl ?_
    refine gw_if_eq C 45 dX11_may_18 (by decide) (by omega) (fun h40 => ?_) (fun h40 => ?_)
    ·
      refine gw_iconst C 1 dX11_may_45 (by decide) ?_
      refine gw_goto C 50 dX11_may_46 (by decide) ?_
      exact ret () dX11_may_50 rfl (by rw [mo_may, if_pos (by omega)]) rfl (Nat.le_refl 0) (Nat.le_refl 0)
    ·
      refine gw_iload_n C 1 dX11_may_21 rfl rfl ?_
      refine gw_if_ne C 45 dX11_may_22 (by decide) (by omega) (fun h41 => ?_) (fun h41 => ?_)
      ·
        refine gw_iconst C 1 dX11_may_45 (by decide) ?_
        refine gw_goto C 50 dX11_may_46 (by decide) ?_
        exact ret () dX11_may_50 rfl (by rw [mo_may, if_pos (by omega)]) rfl (Nat.le_refl 0) (Nat.le_refl 0)
      ·
        refine gw_iload_n C 2 dX11_may_25 rfl rfl ?_
        refine gw_iconst C 1 dX11_may_26 (by decide) ?_
        refine gw_icmp_ne C 35 dX11_may_27 (by decide) (by omega) (by omega) (fun h42 => ?_) (fun h42 => ?_)
        ·
          refine gw_iload_n C 2 dX11_may_35 rfl rfl ?_
          refine gw_iconst C 2 dX11_may_36 (by decide) ?_
          refine gw_icmp_ne C 49 dX11_may_37 (by decide) (by omega) (by omega) (fun h43 => ?_) (fun h43 => ?_)
          ·
            refine gw_iconst C 0 dX11_may_49 (by decide) ?_
            exact ret () dX11_may_50 rfl (by rw [mo_may, if_neg (by omega)]) rfl (Nat.le_refl 0) (Nat.le_refl 0)
          ·
            refine gw_iload_n C 0 dX11_may_40 rfl rfl ?_
            refine gw_iconst C 2 dX11_may_41 (by decide) ?_
            refine gw_icmp_ge C 49 dX11_may_42 (by decide) (by omega) (by omega) (fun h44 => ?_) (fun h44 => ?_)
            ·
              refine gw_iconst C 0 dX11_may_49 (by decide) ?_
              exact ret () dX11_may_50 rfl (by rw [mo_may, if_neg (by omega)]) rfl (Nat.le_refl 0) (Nat.le_refl 0)
            ·
              refine gw_iconst C 1 dX11_may_45 (by decide) ?_
              refine gw_goto C 50 dX11_may_46 (by decide) ?_
              exact ret () dX11_may_50 rfl (by rw [mo_may, if_pos (by omega)]) rfl (Nat.le_refl 0) (Nat.le_refl 0)
        ·
          refine gw_iload_n C 0 dX11_may_30 rfl rfl ?_
          refine gw_iconst C 4 dX11_may_31 (by decide) ?_
          refine gw_icmp_lt C 45 dX11_may_32 (by decide) (by omega) (by omega) (fun h45 => ?_) (fun h45 => ?_)
          ·
            refine gw_iconst C 1 dX11_may_45 (by decide) ?_
            refine gw_goto C 50 dX11_may_46 (by decide) ?_
            exact ret () dX11_may_50 rfl (by rw [mo_may, if_pos (by omega)]) rfl (Nat.le_refl 0) (Nat.le_refl 0)
          ·
            refine gw_iload_n C 2 dX11_may_35 rfl rfl ?_
            refine gw_iconst C 2 dX11_may_36 (by decide) ?_
            refine gw_icmp_ne C 49 dX11_may_37 (by decide) (by omega) (by omega) (fun h46 => ?_) (fun h46 => ?_)
            ·
              refine gw_iconst C 0 dX11_may_49 (by decide) ?_
              exact ret () dX11_may_50 rfl (by rw [mo_may, if_neg (by omega)]) rfl (Nat.le_refl 0) (Nat.le_refl 0)
            ·
              refine gw_iload_n C 0 dX11_may_40 rfl rfl ?_
              refine gw_iconst C 2 dX11_may_41 (by decide) ?_
              refine gw_icmp_ge C 49 dX11_may_42 (by decide) (by omega) (by omega) (fun h47 => ?_) (fun h47 => ?_)
              ·
                refine gw_iconst C 0 dX11_may_49 (by decide) ?_
                exact ret () dX11_may_50 rfl (by rw [mo_may, if_neg (by omega)]) rfl (Nat.le_refl 0) (Nat.le_refl 0)
              ·
                refine gw_iconst C 1 dX11_may_45 (by decide) ?_
                refine gw_goto C 50 dX11_may_46 (by decide) ?_
                exact ret () dX11_may_50 rfl (by rw [mo_may, if_pos (by omega)]) rfl (Nat.le_refl 0) (Nat.le_refl 0)
  ·
    refine gw_iconst C 1 dX11_may_7 (by decide) ?_
    refine gw_goto C 12 dX11_may_8 (by decide) ?_
    refine gw_istore_n C (lv2 := [(2, iN (1)), (0, iN (st)), (1, iN (t))]) dX11_may_12 rfl (by omega) rfl ?_
    refine gw_iload_n C 2 dX11_may_13 rfl rfl ?_
    refine gw_iconst C 3 dX11_may_14 (by decide) ?_
    refine gw_idiv C dX11_may_15 (by omega) (by omega) (by omega) ?_
    refine gw_istore_n C (lv2 := [(3, iN ((t) / (3))), (2, iN (1)), (0, iN (st)), (1, iN (t))]) dX11_may_16 rfl (by omega) rfl ?_
    refine gw_iload_n C 2 dX11_may_17 rfl rfl ?_
    refine gw_if_eq C 45 dX11_may_18 (by decide) (by omega) (fun h48 => ?_) (fun h48 => ?_)
    ·
      refine gw_iconst C 1 dX11_may_45 (by decide) ?_
      refine gw_goto C 50 dX11_may_46 (by decide) ?_
      exact ret () dX11_may_50 rfl (by rw [mo_may, if_pos (by omega)]) rfl (Nat.le_refl 0) (Nat.le_refl 0)
    ·
      refine gw_iload_n C 1 dX11_may_21 rfl rfl ?_
      refine gw_if_ne C 45 dX11_may_22 (by decide) (by omega) (fun h49 => ?_) (fun h49 => ?_)
      ·
        refine gw_iconst C 1 dX11_may_45 (by decide) ?_
        refine gw_goto C 50 dX11_may_46 (by decide) ?_
        exact ret () dX11_may_50 rfl (by rw [mo_may, if_pos (by omega)]) rfl (Nat.le_refl 0) (Nat.le_refl 0)
      ·
        refine gw_iload_n C 2 dX11_may_25 rfl rfl ?_
        refine gw_iconst C 1 dX11_may_26 (by decide) ?_
        refine gw_icmp_ne C 35 dX11_may_27 (by decide) (by omega) (by omega) (fun h50 => ?_) (fun h50 => ?_)
        ·
          refine gw_iload_n C 2 dX11_may_35 rfl rfl ?_
          refine gw_iconst C 2 dX11_may_36 (by decide) ?_
          refine gw_icmp_ne C 49 dX11_may_37 (by decide) (by omega) (by omega) (fun h51 => ?_) (fun h51 => ?_)
          ·
            refine gw_iconst C 0 dX11_may_49 (by decide) ?_
            exact ret () dX11_may_50 rfl (by rw [mo_may, if_neg (by omega)]) rfl (Nat.le_refl 0) (Nat.le_refl 0)
          ·
            refine gw_iload_n C 0 dX11_may_40 rfl rfl ?_
            refine gw_iconst C 2 dX11_may_41 (by decide) ?_
            refine gw_icmp_ge C 49 dX11_may_42 (by decide) (by omega) (by omega) (fun h52 => ?_) (fun h52 => ?_)
            ·
              refine gw_iconst C 0 dX11_may_49 (by decide) ?_
              exact ret () dX11_may_50 rfl (by rw [mo_may, if_neg (by omega)]) rfl (Nat.le_refl 0) (Nat.le_refl 0)
            ·
              refine gw_iconst C 1 dX11_may_45 (by decide) ?_
              refine gw_goto C 50 dX11_may_46 (by decide) ?_
              exact ret () dX11_may_50 rfl (by rw [mo_may, if_pos (by omega)]) rfl (Nat.le_refl 0) (Nat.le_refl 0)
        ·
          refine gw_iload_n C 0 dX11_may_30 rfl rfl ?_
          refine gw_iconst C 4 dX11_may_31 (by decide) ?_
          refine gw_icmp_lt C 45 dX11_may_32 (by decide) (by omega) (by omega) (fun h53 => ?_) (fun h53 => ?_)
          ·
            refine gw_iconst C 1 dX11_may_45 (by decide) ?_
            refine gw_goto C 50 dX11_may_46 (by decide) ?_
            exact ret () dX11_may_50 rfl (by rw [mo_may, if_pos (by omega)]) rfl (Nat.le_refl 0) (Nat.le_refl 0)
          ·
            refine gw_iload_n C 2 dX11_may_35 rfl rfl ?_
            refine gw_iconst C 2 dX11_may_36 (by decide) ?_
            refine gw_icmp_ne C 49 dX11_may_37 (by decide) (by omega) (by omega) (fun h54 => ?_) (fun h54 => ?_)
            ·
              refine gw_iconst C 0 dX11_may_49 (by decide) ?_
              exact ret () dX11_may_50 rfl (by rw [mo_may, if_neg (by omega)]) rfl (Nat.le_refl 0) (Nat.le_refl 0)
            ·
              refine gw_iload_n C 0 dX11_may_40 rfl rfl ?_
              refine gw_iconst C 2 dX11_may_41 (by decide) ?_
              refine gw_icmp_ge C 49 dX11_may_42 (by decide) (by omega) (by omega) (fun h55 => ?_) (fun h55 => ?_)
              ·
                refine gw_iconst C 0 dX11_may_49 (by decide) ?_
                exact ret () dX11_may_50 rfl (by rw [mo_may, if_neg (by omega)]) rfl (Nat.le_refl 0) (Nat.le_refl 0)
              ·
                refine gw_iconst C 1 dX11_may_45 (by decide) ?_
                refine gw_goto C 50 dX11_may_46 (by decide) ?_
                exact ret () dX11_may_50 rfl (by rw [mo_may, if_pos (by omega)]) rfl (Nat.le_refl 0) (Nat.le_refl 0)
def mo_low (a b : Nat) : Nat := if a < b then a else b
def mo_btw (a b : Nat) : Nat := if a ^^^ b = 1 then 2 * (mo_low a b / 2 ^ 2) + (mo_low a b / 2 ^ 1 &&& 1) else if a ^^^ b = 2 then 4 + 2 * (mo_low a b / 2 ^ 2) + (mo_low a b &&& 1) else 8 + 2 * (mo_low a b / 2 ^ 1 &&& 1) + (mo_low a b &&& 1)
set_option maxHeartbeats 4000000 in
set_option maxRecDepth 100000 in
theorem c_between (l : Launch) (D : va_G) (tys : List (ClassId × FieldType)) (zz : (Nat → Prop) → State → Heap → Prop) (hz : gw_zT zz) (w0 : va_W) (a b : Nat) (ha : a < 8) (hb : b < 8) : gw_CI l yX11_between wsX11_between 0 0 0 0 D tys zz w0 [iN a, iN b] (fun r _ => r = nI (mo_btw a b)) (fun _ : Unit => w0) := by
  refine gw_CI.of (cc := cX11_between) (maxL := 7) (rt := .int) hz (by decide) rfl (Nat.le_of_ble_eq_true rfl) ?_
  intro K C hkl hkn hkR hkD hmn ret
  have C : gw_x K cX11_between RX11 wsX11_between tys zz := C
  have hx : a ^^^ b < 2 ^ 31 := Nat.xor_lt_two_pow (by omega) (by omega)
  refine gw_iload_n C 0 dX11_between_0 rfl rfl ?_
  refine gw_iload_n C 1 dX11_between_1 rfl rfl ?_
  refine gw_icmp_ge C 9 dX11_between_2 (by decide) (by omega) (by omega) (fun h56 => ?_) (fun h56 => ?_)
  ·
    refine gw_iload_n C 1 dX11_between_9 rfl rfl ?_
    refine gw_istore_n C (lv2 := [(2, iN (b)), (0, iN (a)), (1, iN (b))]) dX11_between_10 rfl (by omega) rfl ?_
    have hlow : mo_low a b = b := by rw [mo_low, if_neg (by omega)]
    refine gw_iload_n C 0 dX11_between_11 rfl rfl ?_
    refine gw_iconst C 1 dX11_between_12 (by decide) ?_
    refine gw_iand C dX11_between_13 ?_
    refine gw_istore_n C (lv2 := [(3, iN ((b) &&& (1))), (2, iN (b)), (0, iN (a)), (1, iN (b))]) dX11_between_14 rfl (by omega) rfl ?_
    refine gw_iload_n C 1 dX11_between_15 rfl rfl ?_
    refine gw_iconst C 1 dX11_between_16 (by decide) ?_
    refine gw_ishr C dX11_between_17 (by omega) (by omega) ?_
    refine gw_iconst C 1 dX11_between_18 (by decide) ?_
    refine gw_iand C dX11_between_19 ?_
    refine gw_istore C (lv2 := [(4, iN (((b) / 2 ^ (1)) &&& (1))), (3, iN ((b) &&& (1))), (2, iN (b)), (0, iN (a)), (1, iN (b))]) dX11_between_20 (by omega) rfl ?_
    refine gw_iload_n C 2 dX11_between_22 rfl rfl ?_
    refine gw_iconst C 2 dX11_between_23 (by decide) ?_
    refine gw_ishr C dX11_between_24 (by omega) (by omega) ?_
    refine gw_istore C (lv2 := [(5, iN ((b) / 2 ^ (2))), (4, iN (((b) / 2 ^ (1)) &&& (1))), (3, iN ((b) &&& (1))), (2, iN (b)), (0, iN (a)), (1, iN (b))]) dX11_between_25 (by omega) rfl ?_
    refine gw_iload_n C 4 dX11_between_27 rfl rfl ?_
    refine gw_iload_n C 5 dX11_between_28 rfl rfl ?_
    refine gw_ixor C dX11_between_29 ?_
    refine gw_istore C (lv2 := [(6, iN ((a) ^^^ (b))), (5, iN ((b) / 2 ^ (2))), (4, iN (((b) / 2 ^ (1)) &&& (1))), (3, iN ((b) &&& (1))), (2, iN (b)), (0, iN (a)), (1, iN (b))]) dX11_between_30 (by omega) rfl ?_
    refine gw_iload C 0 dX11_between_32 rfl ?_
    refine gw_iconst C 1 dX11_between_34 (by decide) ?_
    refine gw_icmp_ne C 48 dX11_between_35 (by decide) (by omega) (by omega) (fun h57 => ?_) (fun h57 => ?_)
    ·
      refine gw_iload C 0 dX11_between_48 rfl ?_
      refine gw_iconst C 2 dX11_between_50 (by decide) ?_
      refine gw_icmp_ne C 65 dX11_between_51 (by decide) (by omega) (by omega) (fun h58 => ?_) (fun h58 => ?_)
      ·
        refine gw_bipush C 8 dX11_between_65 (by decide) ?_
        refine gw_iconst C 2 dX11_between_67 (by decide) ?_
        refine gw_iload C 2 dX11_between_68 rfl ?_
        refine gw_imul C dX11_between_70 ?_
        refine gw_iadd C dX11_between_71 ?_
        refine gw_iload_n C 3 dX11_between_72 rfl rfl ?_
        refine gw_iadd C dX11_between_73 ?_
        exact ret () dX11_between_74 rfl (by rw [mo_btw, hlow]; first | rw [if_pos (by assumption)] | rw [if_neg (by assumption), if_pos (by assumption)] | rw [if_neg (by assumption), if_neg (by assumption)]) rfl (Nat.le_refl 0) (Nat.le_refl 0)
      ·
        refine gw_iconst C 4 dX11_between_54 (by decide) ?_
        refine gw_iconst C 2 dX11_between_55 (by decide) ?_
        refine gw_iload C 1 dX11_between_56 rfl ?_
        refine gw_imul C dX11_between_58 ?_
        refine gw_iadd C dX11_between_59 ?_
        refine gw_iload_n C 3 dX11_between_60 rfl rfl ?_
        refine gw_iadd C dX11_between_61 ?_
        refine gw_goto C 74 dX11_between_62 (by decide) ?_
        exact ret () dX11_between_74 rfl (by rw [mo_btw, hlow]; first | rw [if_pos (by assumption)] | rw [if_neg (by assumption), if_pos (by assumption)] | rw [if_neg (by assumption), if_neg (by assumption)]) rfl (Nat.le_refl 0) (Nat.le_refl 0)
    ·
      refine gw_iconst C 2 dX11_between_38 (by decide) ?_
      refine gw_iload C 1 dX11_between_39 rfl ?_
      refine gw_imul C dX11_between_41 ?_
      refine gw_iload C 2 dX11_between_42 rfl ?_
      refine gw_iadd C dX11_between_44 ?_
      refine gw_goto C 74 dX11_between_45 (by decide) ?_
      exact ret () dX11_between_74 rfl (by rw [mo_btw, hlow]; first | rw [if_pos (by assumption)] | rw [if_neg (by assumption), if_pos (by assumption)] | rw [if_neg (by assumption), if_neg (by assumption)]) rfl (Nat.le_refl 0) (Nat.le_refl 0)
  ·
    refine gw_iload_n C 0 dX11_between_5 rfl rfl ?_
    refine gw_goto C 10 dX11_between_6 (by decide) ?_
    refine gw_istore_n C (lv2 := [(2, iN (a)), (0, iN (a)), (1, iN (b))]) dX11_between_10 rfl (by omega) rfl ?_
    have hlow : mo_low a b = a := by rw [mo_low, if_pos (by omega)]
    refine gw_iload_n C 0 dX11_between_11 rfl rfl ?_
    refine gw_iconst C 1 dX11_between_12 (by decide) ?_
    refine gw_iand C dX11_between_13 ?_
    refine gw_istore_n C (lv2 := [(3, iN ((a) &&& (1))), (2, iN (a)), (0, iN (a)), (1, iN (b))]) dX11_between_14 rfl (by omega) rfl ?_
    refine gw_iload_n C 1 dX11_between_15 rfl rfl ?_
    refine gw_iconst C 1 dX11_between_16 (by decide) ?_
    refine gw_ishr C dX11_between_17 (by omega) (by omega) ?_
    refine gw_iconst C 1 dX11_between_18 (by decide) ?_
    refine gw_iand C dX11_between_19 ?_
    refine gw_istore C (lv2 := [(4, iN (((a) / 2 ^ (1)) &&& (1))), (3, iN ((a) &&& (1))), (2, iN (a)), (0, iN (a)), (1, iN (b))]) dX11_between_20 (by omega) rfl ?_
    refine gw_iload_n C 2 dX11_between_22 rfl rfl ?_
    refine gw_iconst C 2 dX11_between_23 (by decide) ?_
    refine gw_ishr C dX11_between_24 (by omega) (by omega) ?_
    refine gw_istore C (lv2 := [(5, iN ((a) / 2 ^ (2))), (4, iN (((a) / 2 ^ (1)) &&& (1))), (3, iN ((a) &&& (1))), (2, iN (a)), (0, iN (a)), (1, iN (b))]) dX11_between_25 (by omega) rfl ?_
    refine gw_iload_n C 4 dX11_between_27 rfl rfl ?_
    refine gw_iload_n C 5 dX11_between_28 rfl rfl ?_
    refine gw_ixor C dX11_between_29 ?_
    refine gw_istore C (lv2 := [(6, iN ((a) ^^^ (b))), (5, iN ((a) / 2 ^ (2))), (4, iN (((a) / 2 ^ (1)) &&& (1))), (3, iN ((a) &&& (1))), (2, iN (a)), (0, iN (a)), (1, iN (b))]) dX11_between_30 (by omega) rfl ?_
    refine gw_iload C 0 dX11_between_32 rfl ?_
    refine gw_iconst C 1 dX11_between_34 (by decide) ?_
    refine gw_icmp_ne C 48 dX11_between_35 (by decide) (by omega) (by omega) (fun h59 => ?_) (fun h59 => ?_)
    ·
      refine gw_iload C 0 dX11_between_48 rfl ?_
      refine gw_iconst C 2 dX11_between_50 (by decide) ?_
      refine gw_icmp_ne C 65 dX11_between_51 (by decide) (by omega) (by omega) (fun h60 => ?_) (fun h60 => ?_)
      ·
        refine gw_bipush C 8 dX11_between_65 (by decide) ?_
        refine gw_iconst C 2 dX11_between_67 (by decide) ?_
        refine gw_iload C 2 dX11_between_68 rfl ?_
        refine gw_imul C dX11_between_70 ?_
        refine gw_iadd C dX11_between_71 ?_
        refine gw_iload_n C 3 dX11_between_72 rfl rfl ?_
        refine gw_iadd C dX11_between_73 ?_
        exact ret () dX11_between_74 rfl (by rw [mo_btw, hlow]; first | rw [if_pos (by assumption)] | rw [if_neg (by assumption), if_pos (by assumption)] | rw [if_neg (by assumption), if_neg (by assumption)]) rfl (Nat.le_refl 0) (Nat.le_refl 0)
      ·
        refine gw_iconst C 4 dX11_between_54 (by decide) ?_
        refine gw_iconst C 2 dX11_between_55 (by decide) ?_
        refine gw_iload C 1 dX11_between_56 rfl ?_
        refine gw_imul C dX11_between_58 ?_
        refine gw_iadd C dX11_between_59 ?_
        refine gw_iload_n C 3 dX11_between_60 rfl rfl ?_
        refine gw_iadd C dX11_between_61 ?_
        refine gw_goto C 74 dX11_between_62 (by decide) ?_
        exact ret () dX11_between_74 rfl (by rw [mo_btw, hlow]; first | rw [if_pos (by assumption)] | rw [if_neg (by assumption), if_pos (by assumption)] | rw [if_neg (by assumption), if_neg (by assumption)]) rfl (Nat.le_refl 0) (Nat.le_refl 0)
    ·
      refine gw_iconst C 2 dX11_between_38 (by decide) ?_
      refine gw_iload C 1 dX11_between_39 rfl ?_
      refine gw_imul C dX11_between_41 ?_
      refine gw_iload C 2 dX11_between_42 rfl ?_
      refine gw_iadd C dX11_between_44 ?_
      refine gw_goto C 74 dX11_between_45 (by decide) ?_
      exact ret () dX11_between_74 rfl (by rw [mo_btw, hlow]; first | rw [if_pos (by assumption)] | rw [if_neg (by assumption), if_pos (by assumption)] | rw [if_neg (by assumption), if_neg (by assumption)]) rfl (Nat.le_refl 0) (Nat.le_refl 0)
end
section
theorem gw_p2 {x : Nat} (h : x < 32) : 1 * 2 ^ x < 2 ^ 32 := by rw [Nat.one_mul]; exact Nat.pow_lt_pow_right (by decide) h
theorem gw_shl1 {x p : Nat} (h : p < 32) : (x &&& 1) * 2 ^ p < 2 ^ 32 := by
  have h1 : x &&& 1 ≤ 1 := Nat.and_le_right
  have h2 : 2 ^ p < 2 ^ 32 := Nat.pow_lt_pow_right (by decide) h
  calc (x &&& 1) * 2 ^ p ≤ 1 * 2 ^ p := Nat.mul_le_mul_right _ h1
    _ = 2 ^ p := Nat.one_mul _
    _ < 2 ^ 32 := h2
/-- a counter that goes down to -1 -/
def mo_dn (n t : Nat) : Nat := if t < n then n - 1 - t else 4294967295
theorem mo_dn_lt {n t : Nat} (h : t < n) : mo_dn n t = n - 1 - t := if_pos h
theorem mo_dn_ge {n t : Nat} (h : ¬ t < n) : mo_dn n t = 4294967295 := if_neg h
theorem mo_dn_dec {n t : Nat} (h : t < n) : nI (n - 1 - t) + Int32.ofInt (-1) = nI (mo_dn n (t + 1)) := by
  by_cases q : t + 1 < n
  · rw [mo_dn_lt q, gw_dec1 (by omega)]
    congr 1
  · rw [show n - 1 - t = 0 by omega, mo_dn, if_neg q]
    decide
theorem mo_dn_32 {n t : Nat} (h : n < 100) : mo_dn n t < 2 ^ 32 := by
  rw [mo_dn]; split <;> omega
/-- turnRow -/
def mo_r1 : Nat → (Nat → Nat → Nat) → Nat → Nat → Nat
  | 0, N => N
  | p + 1, N => mo_up (mo_r1 p N) 37 p (mo_r1 p N 36 p)
def mo_r2 (t : Nat) : Nat → (Nat → Nat → Nat) → Nat → Nat → Nat
  | 0, N => N
  | p + 1, N => mo_up (mo_r2 t p N) 36 p (mo_r2 t p N 37 (mo_r2 t p N 10 (8 * t + p)))
def mo_trow (t : Nat) (N : Nat → Nat → Nat) : Nat → Nat → Nat := mo_r2 t 8 (mo_r1 8 N)
theorem mo_r1_k {k : Nat} (h : k ≠ 37) (N : Nat → Nat → Nat) : ∀ p, mo_r1 p N k = N k := by
  intro p
  induction p with
  | zero => rfl
  | succ p ih => funext j; simp [mo_r1, mo_up, h, ih]
theorem mo_r2_k {k t : Nat} (h : k ≠ 36) (N : Nat → Nat → Nat) : ∀ p, mo_r2 t p N k = N k := by
  intro p
  induction p with
  | zero => rfl
  | succ p ih => funext j; simp [mo_r2, mo_up, h, ih]
/-- rank -/
def mo_ls (f : Nat → Nat) (k : Nat) : Nat → Nat
  | 0 => 0
  | t + 1 => mo_ls f k t + (if f (k + 1 + t) < f k then 1 else 0)
def mo_rk (f : Nat → Nat) (n : Nat) : Nat → Nat
  | 0 => 0
  | k + 1 => mo_rk f n k * (n - k) + mo_ls f k (n - (k + 1))
/-- unrank -/
def mo_ul (r : Nat) : Nat → Nat
  | 0 => r
  | t + 1 => mo_ul r t / (t + 1)
def mo_u1 (n r : Nat) : Nat → (Nat → Nat → Nat) → Nat → Nat → Nat
  | 0, N => N
  | t + 1, N => mo_up (mo_u1 n r t N) 36 (n - 1 - t) (mo_ul r t % (t + 1))
def mo_u2i (k : Nat) : Nat → (Nat → Nat → Nat) → Nat → Nat → Nat
  | 0, N => N
  | s + 1, N => mo_up (mo_u2i k s N) 36 (k + 1 + s) (mo_u2i k s N 36 (k + 1 + s) + (if mo_u2i k s N 36 (k + 1 + s) < mo_u2i k s N 36 k then 0 else 1))
def mo_u2 (n : Nat) : Nat → (Nat → Nat → Nat) → Nat → Nat → Nat
  | 0, N => N
  | t + 1, N => mo_u2i (n - 1 - 1 - t) (t + 1) (mo_u2 n t N)
def mo_unr (n r : Nat) (N : Nat → Nat → Nat) : Nat → Nat → Nat := mo_u2 n (n - 1) (mo_u1 n r n N)
theorem mo_ul_le (r : Nat) : ∀ t, mo_ul r t ≤ r
  | 0 => Nat.le_refl _
  | t + 1 => Nat.le_trans (Nat.div_le_self _ _) (mo_ul_le r t)
theorem mo_u1_b (n r : Nat) (N : Nat → Nat → Nat) : ∀ t, t ≤ n → ∀ j, n - t ≤ j → j < n → mo_u1 n r t N 36 j < n := by
  intro t
  induction t with
  | zero => intro _ j h1 h2; omega
  | succ t ih =>
    intro ht j h1 h2
    rw [mo_u1]
    by_cases e : j = n - 1 - t
    · subst e
      have := Nat.mod_lt (mo_ul r t) (show 0 < t + 1 by omega)
      simp [mo_up]
      omega
    · simp [mo_up, e]
      exact ih (by omega) j (by omega) h2
theorem mo_u2i_le (k : Nat) (N : Nat → Nat → Nat) : ∀ s j, mo_u2i k s N 36 j ≤ N 36 j + (if j < k + 1 + s then 1 else 0) := by
  intro s
  induction s with
  | zero => intro j; rw [mo_u2i]; omega
  | succ s ih =>
    intro j
    rw [mo_u2i]
    by_cases e : j = k + 1 + s
    · subst e
      have := ih (k + 1 + s)
      simp only [mo_up, if_true]
      rw [if_neg (by omega)] at this
      rw [show (if k + 1 + s < k + 1 + (s + 1) then 1 else 0) = 1 from if_pos (by omega)]
      split <;> omega
    · have := ih j
      simp only [mo_up, if_true, if_neg e]
      split at this <;> split <;> omega
theorem mo_u2_le (n : Nat) (N : Nat → Nat → Nat) : ∀ t j, mo_u2 n t N 36 j ≤ N 36 j + t := by
  intro t
  induction t with
  | zero => intro j; exact Nat.le_refl _
  | succ t ih =>
    intro j
    rw [mo_u2]
    have h1 := mo_u2i_le (n - 1 - 1 - t) (mo_u2 n t N) (t + 1) j
    have h2 := ih j
    split at h1 <;> omega
theorem in_X11_turnRow : ∀ w ∈ wsX110, w ∈ wsX11_turnRow := fun _ h => List.mem_cons_of_mem _ (List.mem_append_right _ h)
theorem lk_X11_turnRow_40 : Cond.fieldLink RX11 40 "StageCubeModel" "cornerFrom" "[I" ∈ wsX11_turnRow := by decide +kernel
theorem lk_X11_turnRow_112 : Cond.fieldLink RX11 112 "StageCubeModel" "row" "[I" ∈ wsX11_turnRow := by decide +kernel
theorem lk_X11_turnRow_115 : Cond.fieldLink RX11 115 "StageCubeModel" "other" "[I" ∈ wsX11_turnRow := by decide +kernel
set_option maxHeartbeats 4000000 in
set_option maxRecDepth 100000 in
theorem c_turnRow (l : Launch) (D : va_G) (cI cB cS cJ cF cG : ClassId) (zz : (Nat → Prop) → State → Heap → Prop) (hz : gw_zT zz) (o : Nat) (ad : Nat → Nat) (N : Nat → Nat → Nat) (t : Nat) (ht : t < 18) (hf : ∀ j, j < 144 → N 10 j < 8) : gw_CV l yX11_turnRow wsX11_turnRow 0 0 0 0 D (mo_ty cI cB cS cJ cF cG) zz (mo_ws o ad cI cB cS N) [.ref o, iN t] (fun N' => N' = mo_trow t N) (fun N' => mo_ws o ad cI cB cS N') := by
  refine gw_CV.of (cc := cX11_turnRow) (maxL := 3) hz (by decide) rfl (Nat.le_of_ble_eq_true rfl) ?_
  intro K C hkl hkn hkR hkD hmn ret
  have C : gw_x K cX11_turnRow RX11 wsX11_turnRow (mo_ty cI cB cS cJ cF cG) zz := C
  refine gw_iconst C 0 dX11_turnRow_0 (by decide) ?_
  refine gw_istore_n C (lv2 := [(2, iN (0)), (0, .ref (o)), (1, iN (t))]) dX11_turnRow_1 rfl (by omega) rfl ?_
  have lp : ∀ ni i : Nat, i + ni = 8 → gw_G K (mo_ws o ad cI cB cS (mo_r1 i N)) 0 0 2 [(2, iN (i)), (0, .ref (o)), (1, iN (t))] [] := by
    intro ni
    induction ni with
    | zero =>
      intro i hii
      refine gw_iload_n C 0 dX11_turnRow_2 rfl rfl ?_
      refine gw_bipush C 8 dX11_turnRow_3 (by decide) ?_
      refine gw_icmp_ge C 26 dX11_turnRow_5 (by decide) (by omega) (by omega) (fun h61 => ?_) (fun h61 => ?_)
      ·
        rw [show i = 8 by omega]
        refine gw_iconst C 0 dX11_turnRow_26 (by decide) ?_
        refine gw_istore_n C (lv2 := [(2, iN (0)), (0, .ref (o)), (1, iN (t))]) dX11_turnRow_27 rfl (by omega) rfl ?_
        have lp2 : ∀ nk k : Nat, k + nk = 8 → gw_G K (mo_ws o ad cI cB cS (mo_r2 t k (mo_r1 8 N))) 0 0 28 [(2, iN (k)), (0, .ref (o)), (1, iN (t))] [] := by
          intro nk
          induction nk with
          | zero =>
            intro k hik
            refine gw_iload_n C 0 dX11_turnRow_28 rfl rfl ?_
            refine gw_bipush C 8 dX11_turnRow_29 (by decide) ?_
            refine gw_icmp_ge C 62 dX11_turnRow_31 (by decide) (by omega) (by omega) (fun h62 => ?_) (fun h62 => ?_)
            ·
              exact ret (mo_trow t N) dX11_turnRow_62 rfl (by rw [show k = 8 by omega]; rfl) (Nat.le_refl 0) (Nat.le_refl 0)
            ·
              exact absurd h62 (by omega)
          | succ nk ihk =>
            intro k hik
            refine gw_iload_n C 0 dX11_turnRow_28 rfl rfl ?_
            refine gw_bipush C 8 dX11_turnRow_29 (by decide) ?_
            refine gw_icmp_ge C 62 dX11_turnRow_31 (by decide) (by omega) (by omega) (fun h63 => ?_) (fun h63 => ?_)
            ·
              exact absurd h63 (by omega)
            ·
              have c0 : (mo_r2 t k (mo_r1 8 N)) 10 (8 * t + k) < 8 := by rw [mo_r2_k (by decide), mo_r1_k (by decide)]; exact hf _ (by omega)
              refine gw_aload_n C 1 dX11_turnRow_34 rfl rfl ?_
              refine gw_get C 0 36 in_X11_turnRow dX11_turnRow_35 lk_X11_turnRow_112 rfl rfl (by decide) rfl rfl ?_
              refine gw_iload_n C 0 dX11_turnRow_38 rfl rfl ?_
              refine gw_aload_n C 1 dX11_turnRow_39 rfl rfl ?_
              refine gw_get C 0 37 in_X11_turnRow dX11_turnRow_40 lk_X11_turnRow_115 rfl rfl (by decide) rfl rfl ?_
              refine gw_aload_n C 1 dX11_turnRow_43 rfl rfl ?_
              refine gw_get C 0 10 in_X11_turnRow dX11_turnRow_44 lk_X11_turnRow_40 rfl rfl (by decide) rfl rfl ?_
              refine gw_bipush C 8 dX11_turnRow_47 (by decide) ?_
              refine gw_iload_n C 2 dX11_turnRow_49 rfl rfl ?_
              refine gw_imul C dX11_turnRow_50 ?_
              refine gw_iload_n C 0 dX11_turnRow_51 rfl rfl ?_
              refine gw_iadd C dX11_turnRow_52 ?_
              refine gw_ild C (v := nI ((mo_r2 t k (mo_r1 8 N)) 10 (((8) * (t)) + (k)))) 11 0 dX11_turnRow_53 rfl rfl (by decide) (by omega) (by first | rfl | simp [mo_up]) ?_
              refine gw_ild C (v := nI ((mo_r2 t k (mo_r1 8 N)) 37 ((mo_r2 t k (mo_r1 8 N)) 10 (((8) * (t)) + (k))))) 34 0 dX11_turnRow_54 rfl rfl (by decide) (by omega) (by first | rfl | simp [mo_up]) ?_
              refine gw_ist C 33 0 dX11_turnRow_55 rfl rfl (by decide) (by omega) mo_st36 ?_
              refine gw_iinc C (v := nI (k + 1)) (lv2 := [(2, iN (k + 1)), (0, .ref (o)), (1, iN (t))]) 0 dX11_turnRow_56 rfl (nI_add _ _) (by omega) rfl ?_
              refine gw_goto C 28 dX11_turnRow_59 (by decide) ?_
              refine gw_lv (lv2 := [(2, iN (k + 1)), (0, .ref (o)), (1, iN (t))]) [0, 1, 2] rfl ?_
              exact gw_ws (congrArg (mo_ws o ad cI cB cS) (by rfl)) (ihk (k + 1) (by omega))
        refine gw_lv (lv2 := [(2, iN (0)), (0, .ref (o)), (1, iN (t))]) [0, 1, 2] rfl ?_
        exact lp2 (8 - 0) 0 (by omega)
      ·
        exact absurd h61 (by omega)
    | succ ni ihi =>
      intro i hii
      refine gw_iload_n C 0 dX11_turnRow_2 rfl rfl ?_
      refine gw_bipush C 8 dX11_turnRow_3 (by decide) ?_
      refine gw_icmp_ge C 26 dX11_turnRow_5 (by decide) (by omega) (by omega) (fun h64 => ?_) (fun h64 => ?_)
      ·
        exact absurd h64 (by omega)
      ·
        refine gw_aload_n C 1 dX11_turnRow_8 rfl rfl ?_
        refine gw_get C 0 37 in_X11_turnRow dX11_turnRow_9 lk_X11_turnRow_115 rfl rfl (by decide) rfl rfl ?_
        refine gw_iload_n C 0 dX11_turnRow_12 rfl rfl ?_
        refine gw_aload_n C 1 dX11_turnRow_13 rfl rfl ?_
        refine gw_get C 0 36 in_X11_turnRow dX11_turnRow_14 lk_X11_turnRow_112 rfl rfl (by decide) rfl rfl ?_
        refine gw_iload_n C 0 dX11_turnRow_17 rfl rfl ?_
        refine gw_ild C (v := nI ((mo_r1 i N) 36 (i))) 33 0 dX11_turnRow_18 rfl rfl (by decide) (by omega) (by first | rfl | simp [mo_up]) ?_
        refine gw_ist C 34 0 dX11_turnRow_19 rfl rfl (by decide) (by omega) mo_st37 ?_
        refine gw_iinc C (v := nI (i + 1)) (lv2 := [(2, iN (i + 1)), (0, .ref (o)), (1, iN (t))]) 0 dX11_turnRow_20 rfl (nI_add _ _) (by omega) rfl ?_
        refine gw_goto C 2 dX11_turnRow_23 (by decide) ?_
        refine gw_lv (lv2 := [(2, iN (i + 1)), (0, .ref (o)), (1, iN (t))]) [0, 1, 2] rfl ?_
        exact gw_ws (congrArg (mo_ws o ad cI cB cS) (by rfl)) (ihi (i + 1) (by omega))
  refine gw_lv (lv2 := [(2, iN (0)), (0, .ref (o)), (1, iN (t))]) [0, 1, 2] rfl ?_
  exact lp (8 - 0) 0 (by omega)
theorem in_X11_rank : ∀ w ∈ wsX110, w ∈ wsX11_rank := fun _ h => List.mem_cons_of_mem _ (List.mem_append_right _ h)
theorem lk_X11_rank_112 : Cond.fieldLink RX11 112 "StageCubeModel" "row" "[I" ∈ wsX11_rank := by decide +kernel
set_option maxHeartbeats 4000000 in
set_option maxRecDepth 100000 in
theorem c_rank (l : Launch) (D : va_G) (cI cB cS cJ cF cG : ClassId) (zz : (Nat → Prop) → State → Heap → Prop) (hz : gw_zT zz) (o : Nat) (ad : Nat → Nat) (N : Nat → Nat → Nat) (nn : Nat) (hn : nn ≤ 8) (hr : ∀ j, j < nn → N 36 j < 100) : gw_CI l yX11_rank wsX11_rank 0 0 0 0 D (mo_ty cI cB cS cJ cF cG) zz (mo_ws o ad cI cB cS N) [.ref o, iN nn] (fun r N' => r = nI (mo_rk (N 36) nn nn) ∧ N' = N) (fun N' => mo_ws o ad cI cB cS N') := by
  refine gw_CI.of (cc := cX11_rank) (maxL := 6) (rt := .int) hz (by decide) rfl (Nat.le_of_ble_eq_true rfl) ?_
  intro K C hkl hkn hkR hkD hmn ret
  have C : gw_x K cX11_rank RX11 wsX11_rank (mo_ty cI cB cS cJ cF cG) zz := C
  refine gw_iconst C 0 dX11_rank_0 (by decide) ?_
  refine gw_istore_n C (lv2 := [(2, iN (0)), (0, .ref (o)), (1, iN (nn))]) dX11_rank_1 rfl (by omega) rfl ?_
  refine gw_iconst C 0 dX11_rank_2 (by decide) ?_
  refine gw_istore_n C (lv2 := [(3, iN (0)), (2, iN (0)), (0, .ref (o)), (1, iN (nn))]) dX11_rank_3 rfl (by omega) rfl ?_
  have lp : ∀ nk k : Nat, k + nk = nn → gw_G K (mo_ws o ad cI cB cS (N)) 0 0 4 [(3, iN (k)), (2, iN (mo_rk (N 36) nn k)), (0, .ref (o)), (1, iN (nn))] [] := by
    intro nk
    induction nk with
    | zero =>
      intro k hik
      refine gw_iload_n C 0 dX11_rank_4 rfl rfl ?_
      refine gw_iload_n C 3 dX11_rank_5 rfl rfl ?_
      refine gw_icmp_ge C 70 dX11_rank_6 (by decide) (by omega) (by omega) (fun h65 => ?_) (fun h65 => ?_)
      ·
        refine gw_iload_n C 1 dX11_rank_70 rfl rfl ?_
        exact ret N dX11_rank_71 rfl ⟨by rw [show k = nn by omega], rfl⟩ rfl (Nat.le_refl 0) (Nat.le_refl 0)
      ·
        exact absurd h65 (by omega)
    | succ nk ihk =>
      intro k hik
      refine gw_iload_n C 0 dX11_rank_4 rfl rfl ?_
      refine gw_iload_n C 3 dX11_rank_5 rfl rfl ?_
      refine gw_icmp_ge C 70 dX11_rank_6 (by decide) (by omega) (by omega) (fun h66 => ?_) (fun h66 => ?_)
      ·
        exact absurd h66 (by omega)
      ·
        refine gw_iconst C 0 dX11_rank_9 (by decide) ?_
        refine gw_istore C (lv2 := [(4, iN (0)), (3, iN (k)), (2, iN (mo_rk (N 36) nn k)), (0, .ref (o)), (1, iN (nn))]) dX11_rank_10 (by omega) rfl ?_
        refine gw_iload_n C 1 dX11_rank_12 rfl rfl ?_
        refine gw_iconst C 1 dX11_rank_13 (by decide) ?_
        refine gw_iadd C dX11_rank_14 ?_
        refine gw_istore C (lv2 := [(5, iN ((k) + (1))), (4, iN (0)), (3, iN (k)), (2, iN (mo_rk (N 36) nn k)), (0, .ref (o)), (1, iN (nn))]) dX11_rank_15 (by omega) rfl ?_
        have lpi : ∀ ns s : Nat, s + ns = nn - (k + 1) → gw_G K (mo_ws o ad cI cB cS (N)) 0 0 17 [(5, iN (k + 1 + s)), (4, iN (mo_ls (N 36) k s)), (3, iN (k)), (2, iN (mo_rk (N 36) nn k)), (0, .ref (o)), (1, iN (nn))] [] := by
          intro ns
          induction ns with
          | zero =>
            intro s his
            refine gw_iload C 0 dX11_rank_17 rfl ?_
            refine gw_iload_n C 5 dX11_rank_19 rfl rfl ?_
            refine gw_icmp_ge C 55 dX11_rank_20 (by decide) (by omega) (by omega) (fun h67 => ?_) (fun h67 => ?_)
            ·
              refine gw_iload_n C 3 dX11_rank_55 rfl rfl ?_
              refine gw_iload_n C 5 dX11_rank_56 rfl rfl ?_
              refine gw_iload_n C 2 dX11_rank_57 rfl rfl ?_
              refine gw_isub C dX11_rank_58 (by omega) ?_
              refine gw_imul C dX11_rank_59 ?_
              refine gw_iload C 1 dX11_rank_60 rfl ?_
              refine gw_iadd C dX11_rank_62 ?_
              refine gw_istore_n C (lv2 := [(2, iN (((mo_rk (N 36) nn k) * ((nn) - (k))) + (mo_ls (N 36) k s))), (5, iN (k + 1 + s)), (4, iN (mo_ls (N 36) k s)), (3, iN (k)), (0, .ref (o)), (1, iN (nn))]) dX11_rank_63 rfl (by omega) rfl ?_
              refine gw_iinc C (v := nI (k + 1)) (lv2 := [(3, iN (k + 1)), (2, iN (((mo_rk (N 36) nn k) * ((nn) - (k))) + (mo_ls (N 36) k s))), (5, iN (k + 1 + s)), (4, iN (mo_ls (N 36) k s)), (0, .ref (o)), (1, iN (nn))]) 3 dX11_rank_64 rfl (nI_add _ _) (by omega) rfl ?_
              refine gw_goto C 4 dX11_rank_67 (by decide) ?_
              refine gw_lv (lv2 := [(3, iN (k + 1)), (2, iN (((mo_rk (N 36) nn k) * ((nn) - (k))) + (mo_ls (N 36) k s))), (0, .ref (o)), (1, iN (nn))]) [0, 1, 4, 5] rfl ?_
              have z : mo_rk (N 36) nn (k + 1) = mo_rk (N 36) nn k * (nn - k) + mo_ls (N 36) k s := by rw [mo_rk, show nn - (k + 1) = s by omega]
              have q := ihk (k + 1) (by omega)
              rw [z] at q
              exact q
            ·
              exact absurd h67 (by omega)
          | succ ns ihs =>
            intro s his
            refine gw_iload C 0 dX11_rank_17 rfl ?_
            refine gw_iload_n C 5 dX11_rank_19 rfl rfl ?_
            refine gw_icmp_ge C 55 dX11_rank_20 (by decide) (by omega) (by omega) (fun h68 => ?_) (fun h68 => ?_)
            ·
              exact absurd h68 (by omega)
            ·
              have q1 := hr (k + 1 + s) (by omega)
              have q2 := hr k (by omega)
              refine gw_iload C 1 dX11_rank_23 rfl ?_
              refine gw_aload_n C 4 dX11_rank_25 rfl rfl ?_
              refine gw_get C 0 36 in_X11_rank dX11_rank_26 lk_X11_rank_112 rfl rfl (by decide) rfl rfl ?_
              refine gw_iload C 0 dX11_rank_29 rfl ?_
              refine gw_ild C (v := nI (N 36 (k + 1 + s))) 33 0 dX11_rank_31 rfl rfl (by decide) (by omega) (by first | rfl | simp [mo_up]) ?_
              refine gw_aload_n C 4 dX11_rank_32 rfl rfl ?_
              refine gw_get C 0 36 in_X11_rank dX11_rank_33 lk_X11_rank_112 rfl rfl (by decide) rfl rfl ?_
              refine gw_iload_n C 2 dX11_rank_36 rfl rfl ?_
              refine gw_ild C (v := nI (N 36 (k))) 33 0 dX11_rank_37 rfl rfl (by decide) (by omega) (by first | rfl | simp [mo_up]) ?_
              refine gw_icmp_ge C 45 dX11_rank_38 (by decide) (by omega) (by omega) (fun h69 => ?_) (fun h69 => ?_)
              ·
                refine gw_iconst C 0 dX11_rank_45 (by decide) ?_
                refine gw_iadd C dX11_rank_46 ?_
                refine gw_istore C (lv2 := [(4, iN ((mo_ls (N 36) k s) + (0))), (5, iN (k + 1 + s)), (3, iN (k)), (2, iN (mo_rk (N 36) nn k)), (0, .ref (o)), (1, iN (nn))]) dX11_rank_47 (by omega) rfl ?_
                refine gw_iinc C (v := nI (k + 1 + s + 1)) (lv2 := [(5, iN (k + 1 + s + 1)), (4, iN ((mo_ls (N 36) k s) + (0))), (3, iN (k)), (2, iN (mo_rk (N 36) nn k)), (0, .ref (o)), (1, iN (nn))]) 1 dX11_rank_49 rfl (nI_add _ _) (by omega) rfl ?_
                refine gw_goto C 17 dX11_rank_52 (by decide) ?_
                refine gw_lv (lv2 := [(5, iN (k + 1 + s + 1)), (4, iN ((mo_ls (N 36) k s) + (0))), (3, iN (k)), (2, iN (mo_rk (N 36) nn k)), (0, .ref (o)), (1, iN (nn))]) [0, 1, 2, 3, 4, 5] rfl ?_
                have z : mo_ls (N 36) k (s + 1) = mo_ls (N 36) k s + 0 := by rw [mo_ls, if_neg (by omega)]
                have q := ihs (s + 1) (by omega)
                rw [z] at q
                exact q
              ·
                refine gw_iconst C 1 dX11_rank_41 (by decide) ?_
                refine gw_goto C 46 dX11_rank_42 (by decide) ?_
                refine gw_iadd C dX11_rank_46 ?_
                refine gw_istore C (lv2 := [(4, iN ((mo_ls (N 36) k s) + (1))), (5, iN (k + 1 + s)), (3, iN (k)), (2, iN (mo_rk (N 36) nn k)), (0, .ref (o)), (1, iN (nn))]) dX11_rank_47 (by omega) rfl ?_
                refine gw_iinc C (v := nI (k + 1 + s + 1)) (lv2 := [(5, iN (k + 1 + s + 1)), (4, iN ((mo_ls (N 36) k s) + (1))), (3, iN (k)), (2, iN (mo_rk (N 36) nn k)), (0, .ref (o)), (1, iN (nn))]) 1 dX11_rank_49 rfl (nI_add _ _) (by omega) rfl ?_
                refine gw_goto C 17 dX11_rank_52 (by decide) ?_
                refine gw_lv (lv2 := [(5, iN (k + 1 + s + 1)), (4, iN ((mo_ls (N 36) k s) + (1))), (3, iN (k)), (2, iN (mo_rk (N 36) nn k)), (0, .ref (o)), (1, iN (nn))]) [0, 1, 2, 3, 4, 5] rfl ?_
                have z : mo_ls (N 36) k (s + 1) = mo_ls (N 36) k s + 1 := by rw [mo_ls, if_pos (by omega)]
                have q := ihs (s + 1) (by omega)
                rw [z] at q
                exact q
        refine gw_lv (lv2 := [(5, iN ((k) + (1))), (4, iN (0)), (3, iN (k)), (2, iN (mo_rk (N 36) nn k)), (0, .ref (o)), (1, iN (nn))]) [0, 1, 2, 3, 4, 5] rfl ?_
        exact lpi (nn - (k + 1) - 0) 0 (by omega)
  refine gw_lv (lv2 := [(3, iN (0)), (2, iN (0)), (0, .ref (o)), (1, iN (nn))]) [0, 1, 2, 3] rfl ?_
  exact lp (nn - 0) 0 (by omega)
theorem in_X11_unrank : ∀ w ∈ wsX110, w ∈ wsX11_unrank := fun _ h => List.mem_cons_of_mem _ (List.mem_append_right _ h)
theorem lk_X11_unrank_112 : Cond.fieldLink RX11 112 "StageCubeModel" "row" "[I" ∈ wsX11_unrank := by decide +kernel
set_option maxHeartbeats 4000000 in
set_option maxRecDepth 100000 in
theorem c_unrank (l : Launch) (D : va_G) (cI cB cS cJ cF cG : ClassId) (zz : (Nat → Prop) → State → Heap → Prop) (hz : gw_zT zz) (o : Nat) (ad : Nat → Nat) (N : Nat → Nat → Nat) (nn r : Nat) (hn : nn ≤ 8) (hn1 : 2 ≤ nn) (hr : r < 2 ^ 31) : gw_CV l yX11_unrank wsX11_unrank 0 0 0 0 D (mo_ty cI cB cS cJ cF cG) zz (mo_ws o ad cI cB cS N) [.ref o, iN nn, iN r] (fun N' => N' = mo_unr nn r N) (fun N' => mo_ws o ad cI cB cS N') := by
  refine gw_CV.of (cc := cX11_unrank) (maxL := 6) hz (by decide) rfl (Nat.le_of_ble_eq_true rfl) ?_
  intro K C hkl hkn hkR hkD hmn ret
  have C : gw_x K cX11_unrank RX11 wsX11_unrank (mo_ty cI cB cS cJ cF cG) zz := C
  refine gw_iload_n C 2 dX11_unrank_0 rfl rfl ?_
  refine gw_istore_n C (lv2 := [(3, iN (r)), (0, .ref (o)), (1, iN (nn)), (2, iN (r))]) dX11_unrank_1 rfl (by omega) rfl ?_
  refine gw_iload_n C 2 dX11_unrank_2 rfl rfl ?_
  refine gw_iconst C 1 dX11_unrank_3 (by decide) ?_
  refine gw_isub C dX11_unrank_4 (by omega) ?_
  refine gw_istore C (lv2 := [(4, iN ((nn) - (1))), (3, iN (r)), (0, .ref (o)), (1, iN (nn)), (2, iN (r))]) dX11_unrank_5 (by omega) rfl ?_
  rw [show nn - 1 = mo_dn nn 0 by rw [mo_dn_lt (by omega)]; omega]
  have lp : ∀ nt t : Nat, t + nt = nn → gw_G K (mo_ws o ad cI cB cS (mo_u1 nn r t N)) 0 0 7 [(4, iN (mo_dn nn t)), (3, iN (mo_ul r t)), (0, .ref (o)), (1, iN (nn)), (2, iN (r))] [] := by
    intro nt
    induction nt with
    | zero =>
      intro t hit
      have d32 := mo_dn_32 (n := nn) (t := t) (by omega)
      have d33 : t < nn → mo_dn nn t = nn - 1 - t := mo_dn_lt
      have d34 : ¬ t < nn → mo_dn nn t = 4294967295 := mo_dn_ge
      refine gw_iload C 0 dX11_unrank_7 rfl ?_
      refine gw_if_lt32 C 40 dX11_unrank_9 (by decide) (by omega) (fun h70 => ?_) (fun h70 => ?_)
      ·
        rw [show t = nn by omega]
        refine gw_iload_n C 3 dX11_unrank_40 rfl rfl ?_
        refine gw_iconst C 2 dX11_unrank_41 (by decide) ?_
        refine gw_isub C dX11_unrank_42 (by omega) ?_
        refine gw_istore C (lv2 := [(4, iN ((nn) - (2))), (3, iN (mo_ul r nn)), (0, .ref (o)), (1, iN (nn)), (2, iN (r))]) dX11_unrank_43 (by omega) rfl ?_
        have b1 : ∀ j, j < nn → (mo_u1 nn r nn N) 36 j < nn := fun j hj => mo_u1_b nn r N nn (Nat.le_refl _) j (by omega) hj
        rw [show nn - 2 = mo_dn (nn - 1) 0 by rw [mo_dn_lt (by omega)]; omega]
        have lp2 : ∀ nv v : Nat, v + nv = nn - 1 → gw_G K (mo_ws o ad cI cB cS (mo_u2 nn v (mo_u1 nn r nn N))) 0 0 45 [(4, iN (mo_dn (nn - 1) v)), (0, .ref (o)), (1, iN (nn))] [] := by
          intro nv
          induction nv with
          | zero =>
            intro v hiv
            have d32 := mo_dn_32 (n := nn - 1) (t := v) (by omega)
            have d33 : v < nn - 1 → mo_dn (nn - 1) v = nn - 1 - 1 - v := mo_dn_lt
            have d34 : ¬ v < nn - 1 → mo_dn (nn - 1) v = 4294967295 := mo_dn_ge
            refine gw_iload C 0 dX11_unrank_45 rfl ?_
            refine gw_if_lt32 C 106 dX11_unrank_47 (by decide) (by omega) (fun h71 => ?_) (fun h71 => ?_)
            ·
              exact ret (mo_unr nn r N) dX11_unrank_106 rfl (by rw [show v = nn - 1 by omega]; rfl) (Nat.le_refl 0) (Nat.le_refl 0)
            ·
              exact absurd h71 (by omega)
          | succ nv ihv =>
            intro v hiv
            have d32 := mo_dn_32 (n := nn - 1) (t := v) (by omega)
            have d33 : v < nn - 1 → mo_dn (nn - 1) v = nn - 1 - 1 - v := mo_dn_lt
            have d34 : ¬ v < nn - 1 → mo_dn (nn - 1) v = 4294967295 := mo_dn_ge
            refine gw_iload C 0 dX11_unrank_45 rfl ?_
            refine gw_if_lt32 C 106 dX11_unrank_47 (by decide) (by omega) (fun h72 => ?_) (fun h72 => ?_)
            ·
              exact absurd h72 (by omega)
            ·
              rw [mo_dn_lt (show v < nn - 1 by omega)]
              obtain ⟨k, hk⟩ : ∃ k, k = nn - 1 - 1 - v := ⟨_, rfl⟩
              rw [← hk]
              refine gw_iload C 0 dX11_unrank_50 rfl ?_
              refine gw_iconst C 1 dX11_unrank_52 (by decide) ?_
              refine gw_iadd C dX11_unrank_53 ?_
              refine gw_istore C (lv2 := [(5, iN ((k) + (1))), (4, iN (k)), (0, .ref (o)), (1, iN (nn))]) dX11_unrank_54 (by omega) rfl ?_
              have lpi : ∀ ns s : Nat, s + ns = nn - (k + 1) → gw_G K (mo_ws o ad cI cB cS (mo_u2i k s (mo_u2 nn v (mo_u1 nn r nn N)))) 0 0 56 [(5, iN (k + 1 + s)), (4, iN (k)), (0, .ref (o)), (1, iN (nn))] [] := by
                intro ns
                induction ns with
                | zero =>
                  intro s his
                  refine gw_iload C 0 dX11_unrank_56 rfl ?_
                  refine gw_iload_n C 3 dX11_unrank_58 rfl rfl ?_
                  refine gw_icmp_ge C 100 dX11_unrank_59 (by decide) (by omega) (by omega) (fun h73 => ?_) (fun h73 => ?_)
                  ·
                    rw [show s = v + 1 by omega]
                    rw [show [(5, iN (k + 1 + (v + 1))), (4, iN k), (0, Value.ref o), (1, iN nn)] = [(5, iN (k + 1 + (v + 1))), (4, iN (nn - 1 - 1 - v)), (0, Value.ref o), (1, iN nn)] by rw [← hk]]
                    refine gw_iinc C (v := nI (mo_dn (nn - 1) (v + 1))) (lv2 := [(4, iN (mo_dn (nn - 1) (v + 1))), (5, iN (k + 1 + (v + 1))), (0, .ref (o)), (1, iN (nn))]) 1 dX11_unrank_100 rfl (mo_dn_dec (by omega)) (by omega) rfl ?_
                    refine gw_goto C 45 dX11_unrank_103 (by decide) ?_
                    refine gw_lv (lv2 := [(4, iN (mo_dn (nn - 1) (v + 1))), (0, .ref (o)), (1, iN (nn))]) [0, 2, 3] rfl ?_
                    exact gw_ws (congrArg (mo_ws o ad cI cB cS) (by rw [mo_u2, ← hk])) (ihv (v + 1) (by omega))
                  ·
                    exact absurd h73 (by omega)
                | succ ns ihs =>
                  intro s his
                  refine gw_iload C 0 dX11_unrank_56 rfl ?_
                  refine gw_iload_n C 3 dX11_unrank_58 rfl rfl ?_
                  refine gw_icmp_ge C 100 dX11_unrank_59 (by decide) (by omega) (by omega) (fun h74 => ?_) (fun h74 => ?_)
                  ·
                    exact absurd h74 (by omega)
                  ·
                    have c1 := mo_u2i_le k (mo_u2 nn v (mo_u1 nn r nn N)) s (k + 1 + s)
                    have c2 := mo_u2_le nn (mo_u1 nn r nn N) v (k + 1 + s)
                    have c3 := b1 (k + 1 + s) (by omega)
                    have c4 := mo_u2i_le k (mo_u2 nn v (mo_u1 nn r nn N)) s k
                    have c5 := mo_u2_le nn (mo_u1 nn r nn N) v k
                    have c6 := b1 k (by omega)
                    have c7 : (if k + 1 + s < k + 1 + s then 1 else 0) ≤ 1 := by split <;> omega
                    have c8 : (if k < k + 1 + s then 1 else 0) ≤ 1 := by split <;> omega
                    refine gw_aload_n C 2 dX11_unrank_62 rfl rfl ?_
                    refine gw_get C 0 36 in_X11_unrank dX11_unrank_63 lk_X11_unrank_112 rfl rfl (by decide) rfl rfl ?_
                    refine gw_iload C 0 dX11_unrank_66 rfl ?_
                    refine gw_dup2 C dX11_unrank_68 rfl rfl ?_
                    refine gw_ild C (v := nI ((mo_u2i k s (mo_u2 nn v (mo_u1 nn r nn N))) 36 (k + 1 + s))) 33 0 dX11_unrank_69 rfl rfl (by decide) (by omega) (by first | rfl | simp [mo_up]) ?_
                    refine gw_aload_n C 2 dX11_unrank_70 rfl rfl ?_
                    refine gw_get C 0 36 in_X11_unrank dX11_unrank_71 lk_X11_unrank_112 rfl rfl (by decide) rfl rfl ?_
                    refine gw_iload C 0 dX11_unrank_74 rfl ?_
                    refine gw_ild C (v := nI ((mo_u2i k s (mo_u2 nn v (mo_u1 nn r nn N))) 36 (k + 1 + s))) 33 0 dX11_unrank_76 rfl rfl (by decide) (by omega) (by first | rfl | simp [mo_up]) ?_
                    refine gw_aload_n C 2 dX11_unrank_77 rfl rfl ?_
                    refine gw_get C 0 36 in_X11_unrank dX11_unrank_78 lk_X11_unrank_112 rfl rfl (by decide) rfl rfl ?_
                    refine gw_iload C 1 dX11_unrank_81 rfl ?_
                    refine gw_ild C (v := nI ((mo_u2i k s (mo_u2 nn v (mo_u1 nn r nn N))) 36 (k))) 33 0 dX11_unrank_83 rfl rfl (by decide) (by omega) (by first | rfl | simp [mo_up]) ?_
                    refine gw_icmp_lt C 91 dX11_unrank_84 (by decide) (by omega) (by omega) (fun h75 => ?_) (fun h75 => ?_)
                    ·
                      refine gw_iconst C 0 dX11_unrank_91 (by decide) ?_
                      refine gw_iadd C dX11_unrank_92 ?_
                      refine gw_ist C 33 0 dX11_unrank_93 rfl rfl (by decide) (by omega) mo_st36 ?_
                      refine gw_iinc C (v := nI (k + 1 + s + 1)) (lv2 := [(5, iN (k + 1 + s + 1)), (4, iN (k)), (0, .ref (o)), (1, iN (nn))]) 0 dX11_unrank_94 rfl (nI_add _ _) (by omega) rfl ?_
                      refine gw_goto C 56 dX11_unrank_97 (by decide) ?_
                      refine gw_lv (lv2 := [(5, iN (k + 1 + s + 1)), (4, iN (k)), (0, .ref (o)), (1, iN (nn))]) [0, 1, 2, 3] rfl ?_
                      exact gw_ws (congrArg (mo_ws o ad cI cB cS) (by rw [mo_u2i, if_pos (by omega)])) (ihs (s + 1) (by omega))
                    ·
                      refine gw_iconst C 1 dX11_unrank_87 (by decide) ?_
                      refine gw_goto C 92 dX11_unrank_88 (by decide) ?_
                      refine gw_iadd C dX11_unrank_92 ?_
                      refine gw_ist C 33 0 dX11_unrank_93 rfl rfl (by decide) (by omega) mo_st36 ?_
                      refine gw_iinc C (v := nI (k + 1 + s + 1)) (lv2 := [(5, iN (k + 1 + s + 1)), (4, iN (k)), (0, .ref (o)), (1, iN (nn))]) 0 dX11_unrank_94 rfl (nI_add _ _) (by omega) rfl ?_
                      refine gw_goto C 56 dX11_unrank_97 (by decide) ?_
                      refine gw_lv (lv2 := [(5, iN (k + 1 + s + 1)), (4, iN (k)), (0, .ref (o)), (1, iN (nn))]) [0, 1, 2, 3] rfl ?_
                      exact gw_ws (congrArg (mo_ws o ad cI cB cS) (by rw [mo_u2i, if_neg (by omega)])) (ihs (s + 1) (by omega))
              refine gw_lv (lv2 := [(5, iN ((k) + (1))), (4, iN (k)), (0, .ref (o)), (1, iN (nn))]) [0, 1, 2, 3] rfl ?_
              exact lpi (nn - (k + 1) - 0) 0 (by omega)
        refine gw_lv (lv2 := [(4, iN (mo_dn (nn - 1) 0)), (0, .ref (o)), (1, iN (nn))]) [0, 2, 3] rfl ?_
        exact lp2 (nn - 1 - 0) 0 (by omega)
      ·
        exact absurd h70 (by omega)
    | succ nt iht =>
      intro t hit
      have d32 := mo_dn_32 (n := nn) (t := t) (by omega)
      have d33 : t < nn → mo_dn nn t = nn - 1 - t := mo_dn_lt
      have d34 : ¬ t < nn → mo_dn nn t = 4294967295 := mo_dn_ge
      refine gw_iload C 0 dX11_unrank_7 rfl ?_
      refine gw_if_lt32 C 40 dX11_unrank_9 (by decide) (by omega) (fun h76 => ?_) (fun h76 => ?_)
      ·
        exact absurd h76 (by omega)
      ·
        rw [mo_dn_lt (show t < nn by omega)]
        have l1 := mo_ul_le r t
        refine gw_iload_n C 3 dX11_unrank_12 rfl rfl ?_
        refine gw_iload C 0 dX11_unrank_13 rfl ?_
        refine gw_isub C dX11_unrank_15 (by omega) ?_
        refine gw_istore C (lv2 := [(5, iN ((nn) - (nn - 1 - t))), (4, iN (nn - 1 - t)), (3, iN (mo_ul r t)), (0, .ref (o)), (1, iN (nn)), (2, iN (r))]) dX11_unrank_16 (by omega) rfl ?_
        refine gw_aload_n C 3 dX11_unrank_18 rfl rfl ?_
        refine gw_get C 0 36 in_X11_unrank dX11_unrank_19 lk_X11_unrank_112 rfl rfl (by decide) rfl rfl ?_
        refine gw_iload C 1 dX11_unrank_22 rfl ?_
        refine gw_iload_n C 2 dX11_unrank_24 rfl rfl ?_
        refine gw_iload C 0 dX11_unrank_25 rfl ?_
        refine gw_irem C dX11_unrank_27 (by omega) (by omega) (by omega) ?_
        refine gw_ist C 33 0 dX11_unrank_28 rfl rfl (by decide) (by omega) mo_st36 ?_
        refine gw_iload_n C 2 dX11_unrank_29 rfl rfl ?_
        refine gw_iload C 0 dX11_unrank_30 rfl ?_
        refine gw_idiv C dX11_unrank_32 (by omega) (by omega) (by omega) ?_
        refine gw_istore_n C (lv2 := [(3, iN ((mo_ul r t) / ((nn) - (nn - 1 - t)))), (5, iN ((nn) - (nn - 1 - t))), (4, iN (nn - 1 - t)), (0, .ref (o)), (1, iN (nn)), (2, iN (r))]) dX11_unrank_33 rfl (by omega) rfl ?_
        refine gw_iinc C (v := nI (mo_dn nn (t + 1))) (lv2 := [(4, iN (mo_dn nn (t + 1))), (3, iN ((mo_ul r t) / ((nn) - (nn - 1 - t)))), (5, iN ((nn) - (nn - 1 - t))), (0, .ref (o)), (1, iN (nn)), (2, iN (r))]) 2 dX11_unrank_34 rfl (mo_dn_dec (by omega)) (by omega) rfl ?_
        refine gw_goto C 7 dX11_unrank_37 (by decide) ?_
        refine gw_lv (lv2 := [(4, iN (mo_dn nn (t + 1))), (3, iN ((mo_ul r t) / ((nn) - (nn - 1 - t)))), (0, .ref (o)), (1, iN (nn)), (2, iN (r))]) [0, 1, 3, 4, 5] rfl ?_
        have q := iht (t + 1) (by omega)
        rw [mo_ul, mo_u1] at q
        rw [show nn - (nn - 1 - t) = t + 1 by omega]
        exact q
  refine gw_lv (lv2 := [(4, iN (mo_dn nn 0)), (3, iN (r)), (0, .ref (o)), (1, iN (nn)), (2, iN (r))]) [0, 1, 2, 3, 4] rfl ?_
  exact lp (nn - 0) 0 (by omega)
end
