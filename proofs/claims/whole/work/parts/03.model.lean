/-! The reference's cells: its object at o, the array of its field k at ad k; N k j is what stands there (a number below 2^32), N k 0 for a field that is a number. -/
def mo_fs (ad : Nat → Nat) (N : Nat → Nat → Nat) : List Value := [.ref (ad 0), .ref (ad 1), .ref (ad 2), .ref (ad 3), .ref (ad 4), .ref (ad 5), .ref (ad 6), .ref (ad 7), .ref (ad 8), .ref (ad 9), .ref (ad 10), .ref (ad 11), .ref (ad 12), .ref (ad 13), iN (N 14 0), iN (N 15 0), iN (N 16 0), .ref (ad 17), .ref (ad 18), iN (N 19 0), .ref (ad 20), .ref (ad 21), .ref (ad 22), .ref (ad 23), .ref (ad 24), .ref (ad 25), .ref (ad 26), .ref (ad 27), .ref (ad 28), .ref (ad 29), .ref (ad 30), .ref (ad 31), .ref (ad 32), .ref (ad 33), .ref (ad 34), .ref (ad 35), .ref (ad 36), .ref (ad 37)]
def mo_ws (o : Nat) (ad : Nat → Nat) (cI cB cS : ClassId) (N : Nat → Nat → Nat) : va_W := [(o, .inr (9, mo_fs ad N)), (ad 0, .inl (cI, 8, .inl (fun j => nI (N 0 j)))), (ad 1, .inl (cI, 8, .inl (fun j => nI (N 1 j)))), (ad 2, .inl (cI, 12, .inl (fun j => nI (N 2 j)))), (ad 3, .inl (cI, 12, .inl (fun j => nI (N 3 j)))), (ad 4, .inl (cI, 8, .inl (fun j => nI (N 4 j)))), (ad 5, .inl (cI, 8, .inl (fun j => nI (N 5 j)))), (ad 6, .inl (cI, 12, .inl (fun j => nI (N 6 j)))), (ad 7, .inl (cI, 12, .inl (fun j => nI (N 7 j)))), (ad 8, .inl (cI, 12, .inl (fun j => nI (N 8 j)))), (ad 9, .inl (cI, 12, .inl (fun j => nI (N 9 j)))), (ad 10, .inl (cI, 144, .inl (fun j => nI (N 10 j)))), (ad 11, .inl (cI, 144, .inl (fun j => nI (N 11 j)))), (ad 12, .inl (cI, 216, .inl (fun j => nI (N 12 j)))), (ad 13, .inl (cI, 216, .inl (fun j => nI (N 13 j)))), (ad 17, .inl (cI, 100, .inl (fun j => nI (N 17 j)))), (ad 18, .inl (cI, 4, .inl (fun j => nI (N 18 j)))), (ad 20, .inl (cB, 4096, .inl (fun j => nI (N 20 j)))), (ad 21, .inl (cB, 1082565, .inl (fun j => nI (N 21 j)))), (ad 22, .inl (cB, 29400, .inl (fun j => nI (N 22 j)))), (ad 23, .inl (cB, 1327104, .inl (fun j => nI (N 23 j)))), (ad 24, .inl (cS, 4096, .inl (fun j => nI (N 24 j)))), (ad 25, .inl (cS, 495, .inl (fun j => nI (N 25 j)))), (ad 26, .inl (cS, 256, .inl (fun j => nI (N 26 j)))), (ad 27, .inl (cS, 70, .inl (fun j => nI (N 27 j)))), (ad 28, .inl (cS, 40320, .inl (fun j => nI (N 28 j)))), (ad 29, .inl (cI, 420, .inl (fun j => nI (N 29 j)))), (ad 30, .inl (cS, 40320, .inl (fun j => nI (N 30 j)))), (ad 31, .inl (cI, 96, .inl (fun j => nI (N 31 j)))), (ad 32, .inl (cI, 39366, .inl (fun j => nI (N 32 j)))), (ad 33, .inl (cI, 8910, .inl (fun j => nI (N 33 j)))), (ad 34, .inl (cI, 7560, .inl (fun j => nI (N 34 j)))), (ad 35, .inl (cI, 1296, .inl (fun j => nI (N 35 j)))), (ad 36, .inl (cI, 8, .inl (fun j => nI (N 36 j)))), (ad 37, .inl (cI, 8, .inl (fun j => nI (N 37 j))))]
def mo_up (N : Nat → Nat → Nat) (k i v : Nat) : Nat → Nat → Nat := fun k' j => if k' = k then (if j = i then v else N k j) else N k' j
def mo_ty (cI cB cS cJ cF cG : ClassId) : List (ClassId × FieldType) := [(cI, .int), (cB, .byte), (cS, .short), (cJ, .long), (cF, .object "StageCube$Feature"), (cG, .object "StageCube$Stage")]
theorem mo_up_e {N : Nat → Nat → Nat} {k i v : Nat} : (fun j => nI (mo_up N k i v k j)) = upd (fun j => nI (N k j)) i (nI v) := by
  funext j
  simp only [mo_up, if_pos, upd]
  split <;> rfl
theorem mo_st0 {o : Nat} {ad : Nat → Nat} {cI cB cS : ClassId} {N : Nat → Nat → Nat} {i v : Nat} : (mo_ws o ad cI cB cS N).set 1 (ad 0, .inl (cI, 8, .inl (upd (fun j => nI (N 0 j)) i (nI v)))) = mo_ws o ad cI cB cS (mo_up N 0 i v) := by
  rw [← mo_up_e]
  rfl
theorem mo_st1 {o : Nat} {ad : Nat → Nat} {cI cB cS : ClassId} {N : Nat → Nat → Nat} {i v : Nat} : (mo_ws o ad cI cB cS N).set 2 (ad 1, .inl (cI, 8, .inl (upd (fun j => nI (N 1 j)) i (nI v)))) = mo_ws o ad cI cB cS (mo_up N 1 i v) := by
  rw [← mo_up_e]
  rfl
theorem mo_st2 {o : Nat} {ad : Nat → Nat} {cI cB cS : ClassId} {N : Nat → Nat → Nat} {i v : Nat} : (mo_ws o ad cI cB cS N).set 3 (ad 2, .inl (cI, 12, .inl (upd (fun j => nI (N 2 j)) i (nI v)))) = mo_ws o ad cI cB cS (mo_up N 2 i v) := by
  rw [← mo_up_e]
  rfl
theorem mo_st3 {o : Nat} {ad : Nat → Nat} {cI cB cS : ClassId} {N : Nat → Nat → Nat} {i v : Nat} : (mo_ws o ad cI cB cS N).set 4 (ad 3, .inl (cI, 12, .inl (upd (fun j => nI (N 3 j)) i (nI v)))) = mo_ws o ad cI cB cS (mo_up N 3 i v) := by
  rw [← mo_up_e]
  rfl
theorem mo_st4 {o : Nat} {ad : Nat → Nat} {cI cB cS : ClassId} {N : Nat → Nat → Nat} {i v : Nat} : (mo_ws o ad cI cB cS N).set 5 (ad 4, .inl (cI, 8, .inl (upd (fun j => nI (N 4 j)) i (nI v)))) = mo_ws o ad cI cB cS (mo_up N 4 i v) := by
  rw [← mo_up_e]
  rfl
theorem mo_st5 {o : Nat} {ad : Nat → Nat} {cI cB cS : ClassId} {N : Nat → Nat → Nat} {i v : Nat} : (mo_ws o ad cI cB cS N).set 6 (ad 5, .inl (cI, 8, .inl (upd (fun j => nI (N 5 j)) i (nI v)))) = mo_ws o ad cI cB cS (mo_up N 5 i v) := by
  rw [← mo_up_e]
  rfl
theorem mo_st6 {o : Nat} {ad : Nat → Nat} {cI cB cS : ClassId} {N : Nat → Nat → Nat} {i v : Nat} : (mo_ws o ad cI cB cS N).set 7 (ad 6, .inl (cI, 12, .inl (upd (fun j => nI (N 6 j)) i (nI v)))) = mo_ws o ad cI cB cS (mo_up N 6 i v) := by
  rw [← mo_up_e]
  rfl
theorem mo_st7 {o : Nat} {ad : Nat → Nat} {cI cB cS : ClassId} {N : Nat → Nat → Nat} {i v : Nat} : (mo_ws o ad cI cB cS N).set 8 (ad 7, .inl (cI, 12, .inl (upd (fun j => nI (N 7 j)) i (nI v)))) = mo_ws o ad cI cB cS (mo_up N 7 i v) := by
  rw [← mo_up_e]
  rfl
theorem mo_st8 {o : Nat} {ad : Nat → Nat} {cI cB cS : ClassId} {N : Nat → Nat → Nat} {i v : Nat} : (mo_ws o ad cI cB cS N).set 9 (ad 8, .inl (cI, 12, .inl (upd (fun j => nI (N 8 j)) i (nI v)))) = mo_ws o ad cI cB cS (mo_up N 8 i v) := by
  rw [← mo_up_e]
  rfl
theorem mo_st9 {o : Nat} {ad : Nat → Nat} {cI cB cS : ClassId} {N : Nat → Nat → Nat} {i v : Nat} : (mo_ws o ad cI cB cS N).set 10 (ad 9, .inl (cI, 12, .inl (upd (fun j => nI (N 9 j)) i (nI v)))) = mo_ws o ad cI cB cS (mo_up N 9 i v) := by
  rw [← mo_up_e]
  rfl
theorem mo_st10 {o : Nat} {ad : Nat → Nat} {cI cB cS : ClassId} {N : Nat → Nat → Nat} {i v : Nat} : (mo_ws o ad cI cB cS N).set 11 (ad 10, .inl (cI, 144, .inl (upd (fun j => nI (N 10 j)) i (nI v)))) = mo_ws o ad cI cB cS (mo_up N 10 i v) := by
  rw [← mo_up_e]
  rfl
theorem mo_st11 {o : Nat} {ad : Nat → Nat} {cI cB cS : ClassId} {N : Nat → Nat → Nat} {i v : Nat} : (mo_ws o ad cI cB cS N).set 12 (ad 11, .inl (cI, 144, .inl (upd (fun j => nI (N 11 j)) i (nI v)))) = mo_ws o ad cI cB cS (mo_up N 11 i v) := by
  rw [← mo_up_e]
  rfl
theorem mo_st12 {o : Nat} {ad : Nat → Nat} {cI cB cS : ClassId} {N : Nat → Nat → Nat} {i v : Nat} : (mo_ws o ad cI cB cS N).set 13 (ad 12, .inl (cI, 216, .inl (upd (fun j => nI (N 12 j)) i (nI v)))) = mo_ws o ad cI cB cS (mo_up N 12 i v) := by
  rw [← mo_up_e]
  rfl
theorem mo_st13 {o : Nat} {ad : Nat → Nat} {cI cB cS : ClassId} {N : Nat → Nat → Nat} {i v : Nat} : (mo_ws o ad cI cB cS N).set 14 (ad 13, .inl (cI, 216, .inl (upd (fun j => nI (N 13 j)) i (nI v)))) = mo_ws o ad cI cB cS (mo_up N 13 i v) := by
  rw [← mo_up_e]
  rfl
theorem mo_st14 {o : Nat} {ad : Nat → Nat} {cI cB cS : ClassId} {N : Nat → Nat → Nat} {v : Nat} : (mo_ws o ad cI cB cS N).set 0 (o, .inr (9, (mo_fs ad N).set 14 (iN v))) = mo_ws o ad cI cB cS (mo_up N 14 0 v) := rfl
theorem mo_st15 {o : Nat} {ad : Nat → Nat} {cI cB cS : ClassId} {N : Nat → Nat → Nat} {v : Nat} : (mo_ws o ad cI cB cS N).set 0 (o, .inr (9, (mo_fs ad N).set 15 (iN v))) = mo_ws o ad cI cB cS (mo_up N 15 0 v) := rfl
theorem mo_st16 {o : Nat} {ad : Nat → Nat} {cI cB cS : ClassId} {N : Nat → Nat → Nat} {v : Nat} : (mo_ws o ad cI cB cS N).set 0 (o, .inr (9, (mo_fs ad N).set 16 (iN v))) = mo_ws o ad cI cB cS (mo_up N 16 0 v) := rfl
theorem mo_st17 {o : Nat} {ad : Nat → Nat} {cI cB cS : ClassId} {N : Nat → Nat → Nat} {i v : Nat} : (mo_ws o ad cI cB cS N).set 15 (ad 17, .inl (cI, 100, .inl (upd (fun j => nI (N 17 j)) i (nI v)))) = mo_ws o ad cI cB cS (mo_up N 17 i v) := by
  rw [← mo_up_e]
  rfl
theorem mo_st18 {o : Nat} {ad : Nat → Nat} {cI cB cS : ClassId} {N : Nat → Nat → Nat} {i v : Nat} : (mo_ws o ad cI cB cS N).set 16 (ad 18, .inl (cI, 4, .inl (upd (fun j => nI (N 18 j)) i (nI v)))) = mo_ws o ad cI cB cS (mo_up N 18 i v) := by
  rw [← mo_up_e]
  rfl
theorem mo_st19 {o : Nat} {ad : Nat → Nat} {cI cB cS : ClassId} {N : Nat → Nat → Nat} {v : Nat} : (mo_ws o ad cI cB cS N).set 0 (o, .inr (9, (mo_fs ad N).set 19 (iN v))) = mo_ws o ad cI cB cS (mo_up N 19 0 v) := rfl
theorem mo_st20 {o : Nat} {ad : Nat → Nat} {cI cB cS : ClassId} {N : Nat → Nat → Nat} {i v : Nat} : (mo_ws o ad cI cB cS N).set 17 (ad 20, .inl (cB, 4096, .inl (upd (fun j => nI (N 20 j)) i (nI v)))) = mo_ws o ad cI cB cS (mo_up N 20 i v) := by
  rw [← mo_up_e]
  rfl
theorem mo_st21 {o : Nat} {ad : Nat → Nat} {cI cB cS : ClassId} {N : Nat → Nat → Nat} {i v : Nat} : (mo_ws o ad cI cB cS N).set 18 (ad 21, .inl (cB, 1082565, .inl (upd (fun j => nI (N 21 j)) i (nI v)))) = mo_ws o ad cI cB cS (mo_up N 21 i v) := by
  rw [← mo_up_e]
  rfl
theorem mo_st22 {o : Nat} {ad : Nat → Nat} {cI cB cS : ClassId} {N : Nat → Nat → Nat} {i v : Nat} : (mo_ws o ad cI cB cS N).set 19 (ad 22, .inl (cB, 29400, .inl (upd (fun j => nI (N 22 j)) i (nI v)))) = mo_ws o ad cI cB cS (mo_up N 22 i v) := by
  rw [← mo_up_e]
  rfl
theorem mo_st23 {o : Nat} {ad : Nat → Nat} {cI cB cS : ClassId} {N : Nat → Nat → Nat} {i v : Nat} : (mo_ws o ad cI cB cS N).set 20 (ad 23, .inl (cB, 1327104, .inl (upd (fun j => nI (N 23 j)) i (nI v)))) = mo_ws o ad cI cB cS (mo_up N 23 i v) := by
  rw [← mo_up_e]
  rfl
theorem mo_st24 {o : Nat} {ad : Nat → Nat} {cI cB cS : ClassId} {N : Nat → Nat → Nat} {i v : Nat} : (mo_ws o ad cI cB cS N).set 21 (ad 24, .inl (cS, 4096, .inl (upd (fun j => nI (N 24 j)) i (nI v)))) = mo_ws o ad cI cB cS (mo_up N 24 i v) := by
  rw [← mo_up_e]
  rfl
theorem mo_st25 {o : Nat} {ad : Nat → Nat} {cI cB cS : ClassId} {N : Nat → Nat → Nat} {i v : Nat} : (mo_ws o ad cI cB cS N).set 22 (ad 25, .inl (cS, 495, .inl (upd (fun j => nI (N 25 j)) i (nI v)))) = mo_ws o ad cI cB cS (mo_up N 25 i v) := by
  rw [← mo_up_e]
  rfl
theorem mo_st26 {o : Nat} {ad : Nat → Nat} {cI cB cS : ClassId} {N : Nat → Nat → Nat} {i v : Nat} : (mo_ws o ad cI cB cS N).set 23 (ad 26, .inl (cS, 256, .inl (upd (fun j => nI (N 26 j)) i (nI v)))) = mo_ws o ad cI cB cS (mo_up N 26 i v) := by
  rw [← mo_up_e]
  rfl
theorem mo_st27 {o : Nat} {ad : Nat → Nat} {cI cB cS : ClassId} {N : Nat → Nat → Nat} {i v : Nat} : (mo_ws o ad cI cB cS N).set 24 (ad 27, .inl (cS, 70, .inl (upd (fun j => nI (N 27 j)) i (nI v)))) = mo_ws o ad cI cB cS (mo_up N 27 i v) := by
  rw [← mo_up_e]
  rfl
theorem mo_st28 {o : Nat} {ad : Nat → Nat} {cI cB cS : ClassId} {N : Nat → Nat → Nat} {i v : Nat} : (mo_ws o ad cI cB cS N).set 25 (ad 28, .inl (cS, 40320, .inl (upd (fun j => nI (N 28 j)) i (nI v)))) = mo_ws o ad cI cB cS (mo_up N 28 i v) := by
  rw [← mo_up_e]
  rfl
theorem mo_st29 {o : Nat} {ad : Nat → Nat} {cI cB cS : ClassId} {N : Nat → Nat → Nat} {i v : Nat} : (mo_ws o ad cI cB cS N).set 26 (ad 29, .inl (cI, 420, .inl (upd (fun j => nI (N 29 j)) i (nI v)))) = mo_ws o ad cI cB cS (mo_up N 29 i v) := by
  rw [← mo_up_e]
  rfl
theorem mo_st30 {o : Nat} {ad : Nat → Nat} {cI cB cS : ClassId} {N : Nat → Nat → Nat} {i v : Nat} : (mo_ws o ad cI cB cS N).set 27 (ad 30, .inl (cS, 40320, .inl (upd (fun j => nI (N 30 j)) i (nI v)))) = mo_ws o ad cI cB cS (mo_up N 30 i v) := by
  rw [← mo_up_e]
  rfl
theorem mo_st31 {o : Nat} {ad : Nat → Nat} {cI cB cS : ClassId} {N : Nat → Nat → Nat} {i v : Nat} : (mo_ws o ad cI cB cS N).set 28 (ad 31, .inl (cI, 96, .inl (upd (fun j => nI (N 31 j)) i (nI v)))) = mo_ws o ad cI cB cS (mo_up N 31 i v) := by
  rw [← mo_up_e]
  rfl
theorem mo_st32 {o : Nat} {ad : Nat → Nat} {cI cB cS : ClassId} {N : Nat → Nat → Nat} {i v : Nat} : (mo_ws o ad cI cB cS N).set 29 (ad 32, .inl (cI, 39366, .inl (upd (fun j => nI (N 32 j)) i (nI v)))) = mo_ws o ad cI cB cS (mo_up N 32 i v) := by
  rw [← mo_up_e]
  rfl
theorem mo_st33 {o : Nat} {ad : Nat → Nat} {cI cB cS : ClassId} {N : Nat → Nat → Nat} {i v : Nat} : (mo_ws o ad cI cB cS N).set 30 (ad 33, .inl (cI, 8910, .inl (upd (fun j => nI (N 33 j)) i (nI v)))) = mo_ws o ad cI cB cS (mo_up N 33 i v) := by
  rw [← mo_up_e]
  rfl
theorem mo_st34 {o : Nat} {ad : Nat → Nat} {cI cB cS : ClassId} {N : Nat → Nat → Nat} {i v : Nat} : (mo_ws o ad cI cB cS N).set 31 (ad 34, .inl (cI, 7560, .inl (upd (fun j => nI (N 34 j)) i (nI v)))) = mo_ws o ad cI cB cS (mo_up N 34 i v) := by
  rw [← mo_up_e]
  rfl
theorem mo_st35 {o : Nat} {ad : Nat → Nat} {cI cB cS : ClassId} {N : Nat → Nat → Nat} {i v : Nat} : (mo_ws o ad cI cB cS N).set 32 (ad 35, .inl (cI, 1296, .inl (upd (fun j => nI (N 35 j)) i (nI v)))) = mo_ws o ad cI cB cS (mo_up N 35 i v) := by
  rw [← mo_up_e]
  rfl
theorem mo_st36 {o : Nat} {ad : Nat → Nat} {cI cB cS : ClassId} {N : Nat → Nat → Nat} {i v : Nat} : (mo_ws o ad cI cB cS N).set 33 (ad 36, .inl (cI, 8, .inl (upd (fun j => nI (N 36 j)) i (nI v)))) = mo_ws o ad cI cB cS (mo_up N 36 i v) := by
  rw [← mo_up_e]
  rfl
theorem mo_st37 {o : Nat} {ad : Nat → Nat} {cI cB cS : ClassId} {N : Nat → Nat → Nat} {i v : Nat} : (mo_ws o ad cI cB cS N).set 34 (ad 37, .inl (cI, 8, .inl (upd (fun j => nI (N 37 j)) i (nI v)))) = mo_ws o ad cI cB cS (mo_up N 37 i v) := by
  rw [← mo_up_e]
  rfl
