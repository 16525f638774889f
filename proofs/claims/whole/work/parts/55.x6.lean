theorem mt_qP0 (cp : Nat → Nat) : mk_cp 0 cp 1 0 = cp 0 ∧ mk_cp 0 cp 1 1 = cp 1 ∧ mk_cp 0 cp 1 2 = cp 2 ∧ mk_cp 0 cp 1 3 = cp 3 ∧ mk_cp 0 cp 1 4 = cp 5 ∧ mk_cp 0 cp 1 5 = cp 7 ∧ mk_cp 0 cp 1 6 = cp 4 ∧ mk_cp 0 cp 1 7 = cp 6 := ⟨rfl, rfl, rfl, rfl, rfl, rfl, rfl, rfl⟩
theorem mt_qT0 (co : Nat → Nat) : mk_co 0 co 1 0 = co 0 ∧ mk_co 0 co 1 1 = co 1 ∧ mk_co 0 co 1 2 = co 2 ∧ mk_co 0 co 1 3 = co 3 ∧ mk_co 0 co 1 4 = (co 5 + 0) % 3 ∧ mk_co 0 co 1 5 = (co 7 + 0) % 3 ∧ mk_co 0 co 1 6 = (co 4 + 0) % 3 ∧ mk_co 0 co 1 7 = (co 6 + 0) % 3 := ⟨rfl, rfl, rfl, rfl, rfl, rfl, rfl, rfl⟩
theorem mt_qE0 (ep : Nat → Nat) : mk_ep 0 ep 1 0 = ep 0 ∧ mk_ep 0 ep 1 1 = ep 1 ∧ mk_ep 0 ep 1 2 = ep 7 ∧ mk_ep 0 ep 1 3 = ep 6 ∧ mk_ep 0 ep 1 4 = ep 4 ∧ mk_ep 0 ep 1 5 = ep 5 ∧ mk_ep 0 ep 1 6 = ep 2 ∧ mk_ep 0 ep 1 7 = ep 3 ∧ mk_ep 0 ep 1 8 = ep 8 ∧ mk_ep 0 ep 1 9 = ep 9 ∧ mk_ep 0 ep 1 10 = ep 10 ∧ mk_ep 0 ep 1 11 = ep 11 := ⟨rfl, rfl, rfl, rfl, rfl, rfl, rfl, rfl, rfl, rfl, rfl, rfl⟩
theorem mt_qF0 (eo : Nat → Nat) : mk_eo 0 eo 1 0 = eo 0 ∧ mk_eo 0 eo 1 1 = eo 1 ∧ mk_eo 0 eo 1 2 = (eo 7 + 0) % 2 ∧ mk_eo 0 eo 1 3 = (eo 6 + 0) % 2 ∧ mk_eo 0 eo 1 4 = eo 4 ∧ mk_eo 0 eo 1 5 = eo 5 ∧ mk_eo 0 eo 1 6 = (eo 2 + 0) % 2 ∧ mk_eo 0 eo 1 7 = (eo 3 + 0) % 2 ∧ mk_eo 0 eo 1 8 = eo 8 ∧ mk_eo 0 eo 1 9 = eo 9 ∧ mk_eo 0 eo 1 10 = eo 10 ∧ mk_eo 0 eo 1 11 = eo 11 := ⟨rfl, rfl, rfl, rfl, rfl, rfl, rfl, rfl, rfl, rfl, rfl, rfl⟩
theorem mt_qP1 (cp : Nat → Nat) : mk_cp 1 cp 1 0 = cp 2 ∧ mk_cp 1 cp 1 1 = cp 0 ∧ mk_cp 1 cp 1 2 = cp 3 ∧ mk_cp 1 cp 1 3 = cp 1 ∧ mk_cp 1 cp 1 4 = cp 4 ∧ mk_cp 1 cp 1 5 = cp 5 ∧ mk_cp 1 cp 1 6 = cp 6 ∧ mk_cp 1 cp 1 7 = cp 7 := ⟨rfl, rfl, rfl, rfl, rfl, rfl, rfl, rfl⟩
theorem mt_qT1 (co : Nat → Nat) : mk_co 1 co 1 0 = (co 2 + 0) % 3 ∧ mk_co 1 co 1 1 = (co 0 + 0) % 3 ∧ mk_co 1 co 1 2 = (co 3 + 0) % 3 ∧ mk_co 1 co 1 3 = (co 1 + 0) % 3 ∧ mk_co 1 co 1 4 = co 4 ∧ mk_co 1 co 1 5 = co 5 ∧ mk_co 1 co 1 6 = co 6 ∧ mk_co 1 co 1 7 = co 7 := ⟨rfl, rfl, rfl, rfl, rfl, rfl, rfl, rfl⟩
theorem mt_qE1 (ep : Nat → Nat) : mk_ep 1 ep 1 0 = ep 4 ∧ mk_ep 1 ep 1 1 = ep 5 ∧ mk_ep 1 ep 1 2 = ep 2 ∧ mk_ep 1 ep 1 3 = ep 3 ∧ mk_ep 1 ep 1 4 = ep 1 ∧ mk_ep 1 ep 1 5 = ep 0 ∧ mk_ep 1 ep 1 6 = ep 6 ∧ mk_ep 1 ep 1 7 = ep 7 ∧ mk_ep 1 ep 1 8 = ep 8 ∧ mk_ep 1 ep 1 9 = ep 9 ∧ mk_ep 1 ep 1 10 = ep 10 ∧ mk_ep 1 ep 1 11 = ep 11 := ⟨rfl, rfl, rfl, rfl, rfl, rfl, rfl, rfl, rfl, rfl, rfl, rfl⟩
theorem mt_qF1 (eo : Nat → Nat) : mk_eo 1 eo 1 0 = (eo 4 + 0) % 2 ∧ mk_eo 1 eo 1 1 = (eo 5 + 0) % 2 ∧ mk_eo 1 eo 1 2 = eo 2 ∧ mk_eo 1 eo 1 3 = eo 3 ∧ mk_eo 1 eo 1 4 = (eo 1 + 0) % 2 ∧ mk_eo 1 eo 1 5 = (eo 0 + 0) % 2 ∧ mk_eo 1 eo 1 6 = eo 6 ∧ mk_eo 1 eo 1 7 = eo 7 ∧ mk_eo 1 eo 1 8 = eo 8 ∧ mk_eo 1 eo 1 9 = eo 9 ∧ mk_eo 1 eo 1 10 = eo 10 ∧ mk_eo 1 eo 1 11 = eo 11 := ⟨rfl, rfl, rfl, rfl, rfl, rfl, rfl, rfl, rfl, rfl, rfl, rfl⟩
theorem mt_qP2 (cp : Nat → Nat) : mk_cp 2 cp 1 0 = cp 4 ∧ mk_cp 2 cp 1 1 = cp 1 ∧ mk_cp 2 cp 1 2 = cp 0 ∧ mk_cp 2 cp 1 3 = cp 3 ∧ mk_cp 2 cp 1 4 = cp 6 ∧ mk_cp 2 cp 1 5 = cp 5 ∧ mk_cp 2 cp 1 6 = cp 2 ∧ mk_cp 2 cp 1 7 = cp 7 := ⟨rfl, rfl, rfl, rfl, rfl, rfl, rfl, rfl⟩
theorem mt_qT2 (co : Nat → Nat) : mk_co 2 co 1 0 = (co 4 + 2) % 3 ∧ mk_co 2 co 1 1 = co 1 ∧ mk_co 2 co 1 2 = (co 0 + 1) % 3 ∧ mk_co 2 co 1 3 = co 3 ∧ mk_co 2 co 1 4 = (co 6 + 1) % 3 ∧ mk_co 2 co 1 5 = co 5 ∧ mk_co 2 co 1 6 = (co 2 + 2) % 3 ∧ mk_co 2 co 1 7 = co 7 := ⟨rfl, rfl, rfl, rfl, rfl, rfl, rfl, rfl⟩
theorem mt_qE2 (ep : Nat → Nat) : mk_ep 2 ep 1 0 = ep 0 ∧ mk_ep 2 ep 1 1 = ep 1 ∧ mk_ep 2 ep 1 2 = ep 2 ∧ mk_ep 2 ep 1 3 = ep 3 ∧ mk_ep 2 ep 1 4 = ep 8 ∧ mk_ep 2 ep 1 5 = ep 5 ∧ mk_ep 2 ep 1 6 = ep 10 ∧ mk_ep 2 ep 1 7 = ep 7 ∧ mk_ep 2 ep 1 8 = ep 6 ∧ mk_ep 2 ep 1 9 = ep 9 ∧ mk_ep 2 ep 1 10 = ep 4 ∧ mk_ep 2 ep 1 11 = ep 11 := ⟨rfl, rfl, rfl, rfl, rfl, rfl, rfl, rfl, rfl, rfl, rfl, rfl⟩
theorem mt_qF2 (eo : Nat → Nat) : mk_eo 2 eo 1 0 = eo 0 ∧ mk_eo 2 eo 1 1 = eo 1 ∧ mk_eo 2 eo 1 2 = eo 2 ∧ mk_eo 2 eo 1 3 = eo 3 ∧ mk_eo 2 eo 1 4 = (eo 8 + 0) % 2 ∧ mk_eo 2 eo 1 5 = eo 5 ∧ mk_eo 2 eo 1 6 = (eo 10 + 0) % 2 ∧ mk_eo 2 eo 1 7 = eo 7 ∧ mk_eo 2 eo 1 8 = (eo 6 + 0) % 2 ∧ mk_eo 2 eo 1 9 = eo 9 ∧ mk_eo 2 eo 1 10 = (eo 4 + 0) % 2 ∧ mk_eo 2 eo 1 11 = eo 11 := ⟨rfl, rfl, rfl, rfl, rfl, rfl, rfl, rfl, rfl, rfl, rfl, rfl⟩
theorem mt_qP3 (cp : Nat → Nat) : mk_cp 3 cp 1 0 = cp 0 ∧ mk_cp 3 cp 1 1 = cp 3 ∧ mk_cp 3 cp 1 2 = cp 2 ∧ mk_cp 3 cp 1 3 = cp 7 ∧ mk_cp 3 cp 1 4 = cp 4 ∧ mk_cp 3 cp 1 5 = cp 1 ∧ mk_cp 3 cp 1 6 = cp 6 ∧ mk_cp 3 cp 1 7 = cp 5 := ⟨rfl, rfl, rfl, rfl, rfl, rfl, rfl, rfl⟩
theorem mt_qT3 (co : Nat → Nat) : mk_co 3 co 1 0 = co 0 ∧ mk_co 3 co 1 1 = (co 3 + 1) % 3 ∧ mk_co 3 co 1 2 = co 2 ∧ mk_co 3 co 1 3 = (co 7 + 2) % 3 ∧ mk_co 3 co 1 4 = co 4 ∧ mk_co 3 co 1 5 = (co 1 + 2) % 3 ∧ mk_co 3 co 1 6 = co 6 ∧ mk_co 3 co 1 7 = (co 5 + 1) % 3 := ⟨rfl, rfl, rfl, rfl, rfl, rfl, rfl, rfl⟩
theorem mt_qE3 (ep : Nat → Nat) : mk_ep 3 ep 1 0 = ep 0 ∧ mk_ep 3 ep 1 1 = ep 1 ∧ mk_ep 3 ep 1 2 = ep 2 ∧ mk_ep 3 ep 1 3 = ep 3 ∧ mk_ep 3 ep 1 4 = ep 4 ∧ mk_ep 3 ep 1 5 = ep 11 ∧ mk_ep 3 ep 1 6 = ep 6 ∧ mk_ep 3 ep 1 7 = ep 9 ∧ mk_ep 3 ep 1 8 = ep 8 ∧ mk_ep 3 ep 1 9 = ep 5 ∧ mk_ep 3 ep 1 10 = ep 10 ∧ mk_ep 3 ep 1 11 = ep 7 := ⟨rfl, rfl, rfl, rfl, rfl, rfl, rfl, rfl, rfl, rfl, rfl, rfl⟩
theorem mt_qF3 (eo : Nat → Nat) : mk_eo 3 eo 1 0 = eo 0 ∧ mk_eo 3 eo 1 1 = eo 1 ∧ mk_eo 3 eo 1 2 = eo 2 ∧ mk_eo 3 eo 1 3 = eo 3 ∧ mk_eo 3 eo 1 4 = eo 4 ∧ mk_eo 3 eo 1 5 = (eo 11 + 0) % 2 ∧ mk_eo 3 eo 1 6 = eo 6 ∧ mk_eo 3 eo 1 7 = (eo 9 + 0) % 2 ∧ mk_eo 3 eo 1 8 = eo 8 ∧ mk_eo 3 eo 1 9 = (eo 5 + 0) % 2 ∧ mk_eo 3 eo 1 10 = eo 10 ∧ mk_eo 3 eo 1 11 = (eo 7 + 0) % 2 := ⟨rfl, rfl, rfl, rfl, rfl, rfl, rfl, rfl, rfl, rfl, rfl, rfl⟩
theorem mt_qP4 (cp : Nat → Nat) : mk_cp 4 cp 1 0 = cp 1 ∧ mk_cp 4 cp 1 1 = cp 5 ∧ mk_cp 4 cp 1 2 = cp 2 ∧ mk_cp 4 cp 1 3 = cp 3 ∧ mk_cp 4 cp 1 4 = cp 0 ∧ mk_cp 4 cp 1 5 = cp 4 ∧ mk_cp 4 cp 1 6 = cp 6 ∧ mk_cp 4 cp 1 7 = cp 7 := ⟨rfl, rfl, rfl, rfl, rfl, rfl, rfl, rfl⟩
theorem mt_qT4 (co : Nat → Nat) : mk_co 4 co 1 0 = (co 1 + 1) % 3 ∧ mk_co 4 co 1 1 = (co 5 + 2) % 3 ∧ mk_co 4 co 1 2 = co 2 ∧ mk_co 4 co 1 3 = co 3 ∧ mk_co 4 co 1 4 = (co 0 + 2) % 3 ∧ mk_co 4 co 1 5 = (co 4 + 1) % 3 ∧ mk_co 4 co 1 6 = co 6 ∧ mk_co 4 co 1 7 = co 7 := ⟨rfl, rfl, rfl, rfl, rfl, rfl, rfl, rfl⟩
theorem mt_qE4 (ep : Nat → Nat) : mk_ep 4 ep 1 0 = ep 9 ∧ mk_ep 4 ep 1 1 = ep 1 ∧ mk_ep 4 ep 1 2 = ep 8 ∧ mk_ep 4 ep 1 3 = ep 3 ∧ mk_ep 4 ep 1 4 = ep 4 ∧ mk_ep 4 ep 1 5 = ep 5 ∧ mk_ep 4 ep 1 6 = ep 6 ∧ mk_ep 4 ep 1 7 = ep 7 ∧ mk_ep 4 ep 1 8 = ep 0 ∧ mk_ep 4 ep 1 9 = ep 2 ∧ mk_ep 4 ep 1 10 = ep 10 ∧ mk_ep 4 ep 1 11 = ep 11 := ⟨rfl, rfl, rfl, rfl, rfl, rfl, rfl, rfl, rfl, rfl, rfl, rfl⟩
theorem mt_qF4 (eo : Nat → Nat) : mk_eo 4 eo 1 0 = (eo 9 + 1) % 2 ∧ mk_eo 4 eo 1 1 = eo 1 ∧ mk_eo 4 eo 1 2 = (eo 8 + 1) % 2 ∧ mk_eo 4 eo 1 3 = eo 3 ∧ mk_eo 4 eo 1 4 = eo 4 ∧ mk_eo 4 eo 1 5 = eo 5 ∧ mk_eo 4 eo 1 6 = eo 6 ∧ mk_eo 4 eo 1 7 = eo 7 ∧ mk_eo 4 eo 1 8 = (eo 0 + 1) % 2 ∧ mk_eo 4 eo 1 9 = (eo 2 + 1) % 2 ∧ mk_eo 4 eo 1 10 = eo 10 ∧ mk_eo 4 eo 1 11 = eo 11 := ⟨rfl, rfl, rfl, rfl, rfl, rfl, rfl, rfl, rfl, rfl, rfl, rfl⟩
theorem mt_qP5 (cp : Nat → Nat) : mk_cp 5 cp 1 0 = cp 0 ∧ mk_cp 5 cp 1 1 = cp 1 ∧ mk_cp 5 cp 1 2 = cp 6 ∧ mk_cp 5 cp 1 3 = cp 2 ∧ mk_cp 5 cp 1 4 = cp 4 ∧ mk_cp 5 cp 1 5 = cp 5 ∧ mk_cp 5 cp 1 6 = cp 7 ∧ mk_cp 5 cp 1 7 = cp 3 := ⟨rfl, rfl, rfl, rfl, rfl, rfl, rfl, rfl⟩
theorem mt_qT5 (co : Nat → Nat) : mk_co 5 co 1 0 = co 0 ∧ mk_co 5 co 1 1 = co 1 ∧ mk_co 5 co 1 2 = (co 6 + 2) % 3 ∧ mk_co 5 co 1 3 = (co 2 + 1) % 3 ∧ mk_co 5 co 1 4 = co 4 ∧ mk_co 5 co 1 5 = co 5 ∧ mk_co 5 co 1 6 = (co 7 + 1) % 3 ∧ mk_co 5 co 1 7 = (co 3 + 2) % 3 := ⟨rfl, rfl, rfl, rfl, rfl, rfl, rfl, rfl⟩
theorem mt_qE5 (ep : Nat → Nat) : mk_ep 5 ep 1 0 = ep 0 ∧ mk_ep 5 ep 1 1 = ep 10 ∧ mk_ep 5 ep 1 2 = ep 2 ∧ mk_ep 5 ep 1 3 = ep 11 ∧ mk_ep 5 ep 1 4 = ep 4 ∧ mk_ep 5 ep 1 5 = ep 5 ∧ mk_ep 5 ep 1 6 = ep 6 ∧ mk_ep 5 ep 1 7 = ep 7 ∧ mk_ep 5 ep 1 8 = ep 8 ∧ mk_ep 5 ep 1 9 = ep 9 ∧ mk_ep 5 ep 1 10 = ep 3 ∧ mk_ep 5 ep 1 11 = ep 1 := ⟨rfl, rfl, rfl, rfl, rfl, rfl, rfl, rfl, rfl, rfl, rfl, rfl⟩
theorem mt_qF5 (eo : Nat → Nat) : mk_eo 5 eo 1 0 = eo 0 ∧ mk_eo 5 eo 1 1 = (eo 10 + 1) % 2 ∧ mk_eo 5 eo 1 2 = eo 2 ∧ mk_eo 5 eo 1 3 = (eo 11 + 1) % 2 ∧ mk_eo 5 eo 1 4 = eo 4 ∧ mk_eo 5 eo 1 5 = eo 5 ∧ mk_eo 5 eo 1 6 = eo 6 ∧ mk_eo 5 eo 1 7 = eo 7 ∧ mk_eo 5 eo 1 8 = eo 8 ∧ mk_eo 5 eo 1 9 = eo 9 ∧ mk_eo 5 eo 1 10 = (eo 3 + 1) % 2 ∧ mk_eo 5 eo 1 11 = (eo 1 + 1) % 2 := ⟨rfl, rfl, rfl, rfl, rfl, rfl, rfl, rfl, rfl, rfl, rfl, rfl⟩
theorem sumC_x (F : Nat → Nat) : mo_sum F 8 = 0 + F 0 + F 1 + F 2 + F 3 + F 4 + F 5 + F 6 + F 7 := rfl
theorem sumC0 (co : Nat → Nat) : mo_sum (mk_co 0 co 1) 8 % 3 = mo_sum co 8 % 3 := by
  obtain ⟨e0, e1, e2, e3, e4, e5, e6, e7⟩ := mt_qT0 co
  rw [sumC_x, sumC_x, e0, e1, e2, e3, e4, e5, e6, e7]
  omega
theorem sumC1 (co : Nat → Nat) : mo_sum (mk_co 1 co 1) 8 % 3 = mo_sum co 8 % 3 := by
  obtain ⟨e0, e1, e2, e3, e4, e5, e6, e7⟩ := mt_qT1 co
  rw [sumC_x, sumC_x, e0, e1, e2, e3, e4, e5, e6, e7]
  omega
theorem sumC2 (co : Nat → Nat) : mo_sum (mk_co 2 co 1) 8 % 3 = mo_sum co 8 % 3 := by
  obtain ⟨e0, e1, e2, e3, e4, e5, e6, e7⟩ := mt_qT2 co
  rw [sumC_x, sumC_x, e0, e1, e2, e3, e4, e5, e6, e7]
  omega
theorem sumC3 (co : Nat → Nat) : mo_sum (mk_co 3 co 1) 8 % 3 = mo_sum co 8 % 3 := by
  obtain ⟨e0, e1, e2, e3, e4, e5, e6, e7⟩ := mt_qT3 co
  rw [sumC_x, sumC_x, e0, e1, e2, e3, e4, e5, e6, e7]
  omega
theorem sumC4 (co : Nat → Nat) : mo_sum (mk_co 4 co 1) 8 % 3 = mo_sum co 8 % 3 := by
  obtain ⟨e0, e1, e2, e3, e4, e5, e6, e7⟩ := mt_qT4 co
  rw [sumC_x, sumC_x, e0, e1, e2, e3, e4, e5, e6, e7]
  omega
theorem sumC5 (co : Nat → Nat) : mo_sum (mk_co 5 co 1) 8 % 3 = mo_sum co 8 % 3 := by
  obtain ⟨e0, e1, e2, e3, e4, e5, e6, e7⟩ := mt_qT5 co
  rw [sumC_x, sumC_x, e0, e1, e2, e3, e4, e5, e6, e7]
  omega
theorem sumC_q {f : Nat} (hf : f < 6) (co : Nat → Nat) : mo_sum (mk_co f co 1) 8 % 3 = mo_sum co 8 % 3 := by
  match f, hf with
  | 0, _ => exact sumC0 co
  | 1, _ => exact sumC1 co
  | 2, _ => exact sumC2 co
  | 3, _ => exact sumC3 co
  | 4, _ => exact sumC4 co
  | 5, _ => exact sumC5 co
theorem sumE_x (F : Nat → Nat) : mo_sum F 12 = 0 + F 0 + F 1 + F 2 + F 3 + F 4 + F 5 + F 6 + F 7 + F 8 + F 9 + F 10 + F 11 := rfl
theorem sumE0 (eo : Nat → Nat) : mo_sum (mk_eo 0 eo 1) 12 % 2 = mo_sum eo 12 % 2 := by
  obtain ⟨e0, e1, e2, e3, e4, e5, e6, e7, mt_e8, e9, e10, e11⟩ := mt_qF0 eo
  rw [sumE_x, sumE_x, e0, e1, e2, e3, e4, e5, e6, e7, mt_e8, e9, e10, e11]
  omega
theorem sumE1 (eo : Nat → Nat) : mo_sum (mk_eo 1 eo 1) 12 % 2 = mo_sum eo 12 % 2 := by
  obtain ⟨e0, e1, e2, e3, e4, e5, e6, e7, mt_e8, e9, e10, e11⟩ := mt_qF1 eo
  rw [sumE_x, sumE_x, e0, e1, e2, e3, e4, e5, e6, e7, mt_e8, e9, e10, e11]
  omega
theorem sumE2 (eo : Nat → Nat) : mo_sum (mk_eo 2 eo 1) 12 % 2 = mo_sum eo 12 % 2 := by
  obtain ⟨e0, e1, e2, e3, e4, e5, e6, e7, mt_e8, e9, e10, e11⟩ := mt_qF2 eo
  rw [sumE_x, sumE_x, e0, e1, e2, e3, e4, e5, e6, e7, mt_e8, e9, e10, e11]
  omega
theorem sumE3 (eo : Nat → Nat) : mo_sum (mk_eo 3 eo 1) 12 % 2 = mo_sum eo 12 % 2 := by
  obtain ⟨e0, e1, e2, e3, e4, e5, e6, e7, mt_e8, e9, e10, e11⟩ := mt_qF3 eo
  rw [sumE_x, sumE_x, e0, e1, e2, e3, e4, e5, e6, e7, mt_e8, e9, e10, e11]
  omega
theorem sumE4 (eo : Nat → Nat) : mo_sum (mk_eo 4 eo 1) 12 % 2 = mo_sum eo 12 % 2 := by
  obtain ⟨e0, e1, e2, e3, e4, e5, e6, e7, mt_e8, e9, e10, e11⟩ := mt_qF4 eo
  rw [sumE_x, sumE_x, e0, e1, e2, e3, e4, e5, e6, e7, mt_e8, e9, e10, e11]
  omega
theorem sumE5 (eo : Nat → Nat) : mo_sum (mk_eo 5 eo 1) 12 % 2 = mo_sum eo 12 % 2 := by
  obtain ⟨e0, e1, e2, e3, e4, e5, e6, e7, mt_e8, e9, e10, e11⟩ := mt_qF5 eo
  rw [sumE_x, sumE_x, e0, e1, e2, e3, e4, e5, e6, e7, mt_e8, e9, e10, e11]
  omega
theorem sumE_q {f : Nat} (hf : f < 6) (eo : Nat → Nat) : mo_sum (mk_eo f eo 1) 12 % 2 = mo_sum eo 12 % 2 := by
  match f, hf with
  | 0, _ => exact sumE0 eo
  | 1, _ => exact sumE1 eo
  | 2, _ => exact sumE2 eo
  | 3, _ => exact sumE3 eo
  | 4, _ => exact sumE4 eo
  | 5, _ => exact sumE5 eo
def mt_tt2 (P : Nat → Nat) (i j : Nat) : Nat := if P j < P i then 1 else 0
def mt_os1 (P : Nat → Nat) (i : Nat) : Nat → Nat
  | 0 => 0
  | s + 1 => mt_os1 P i s + mt_tt2 P i (i + 1 + s)
def mt_os2 (P : Nat → Nat) (nn : Nat) : Nat → Nat
  | 0 => 0
  | i + 1 => mt_os2 P nn i + mt_os1 P i (nn - (i + 1))
theorem od_i_os (P : Nat → Nat) (i b : Nat) : ∀ s, od_i P i (b % 2) s = (b + mt_os1 P i s) % 2 := by
  intro s
  induction s with
  | zero => rfl
  | succ s ih =>
    rw [od_i, mt_os1, mt_tt2, ih]
    split
    · split <;> omega
    · rfl
theorem od_os (P : Nat → Nat) (nn : Nat) : ∀ i, od_ P nn i = mt_os2 P nn i % 2 := by
  intro i
  induction i with
  | zero => rfl
  | succ i ih => rw [od_, mt_os2, ih, od_i_os]
theorem tt2_f {P : Nat → Nat} {a b : Nat} (h : P a ≠ P b) : mt_tt2 P a b + mt_tt2 P b a = 1 := by
  rw [mt_tt2, mt_tt2]
  split <;> split <;> omega
theorem osC_x (P : Nat → Nat) : mt_os2 P 8 8 = ((((((((0 + (((((((0 + mt_tt2 P 0 1) + mt_tt2 P 0 2) + mt_tt2 P 0 3) + mt_tt2 P 0 4) + mt_tt2 P 0 5) + mt_tt2 P 0 6) + mt_tt2 P 0 7)) + ((((((0 + mt_tt2 P 1 2) + mt_tt2 P 1 3) + mt_tt2 P 1 4) + mt_tt2 P 1 5) + mt_tt2 P 1 6) + mt_tt2 P 1 7)) + (((((0 + mt_tt2 P 2 3) + mt_tt2 P 2 4) + mt_tt2 P 2 5) + mt_tt2 P 2 6) + mt_tt2 P 2 7)) + ((((0 + mt_tt2 P 3 4) + mt_tt2 P 3 5) + mt_tt2 P 3 6) + mt_tt2 P 3 7)) + (((0 + mt_tt2 P 4 5) + mt_tt2 P 4 6) + mt_tt2 P 4 7)) + ((0 + mt_tt2 P 5 6) + mt_tt2 P 5 7)) + (0 + mt_tt2 P 6 7)) + 0) := rfl
theorem parC0 (P : Nat → Nat) (h : ∀ i j, i < 8 → j < 8 → P i = P j → i = j) : mt_os2 (mk_cp 0 P 1) 8 8 % 2 = (mt_os2 P 8 8 + 1) % 2 := by
  have e : mt_os2 (mk_cp 0 P 1) 8 8 = ((((((((0 + (((((((0 + mt_tt2 P 0 1) + mt_tt2 P 0 2) + mt_tt2 P 0 3) + mt_tt2 P 0 5) + mt_tt2 P 0 7) + mt_tt2 P 0 4) + mt_tt2 P 0 6)) + ((((((0 + mt_tt2 P 1 2) + mt_tt2 P 1 3) + mt_tt2 P 1 5) + mt_tt2 P 1 7) + mt_tt2 P 1 4) + mt_tt2 P 1 6)) + (((((0 + mt_tt2 P 2 3) + mt_tt2 P 2 5) + mt_tt2 P 2 7) + mt_tt2 P 2 4) + mt_tt2 P 2 6)) + ((((0 + mt_tt2 P 3 5) + mt_tt2 P 3 7) + mt_tt2 P 3 4) + mt_tt2 P 3 6)) + (((0 + mt_tt2 P 5 7) + mt_tt2 P 5 4) + mt_tt2 P 5 6)) + ((0 + mt_tt2 P 7 4) + mt_tt2 P 7 6)) + (0 + mt_tt2 P 4 6)) + 0) := rfl
  have f4_6 := tt2_f (P := P) (a := 5) (b := 4) (fun q => absurd (h _ _ (by decide) (by decide) q) (by decide))
  have f5_6 := tt2_f (P := P) (a := 7) (b := 4) (fun q => absurd (h _ _ (by decide) (by decide) q) (by decide))
  have f5_7 := tt2_f (P := P) (a := 7) (b := 6) (fun q => absurd (h _ _ (by decide) (by decide) q) (by decide))
  rw [e, osC_x]
  omega
theorem parC1 (P : Nat → Nat) (h : ∀ i j, i < 8 → j < 8 → P i = P j → i = j) : mt_os2 (mk_cp 1 P 1) 8 8 % 2 = (mt_os2 P 8 8 + 1) % 2 := by
  have e : mt_os2 (mk_cp 1 P 1) 8 8 = ((((((((0 + (((((((0 + mt_tt2 P 2 0) + mt_tt2 P 2 3) + mt_tt2 P 2 1) + mt_tt2 P 2 4) + mt_tt2 P 2 5) + mt_tt2 P 2 6) + mt_tt2 P 2 7)) + ((((((0 + mt_tt2 P 0 3) + mt_tt2 P 0 1) + mt_tt2 P 0 4) + mt_tt2 P 0 5) + mt_tt2 P 0 6) + mt_tt2 P 0 7)) + (((((0 + mt_tt2 P 3 1) + mt_tt2 P 3 4) + mt_tt2 P 3 5) + mt_tt2 P 3 6) + mt_tt2 P 3 7)) + ((((0 + mt_tt2 P 1 4) + mt_tt2 P 1 5) + mt_tt2 P 1 6) + mt_tt2 P 1 7)) + (((0 + mt_tt2 P 4 5) + mt_tt2 P 4 6) + mt_tt2 P 4 7)) + ((0 + mt_tt2 P 5 6) + mt_tt2 P 5 7)) + (0 + mt_tt2 P 6 7)) + 0) := rfl
  have f0_1 := tt2_f (P := P) (a := 2) (b := 0) (fun q => absurd (h _ _ (by decide) (by decide) q) (by decide))
  have f0_3 := tt2_f (P := P) (a := 2) (b := 1) (fun q => absurd (h _ _ (by decide) (by decide) q) (by decide))
  have f2_3 := tt2_f (P := P) (a := 3) (b := 1) (fun q => absurd (h _ _ (by decide) (by decide) q) (by decide))
  rw [e, osC_x]
  omega
theorem parC2 (P : Nat → Nat) (h : ∀ i j, i < 8 → j < 8 → P i = P j → i = j) : mt_os2 (mk_cp 2 P 1) 8 8 % 2 = (mt_os2 P 8 8 + 1) % 2 := by
  have e : mt_os2 (mk_cp 2 P 1) 8 8 = ((((((((0 + (((((((0 + mt_tt2 P 4 1) + mt_tt2 P 4 0) + mt_tt2 P 4 3) + mt_tt2 P 4 6) + mt_tt2 P 4 5) + mt_tt2 P 4 2) + mt_tt2 P 4 7)) + ((((((0 + mt_tt2 P 1 0) + mt_tt2 P 1 3) + mt_tt2 P 1 6) + mt_tt2 P 1 5) + mt_tt2 P 1 2) + mt_tt2 P 1 7)) + (((((0 + mt_tt2 P 0 3) + mt_tt2 P 0 6) + mt_tt2 P 0 5) + mt_tt2 P 0 2) + mt_tt2 P 0 7)) + ((((0 + mt_tt2 P 3 6) + mt_tt2 P 3 5) + mt_tt2 P 3 2) + mt_tt2 P 3 7)) + (((0 + mt_tt2 P 6 5) + mt_tt2 P 6 2) + mt_tt2 P 6 7)) + ((0 + mt_tt2 P 5 2) + mt_tt2 P 5 7)) + (0 + mt_tt2 P 2 7)) + 0) := rfl
  have f0_1 := tt2_f (P := P) (a := 4) (b := 1) (fun q => absurd (h _ _ (by decide) (by decide) q) (by decide))
  have f0_2 := tt2_f (P := P) (a := 4) (b := 0) (fun q => absurd (h _ _ (by decide) (by decide) q) (by decide))
  have f0_3 := tt2_f (P := P) (a := 4) (b := 3) (fun q => absurd (h _ _ (by decide) (by decide) q) (by decide))
  have f0_6 := tt2_f (P := P) (a := 4) (b := 2) (fun q => absurd (h _ _ (by decide) (by decide) q) (by decide))
  have f1_2 := tt2_f (P := P) (a := 1) (b := 0) (fun q => absurd (h _ _ (by decide) (by decide) q) (by decide))
  have f3_6 := tt2_f (P := P) (a := 3) (b := 2) (fun q => absurd (h _ _ (by decide) (by decide) q) (by decide))
  have f4_5 := tt2_f (P := P) (a := 6) (b := 5) (fun q => absurd (h _ _ (by decide) (by decide) q) (by decide))
  have f4_6 := tt2_f (P := P) (a := 6) (b := 2) (fun q => absurd (h _ _ (by decide) (by decide) q) (by decide))
  have f5_6 := tt2_f (P := P) (a := 5) (b := 2) (fun q => absurd (h _ _ (by decide) (by decide) q) (by decide))
  rw [e, osC_x]
  omega
theorem parC3 (P : Nat → Nat) (h : ∀ i j, i < 8 → j < 8 → P i = P j → i = j) : mt_os2 (mk_cp 3 P 1) 8 8 % 2 = (mt_os2 P 8 8 + 1) % 2 := by
  have e : mt_os2 (mk_cp 3 P 1) 8 8 = ((((((((0 + (((((((0 + mt_tt2 P 0 3) + mt_tt2 P 0 2) + mt_tt2 P 0 7) + mt_tt2 P 0 4) + mt_tt2 P 0 1) + mt_tt2 P 0 6) + mt_tt2 P 0 5)) + ((((((0 + mt_tt2 P 3 2) + mt_tt2 P 3 7) + mt_tt2 P 3 4) + mt_tt2 P 3 1) + mt_tt2 P 3 6) + mt_tt2 P 3 5)) + (((((0 + mt_tt2 P 2 7) + mt_tt2 P 2 4) + mt_tt2 P 2 1) + mt_tt2 P 2 6) + mt_tt2 P 2 5)) + ((((0 + mt_tt2 P 7 4) + mt_tt2 P 7 1) + mt_tt2 P 7 6) + mt_tt2 P 7 5)) + (((0 + mt_tt2 P 4 1) + mt_tt2 P 4 6) + mt_tt2 P 4 5)) + ((0 + mt_tt2 P 1 6) + mt_tt2 P 1 5)) + (0 + mt_tt2 P 6 5)) + 0) := rfl
  have f1_2 := tt2_f (P := P) (a := 3) (b := 2) (fun q => absurd (h _ _ (by decide) (by decide) q) (by decide))
  have f1_5 := tt2_f (P := P) (a := 3) (b := 1) (fun q => absurd (h _ _ (by decide) (by decide) q) (by decide))
  have f2_5 := tt2_f (P := P) (a := 2) (b := 1) (fun q => absurd (h _ _ (by decide) (by decide) q) (by decide))
  have f3_4 := tt2_f (P := P) (a := 7) (b := 4) (fun q => absurd (h _ _ (by decide) (by decide) q) (by decide))
  have f3_5 := tt2_f (P := P) (a := 7) (b := 1) (fun q => absurd (h _ _ (by decide) (by decide) q) (by decide))
  have f3_6 := tt2_f (P := P) (a := 7) (b := 6) (fun q => absurd (h _ _ (by decide) (by decide) q) (by decide))
  have f3_7 := tt2_f (P := P) (a := 7) (b := 5) (fun q => absurd (h _ _ (by decide) (by decide) q) (by decide))
  have f4_5 := tt2_f (P := P) (a := 4) (b := 1) (fun q => absurd (h _ _ (by decide) (by decide) q) (by decide))
  have f6_7 := tt2_f (P := P) (a := 6) (b := 5) (fun q => absurd (h _ _ (by decide) (by decide) q) (by decide))
  rw [e, osC_x]
  omega
theorem parC4 (P : Nat → Nat) (h : ∀ i j, i < 8 → j < 8 → P i = P j → i = j) : mt_os2 (mk_cp 4 P 1) 8 8 % 2 = (mt_os2 P 8 8 + 1) % 2 := by
  have e : mt_os2 (mk_cp 4 P 1) 8 8 = ((((((((0 + (((((((0 + mt_tt2 P 1 5) + mt_tt2 P 1 2) + mt_tt2 P 1 3) + mt_tt2 P 1 0) + mt_tt2 P 1 4) + mt_tt2 P 1 6) + mt_tt2 P 1 7)) + ((((((0 + mt_tt2 P 5 2) + mt_tt2 P 5 3) + mt_tt2 P 5 0) + mt_tt2 P 5 4) + mt_tt2 P 5 6) + mt_tt2 P 5 7)) + (((((0 + mt_tt2 P 2 3) + mt_tt2 P 2 0) + mt_tt2 P 2 4) + mt_tt2 P 2 6) + mt_tt2 P 2 7)) + ((((0 + mt_tt2 P 3 0) + mt_tt2 P 3 4) + mt_tt2 P 3 6) + mt_tt2 P 3 7)) + (((0 + mt_tt2 P 0 4) + mt_tt2 P 0 6) + mt_tt2 P 0 7)) + ((0 + mt_tt2 P 4 6) + mt_tt2 P 4 7)) + (0 + mt_tt2 P 6 7)) + 0) := rfl
  have f0_4 := tt2_f (P := P) (a := 1) (b := 0) (fun q => absurd (h _ _ (by decide) (by decide) q) (by decide))
  have f1_2 := tt2_f (P := P) (a := 5) (b := 2) (fun q => absurd (h _ _ (by decide) (by decide) q) (by decide))
  have f1_3 := tt2_f (P := P) (a := 5) (b := 3) (fun q => absurd (h _ _ (by decide) (by decide) q) (by decide))
  have f1_4 := tt2_f (P := P) (a := 5) (b := 0) (fun q => absurd (h _ _ (by decide) (by decide) q) (by decide))
  have f1_5 := tt2_f (P := P) (a := 5) (b := 4) (fun q => absurd (h _ _ (by decide) (by decide) q) (by decide))
  have f2_4 := tt2_f (P := P) (a := 2) (b := 0) (fun q => absurd (h _ _ (by decide) (by decide) q) (by decide))
  have f3_4 := tt2_f (P := P) (a := 3) (b := 0) (fun q => absurd (h _ _ (by decide) (by decide) q) (by decide))
  rw [e, osC_x]
  omega
theorem parC5 (P : Nat → Nat) (h : ∀ i j, i < 8 → j < 8 → P i = P j → i = j) : mt_os2 (mk_cp 5 P 1) 8 8 % 2 = (mt_os2 P 8 8 + 1) % 2 := by
  have e : mt_os2 (mk_cp 5 P 1) 8 8 = ((((((((0 + (((((((0 + mt_tt2 P 0 1) + mt_tt2 P 0 6) + mt_tt2 P 0 2) + mt_tt2 P 0 4) + mt_tt2 P 0 5) + mt_tt2 P 0 7) + mt_tt2 P 0 3)) + ((((((0 + mt_tt2 P 1 6) + mt_tt2 P 1 2) + mt_tt2 P 1 4) + mt_tt2 P 1 5) + mt_tt2 P 1 7) + mt_tt2 P 1 3)) + (((((0 + mt_tt2 P 6 2) + mt_tt2 P 6 4) + mt_tt2 P 6 5) + mt_tt2 P 6 7) + mt_tt2 P 6 3)) + ((((0 + mt_tt2 P 2 4) + mt_tt2 P 2 5) + mt_tt2 P 2 7) + mt_tt2 P 2 3)) + (((0 + mt_tt2 P 4 5) + mt_tt2 P 4 7) + mt_tt2 P 4 3)) + ((0 + mt_tt2 P 5 7) + mt_tt2 P 5 3)) + (0 + mt_tt2 P 7 3)) + 0) := rfl
  have f2_3 := tt2_f (P := P) (a := 6) (b := 2) (fun q => absurd (h _ _ (by decide) (by decide) q) (by decide))
  have f2_4 := tt2_f (P := P) (a := 6) (b := 4) (fun q => absurd (h _ _ (by decide) (by decide) q) (by decide))
  have f2_5 := tt2_f (P := P) (a := 6) (b := 5) (fun q => absurd (h _ _ (by decide) (by decide) q) (by decide))
  have f2_7 := tt2_f (P := P) (a := 6) (b := 3) (fun q => absurd (h _ _ (by decide) (by decide) q) (by decide))
  have f4_7 := tt2_f (P := P) (a := 4) (b := 3) (fun q => absurd (h _ _ (by decide) (by decide) q) (by decide))
  have f5_7 := tt2_f (P := P) (a := 5) (b := 3) (fun q => absurd (h _ _ (by decide) (by decide) q) (by decide))
  have f6_7 := tt2_f (P := P) (a := 7) (b := 3) (fun q => absurd (h _ _ (by decide) (by decide) q) (by decide))
  rw [e, osC_x]
  omega
theorem parC_q {f : Nat} (hf : f < 6) (P : Nat → Nat) (h : ∀ i j, i < 8 → j < 8 → P i = P j → i = j) : od_ (mk_cp f P 1) 8 8 = 1 - od_ P 8 8 := by
  have e : mt_os2 (mk_cp f P 1) 8 8 % 2 = (mt_os2 P 8 8 + 1) % 2 := by
    match f, hf with
    | 0, _ => exact parC0 P h
    | 1, _ => exact parC1 P h
    | 2, _ => exact parC2 P h
    | 3, _ => exact parC3 P h
    | 4, _ => exact parC4 P h
    | 5, _ => exact parC5 P h
  rw [od_os, od_os, e]
  omega
theorem osE_x (P : Nat → Nat) : mt_os2 P 12 12 = ((((((((((((0 + (((((((((((0 + mt_tt2 P 0 1) + mt_tt2 P 0 2) + mt_tt2 P 0 3) + mt_tt2 P 0 4) + mt_tt2 P 0 5) + mt_tt2 P 0 6) + mt_tt2 P 0 7) + mt_tt2 P 0 8) + mt_tt2 P 0 9) + mt_tt2 P 0 10) + mt_tt2 P 0 11)) + ((((((((((0 + mt_tt2 P 1 2) + mt_tt2 P 1 3) + mt_tt2 P 1 4) + mt_tt2 P 1 5) + mt_tt2 P 1 6) + mt_tt2 P 1 7) + mt_tt2 P 1 8) + mt_tt2 P 1 9) + mt_tt2 P 1 10) + mt_tt2 P 1 11)) + (((((((((0 + mt_tt2 P 2 3) + mt_tt2 P 2 4) + mt_tt2 P 2 5) + mt_tt2 P 2 6) + mt_tt2 P 2 7) + mt_tt2 P 2 8) + mt_tt2 P 2 9) + mt_tt2 P 2 10) + mt_tt2 P 2 11)) + ((((((((0 + mt_tt2 P 3 4) + mt_tt2 P 3 5) + mt_tt2 P 3 6) + mt_tt2 P 3 7) + mt_tt2 P 3 8) + mt_tt2 P 3 9) + mt_tt2 P 3 10) + mt_tt2 P 3 11)) + (((((((0 + mt_tt2 P 4 5) + mt_tt2 P 4 6) + mt_tt2 P 4 7) + mt_tt2 P 4 8) + mt_tt2 P 4 9) + mt_tt2 P 4 10) + mt_tt2 P 4 11)) + ((((((0 + mt_tt2 P 5 6) + mt_tt2 P 5 7) + mt_tt2 P 5 8) + mt_tt2 P 5 9) + mt_tt2 P 5 10) + mt_tt2 P 5 11)) + (((((0 + mt_tt2 P 6 7) + mt_tt2 P 6 8) + mt_tt2 P 6 9) + mt_tt2 P 6 10) + mt_tt2 P 6 11)) + ((((0 + mt_tt2 P 7 8) + mt_tt2 P 7 9) + mt_tt2 P 7 10) + mt_tt2 P 7 11)) + (((0 + mt_tt2 P 8 9) + mt_tt2 P 8 10) + mt_tt2 P 8 11)) + ((0 + mt_tt2 P 9 10) + mt_tt2 P 9 11)) + (0 + mt_tt2 P 10 11)) + 0) := rfl
theorem parE0 (P : Nat → Nat) (h : ∀ i j, i < 12 → j < 12 → P i = P j → i = j) : mt_os2 (mk_ep 0 P 1) 12 12 % 2 = (mt_os2 P 12 12 + 1) % 2 := by
  have e : mt_os2 (mk_ep 0 P 1) 12 12 = ((((((((((((0 + (((((((((((0 + mt_tt2 P 0 1) + mt_tt2 P 0 7) + mt_tt2 P 0 6) + mt_tt2 P 0 4) + mt_tt2 P 0 5) + mt_tt2 P 0 2) + mt_tt2 P 0 3) + mt_tt2 P 0 8) + mt_tt2 P 0 9) + mt_tt2 P 0 10) + mt_tt2 P 0 11)) + ((((((((((0 + mt_tt2 P 1 7) + mt_tt2 P 1 6) + mt_tt2 P 1 4) + mt_tt2 P 1 5) + mt_tt2 P 1 2) + mt_tt2 P 1 3) + mt_tt2 P 1 8) + mt_tt2 P 1 9) + mt_tt2 P 1 10) + mt_tt2 P 1 11)) + (((((((((0 + mt_tt2 P 7 6) + mt_tt2 P 7 4) + mt_tt2 P 7 5) + mt_tt2 P 7 2) + mt_tt2 P 7 3) + mt_tt2 P 7 8) + mt_tt2 P 7 9) + mt_tt2 P 7 10) + mt_tt2 P 7 11)) + ((((((((0 + mt_tt2 P 6 4) + mt_tt2 P 6 5) + mt_tt2 P 6 2) + mt_tt2 P 6 3) + mt_tt2 P 6 8) + mt_tt2 P 6 9) + mt_tt2 P 6 10) + mt_tt2 P 6 11)) + (((((((0 + mt_tt2 P 4 5) + mt_tt2 P 4 2) + mt_tt2 P 4 3) + mt_tt2 P 4 8) + mt_tt2 P 4 9) + mt_tt2 P 4 10) + mt_tt2 P 4 11)) + ((((((0 + mt_tt2 P 5 2) + mt_tt2 P 5 3) + mt_tt2 P 5 8) + mt_tt2 P 5 9) + mt_tt2 P 5 10) + mt_tt2 P 5 11)) + (((((0 + mt_tt2 P 2 3) + mt_tt2 P 2 8) + mt_tt2 P 2 9) + mt_tt2 P 2 10) + mt_tt2 P 2 11)) + ((((0 + mt_tt2 P 3 8) + mt_tt2 P 3 9) + mt_tt2 P 3 10) + mt_tt2 P 3 11)) + (((0 + mt_tt2 P 8 9) + mt_tt2 P 8 10) + mt_tt2 P 8 11)) + ((0 + mt_tt2 P 9 10) + mt_tt2 P 9 11)) + (0 + mt_tt2 P 10 11)) + 0) := rfl
  have f2_3 := tt2_f (P := P) (a := 7) (b := 6) (fun q => absurd (h _ _ (by decide) (by decide) q) (by decide))
  have f2_4 := tt2_f (P := P) (a := 7) (b := 4) (fun q => absurd (h _ _ (by decide) (by decide) q) (by decide))
  have f2_5 := tt2_f (P := P) (a := 7) (b := 5) (fun q => absurd (h _ _ (by decide) (by decide) q) (by decide))
  have f2_6 := tt2_f (P := P) (a := 7) (b := 2) (fun q => absurd (h _ _ (by decide) (by decide) q) (by decide))
  have f2_7 := tt2_f (P := P) (a := 7) (b := 3) (fun q => absurd (h _ _ (by decide) (by decide) q) (by decide))
  have f3_4 := tt2_f (P := P) (a := 6) (b := 4) (fun q => absurd (h _ _ (by decide) (by decide) q) (by decide))
  have f3_5 := tt2_f (P := P) (a := 6) (b := 5) (fun q => absurd (h _ _ (by decide) (by decide) q) (by decide))
  have f3_6 := tt2_f (P := P) (a := 6) (b := 2) (fun q => absurd (h _ _ (by decide) (by decide) q) (by decide))
  have f3_7 := tt2_f (P := P) (a := 6) (b := 3) (fun q => absurd (h _ _ (by decide) (by decide) q) (by decide))
  have f4_6 := tt2_f (P := P) (a := 4) (b := 2) (fun q => absurd (h _ _ (by decide) (by decide) q) (by decide))
  have f4_7 := tt2_f (P := P) (a := 4) (b := 3) (fun q => absurd (h _ _ (by decide) (by decide) q) (by decide))
  have f5_6 := tt2_f (P := P) (a := 5) (b := 2) (fun q => absurd (h _ _ (by decide) (by decide) q) (by decide))
  have f5_7 := tt2_f (P := P) (a := 5) (b := 3) (fun q => absurd (h _ _ (by decide) (by decide) q) (by decide))
  rw [e, osE_x]
  omega
theorem parE1 (P : Nat → Nat) (h : ∀ i j, i < 12 → j < 12 → P i = P j → i = j) : mt_os2 (mk_ep 1 P 1) 12 12 % 2 = (mt_os2 P 12 12 + 1) % 2 := by
  have e : mt_os2 (mk_ep 1 P 1) 12 12 = ((((((((((((0 + (((((((((((0 + mt_tt2 P 4 5) + mt_tt2 P 4 2) + mt_tt2 P 4 3) + mt_tt2 P 4 1) + mt_tt2 P 4 0) + mt_tt2 P 4 6) + mt_tt2 P 4 7) + mt_tt2 P 4 8) + mt_tt2 P 4 9) + mt_tt2 P 4 10) + mt_tt2 P 4 11)) + ((((((((((0 + mt_tt2 P 5 2) + mt_tt2 P 5 3) + mt_tt2 P 5 1) + mt_tt2 P 5 0) + mt_tt2 P 5 6) + mt_tt2 P 5 7) + mt_tt2 P 5 8) + mt_tt2 P 5 9) + mt_tt2 P 5 10) + mt_tt2 P 5 11)) + (((((((((0 + mt_tt2 P 2 3) + mt_tt2 P 2 1) + mt_tt2 P 2 0) + mt_tt2 P 2 6) + mt_tt2 P 2 7) + mt_tt2 P 2 8) + mt_tt2 P 2 9) + mt_tt2 P 2 10) + mt_tt2 P 2 11)) + ((((((((0 + mt_tt2 P 3 1) + mt_tt2 P 3 0) + mt_tt2 P 3 6) + mt_tt2 P 3 7) + mt_tt2 P 3 8) + mt_tt2 P 3 9) + mt_tt2 P 3 10) + mt_tt2 P 3 11)) + (((((((0 + mt_tt2 P 1 0) + mt_tt2 P 1 6) + mt_tt2 P 1 7) + mt_tt2 P 1 8) + mt_tt2 P 1 9) + mt_tt2 P 1 10) + mt_tt2 P 1 11)) + ((((((0 + mt_tt2 P 0 6) + mt_tt2 P 0 7) + mt_tt2 P 0 8) + mt_tt2 P 0 9) + mt_tt2 P 0 10) + mt_tt2 P 0 11)) + (((((0 + mt_tt2 P 6 7) + mt_tt2 P 6 8) + mt_tt2 P 6 9) + mt_tt2 P 6 10) + mt_tt2 P 6 11)) + ((((0 + mt_tt2 P 7 8) + mt_tt2 P 7 9) + mt_tt2 P 7 10) + mt_tt2 P 7 11)) + (((0 + mt_tt2 P 8 9) + mt_tt2 P 8 10) + mt_tt2 P 8 11)) + ((0 + mt_tt2 P 9 10) + mt_tt2 P 9 11)) + (0 + mt_tt2 P 10 11)) + 0) := rfl
  have f0_2 := tt2_f (P := P) (a := 4) (b := 2) (fun q => absurd (h _ _ (by decide) (by decide) q) (by decide))
  have f0_3 := tt2_f (P := P) (a := 4) (b := 3) (fun q => absurd (h _ _ (by decide) (by decide) q) (by decide))
  have f0_4 := tt2_f (P := P) (a := 4) (b := 1) (fun q => absurd (h _ _ (by decide) (by decide) q) (by decide))
  have f0_5 := tt2_f (P := P) (a := 4) (b := 0) (fun q => absurd (h _ _ (by decide) (by decide) q) (by decide))
  have f1_2 := tt2_f (P := P) (a := 5) (b := 2) (fun q => absurd (h _ _ (by decide) (by decide) q) (by decide))
  have f1_3 := tt2_f (P := P) (a := 5) (b := 3) (fun q => absurd (h _ _ (by decide) (by decide) q) (by decide))
  have f1_4 := tt2_f (P := P) (a := 5) (b := 1) (fun q => absurd (h _ _ (by decide) (by decide) q) (by decide))
  have f1_5 := tt2_f (P := P) (a := 5) (b := 0) (fun q => absurd (h _ _ (by decide) (by decide) q) (by decide))
  have f2_4 := tt2_f (P := P) (a := 2) (b := 1) (fun q => absurd (h _ _ (by decide) (by decide) q) (by decide))
  have f2_5 := tt2_f (P := P) (a := 2) (b := 0) (fun q => absurd (h _ _ (by decide) (by decide) q) (by decide))
  have f3_4 := tt2_f (P := P) (a := 3) (b := 1) (fun q => absurd (h _ _ (by decide) (by decide) q) (by decide))
  have f3_5 := tt2_f (P := P) (a := 3) (b := 0) (fun q => absurd (h _ _ (by decide) (by decide) q) (by decide))
  have f4_5 := tt2_f (P := P) (a := 1) (b := 0) (fun q => absurd (h _ _ (by decide) (by decide) q) (by decide))
  rw [e, osE_x]
  omega
theorem parE2 (P : Nat → Nat) (h : ∀ i j, i < 12 → j < 12 → P i = P j → i = j) : mt_os2 (mk_ep 2 P 1) 12 12 % 2 = (mt_os2 P 12 12 + 1) % 2 := by
  have e : mt_os2 (mk_ep 2 P 1) 12 12 = ((((((((((((0 + (((((((((((0 + mt_tt2 P 0 1) + mt_tt2 P 0 2) + mt_tt2 P 0 3) + mt_tt2 P 0 8) + mt_tt2 P 0 5) + mt_tt2 P 0 10) + mt_tt2 P 0 7) + mt_tt2 P 0 6) + mt_tt2 P 0 9) + mt_tt2 P 0 4) + mt_tt2 P 0 11)) + ((((((((((0 + mt_tt2 P 1 2) + mt_tt2 P 1 3) + mt_tt2 P 1 8) + mt_tt2 P 1 5) + mt_tt2 P 1 10) + mt_tt2 P 1 7) + mt_tt2 P 1 6) + mt_tt2 P 1 9) + mt_tt2 P 1 4) + mt_tt2 P 1 11)) + (((((((((0 + mt_tt2 P 2 3) + mt_tt2 P 2 8) + mt_tt2 P 2 5) + mt_tt2 P 2 10) + mt_tt2 P 2 7) + mt_tt2 P 2 6) + mt_tt2 P 2 9) + mt_tt2 P 2 4) + mt_tt2 P 2 11)) + ((((((((0 + mt_tt2 P 3 8) + mt_tt2 P 3 5) + mt_tt2 P 3 10) + mt_tt2 P 3 7) + mt_tt2 P 3 6) + mt_tt2 P 3 9) + mt_tt2 P 3 4) + mt_tt2 P 3 11)) + (((((((0 + mt_tt2 P 8 5) + mt_tt2 P 8 10) + mt_tt2 P 8 7) + mt_tt2 P 8 6) + mt_tt2 P 8 9) + mt_tt2 P 8 4) + mt_tt2 P 8 11)) + ((((((0 + mt_tt2 P 5 10) + mt_tt2 P 5 7) + mt_tt2 P 5 6) + mt_tt2 P 5 9) + mt_tt2 P 5 4) + mt_tt2 P 5 11)) + (((((0 + mt_tt2 P 10 7) + mt_tt2 P 10 6) + mt_tt2 P 10 9) + mt_tt2 P 10 4) + mt_tt2 P 10 11)) + ((((0 + mt_tt2 P 7 6) + mt_tt2 P 7 9) + mt_tt2 P 7 4) + mt_tt2 P 7 11)) + (((0 + mt_tt2 P 6 9) + mt_tt2 P 6 4) + mt_tt2 P 6 11)) + ((0 + mt_tt2 P 9 4) + mt_tt2 P 9 11)) + (0 + mt_tt2 P 4 11)) + 0) := rfl
  have f4_5 := tt2_f (P := P) (a := 8) (b := 5) (fun q => absurd (h _ _ (by decide) (by decide) q) (by decide))
  have f4_7 := tt2_f (P := P) (a := 8) (b := 7) (fun q => absurd (h _ _ (by decide) (by decide) q) (by decide))
  have f4_8 := tt2_f (P := P) (a := 8) (b := 6) (fun q => absurd (h _ _ (by decide) (by decide) q) (by decide))
  have f4_10 := tt2_f (P := P) (a := 8) (b := 4) (fun q => absurd (h _ _ (by decide) (by decide) q) (by decide))
  have f5_10 := tt2_f (P := P) (a := 5) (b := 4) (fun q => absurd (h _ _ (by decide) (by decide) q) (by decide))
  have f6_7 := tt2_f (P := P) (a := 10) (b := 7) (fun q => absurd (h _ _ (by decide) (by decide) q) (by decide))
  have f6_8 := tt2_f (P := P) (a := 10) (b := 6) (fun q => absurd (h _ _ (by decide) (by decide) q) (by decide))
  have f6_9 := tt2_f (P := P) (a := 10) (b := 9) (fun q => absurd (h _ _ (by decide) (by decide) q) (by decide))
  have f6_10 := tt2_f (P := P) (a := 10) (b := 4) (fun q => absurd (h _ _ (by decide) (by decide) q) (by decide))
  have f7_8 := tt2_f (P := P) (a := 7) (b := 6) (fun q => absurd (h _ _ (by decide) (by decide) q) (by decide))
  have f7_10 := tt2_f (P := P) (a := 7) (b := 4) (fun q => absurd (h _ _ (by decide) (by decide) q) (by decide))
  have f8_10 := tt2_f (P := P) (a := 6) (b := 4) (fun q => absurd (h _ _ (by decide) (by decide) q) (by decide))
  have f9_10 := tt2_f (P := P) (a := 9) (b := 4) (fun q => absurd (h _ _ (by decide) (by decide) q) (by decide))
  rw [e, osE_x]
  omega
theorem parE3 (P : Nat → Nat) (h : ∀ i j, i < 12 → j < 12 → P i = P j → i = j) : mt_os2 (mk_ep 3 P 1) 12 12 % 2 = (mt_os2 P 12 12 + 1) % 2 := by
  have e : mt_os2 (mk_ep 3 P 1) 12 12 = ((((((((((((0 + (((((((((((0 + mt_tt2 P 0 1) + mt_tt2 P 0 2) + mt_tt2 P 0 3) + mt_tt2 P 0 4) + mt_tt2 P 0 11) + mt_tt2 P 0 6) + mt_tt2 P 0 9) + mt_tt2 P 0 8) + mt_tt2 P 0 5) + mt_tt2 P 0 10) + mt_tt2 P 0 7)) + ((((((((((0 + mt_tt2 P 1 2) + mt_tt2 P 1 3) + mt_tt2 P 1 4) + mt_tt2 P 1 11) + mt_tt2 P 1 6) + mt_tt2 P 1 9) + mt_tt2 P 1 8) + mt_tt2 P 1 5) + mt_tt2 P 1 10) + mt_tt2 P 1 7)) + (((((((((0 + mt_tt2 P 2 3) + mt_tt2 P 2 4) + mt_tt2 P 2 11) + mt_tt2 P 2 6) + mt_tt2 P 2 9) + mt_tt2 P 2 8) + mt_tt2 P 2 5) + mt_tt2 P 2 10) + mt_tt2 P 2 7)) + ((((((((0 + mt_tt2 P 3 4) + mt_tt2 P 3 11) + mt_tt2 P 3 6) + mt_tt2 P 3 9) + mt_tt2 P 3 8) + mt_tt2 P 3 5) + mt_tt2 P 3 10) + mt_tt2 P 3 7)) + (((((((0 + mt_tt2 P 4 11) + mt_tt2 P 4 6) + mt_tt2 P 4 9) + mt_tt2 P 4 8) + mt_tt2 P 4 5) + mt_tt2 P 4 10) + mt_tt2 P 4 7)) + ((((((0 + mt_tt2 P 11 6) + mt_tt2 P 11 9) + mt_tt2 P 11 8) + mt_tt2 P 11 5) + mt_tt2 P 11 10) + mt_tt2 P 11 7)) + (((((0 + mt_tt2 P 6 9) + mt_tt2 P 6 8) + mt_tt2 P 6 5) + mt_tt2 P 6 10) + mt_tt2 P 6 7)) + ((((0 + mt_tt2 P 9 8) + mt_tt2 P 9 5) + mt_tt2 P 9 10) + mt_tt2 P 9 7)) + (((0 + mt_tt2 P 8 5) + mt_tt2 P 8 10) + mt_tt2 P 8 7)) + ((0 + mt_tt2 P 5 10) + mt_tt2 P 5 7)) + (0 + mt_tt2 P 10 7)) + 0) := rfl
  have f5_6 := tt2_f (P := P) (a := 11) (b := 6) (fun q => absurd (h _ _ (by decide) (by decide) q) (by decide))
  have f5_7 := tt2_f (P := P) (a := 11) (b := 9) (fun q => absurd (h _ _ (by decide) (by decide) q) (by decide))
  have f5_8 := tt2_f (P := P) (a := 11) (b := 8) (fun q => absurd (h _ _ (by decide) (by decide) q) (by decide))
  have f5_9 := tt2_f (P := P) (a := 11) (b := 5) (fun q => absurd (h _ _ (by decide) (by decide) q) (by decide))
  have f5_10 := tt2_f (P := P) (a := 11) (b := 10) (fun q => absurd (h _ _ (by decide) (by decide) q) (by decide))
  have f5_11 := tt2_f (P := P) (a := 11) (b := 7) (fun q => absurd (h _ _ (by decide) (by decide) q) (by decide))
  have f6_9 := tt2_f (P := P) (a := 6) (b := 5) (fun q => absurd (h _ _ (by decide) (by decide) q) (by decide))
  have f7_8 := tt2_f (P := P) (a := 9) (b := 8) (fun q => absurd (h _ _ (by decide) (by decide) q) (by decide))
  have f7_9 := tt2_f (P := P) (a := 9) (b := 5) (fun q => absurd (h _ _ (by decide) (by decide) q) (by decide))
  have f7_11 := tt2_f (P := P) (a := 9) (b := 7) (fun q => absurd (h _ _ (by decide) (by decide) q) (by decide))
  have f8_9 := tt2_f (P := P) (a := 8) (b := 5) (fun q => absurd (h _ _ (by decide) (by decide) q) (by decide))
  have f8_11 := tt2_f (P := P) (a := 8) (b := 7) (fun q => absurd (h _ _ (by decide) (by decide) q) (by decide))
  have f10_11 := tt2_f (P := P) (a := 10) (b := 7) (fun q => absurd (h _ _ (by decide) (by decide) q) (by decide))
  rw [e, osE_x]
  omega
theorem parE4 (P : Nat → Nat) (h : ∀ i j, i < 12 → j < 12 → P i = P j → i = j) : mt_os2 (mk_ep 4 P 1) 12 12 % 2 = (mt_os2 P 12 12 + 1) % 2 := by
  have e : mt_os2 (mk_ep 4 P 1) 12 12 = ((((((((((((0 + (((((((((((0 + mt_tt2 P 9 1) + mt_tt2 P 9 8) + mt_tt2 P 9 3) + mt_tt2 P 9 4) + mt_tt2 P 9 5) + mt_tt2 P 9 6) + mt_tt2 P 9 7) + mt_tt2 P 9 0) + mt_tt2 P 9 2) + mt_tt2 P 9 10) + mt_tt2 P 9 11)) + ((((((((((0 + mt_tt2 P 1 8) + mt_tt2 P 1 3) + mt_tt2 P 1 4) + mt_tt2 P 1 5) + mt_tt2 P 1 6) + mt_tt2 P 1 7) + mt_tt2 P 1 0) + mt_tt2 P 1 2) + mt_tt2 P 1 10) + mt_tt2 P 1 11)) + (((((((((0 + mt_tt2 P 8 3) + mt_tt2 P 8 4) + mt_tt2 P 8 5) + mt_tt2 P 8 6) + mt_tt2 P 8 7) + mt_tt2 P 8 0) + mt_tt2 P 8 2) + mt_tt2 P 8 10) + mt_tt2 P 8 11)) + ((((((((0 + mt_tt2 P 3 4) + mt_tt2 P 3 5) + mt_tt2 P 3 6) + mt_tt2 P 3 7) + mt_tt2 P 3 0) + mt_tt2 P 3 2) + mt_tt2 P 3 10) + mt_tt2 P 3 11)) + (((((((0 + mt_tt2 P 4 5) + mt_tt2 P 4 6) + mt_tt2 P 4 7) + mt_tt2 P 4 0) + mt_tt2 P 4 2) + mt_tt2 P 4 10) + mt_tt2 P 4 11)) + ((((((0 + mt_tt2 P 5 6) + mt_tt2 P 5 7) + mt_tt2 P 5 0) + mt_tt2 P 5 2) + mt_tt2 P 5 10) + mt_tt2 P 5 11)) + (((((0 + mt_tt2 P 6 7) + mt_tt2 P 6 0) + mt_tt2 P 6 2) + mt_tt2 P 6 10) + mt_tt2 P 6 11)) + ((((0 + mt_tt2 P 7 0) + mt_tt2 P 7 2) + mt_tt2 P 7 10) + mt_tt2 P 7 11)) + (((0 + mt_tt2 P 0 2) + mt_tt2 P 0 10) + mt_tt2 P 0 11)) + ((0 + mt_tt2 P 2 10) + mt_tt2 P 2 11)) + (0 + mt_tt2 P 10 11)) + 0) := rfl
  have f0_1 := tt2_f (P := P) (a := 9) (b := 1) (fun q => absurd (h _ _ (by decide) (by decide) q) (by decide))
  have f0_2 := tt2_f (P := P) (a := 9) (b := 8) (fun q => absurd (h _ _ (by decide) (by decide) q) (by decide))
  have f0_3 := tt2_f (P := P) (a := 9) (b := 3) (fun q => absurd (h _ _ (by decide) (by decide) q) (by decide))
  have f0_4 := tt2_f (P := P) (a := 9) (b := 4) (fun q => absurd (h _ _ (by decide) (by decide) q) (by decide))
  have f0_5 := tt2_f (P := P) (a := 9) (b := 5) (fun q => absurd (h _ _ (by decide) (by decide) q) (by decide))
  have f0_6 := tt2_f (P := P) (a := 9) (b := 6) (fun q => absurd (h _ _ (by decide) (by decide) q) (by decide))
  have f0_7 := tt2_f (P := P) (a := 9) (b := 7) (fun q => absurd (h _ _ (by decide) (by decide) q) (by decide))
  have f0_8 := tt2_f (P := P) (a := 9) (b := 0) (fun q => absurd (h _ _ (by decide) (by decide) q) (by decide))
  have f0_9 := tt2_f (P := P) (a := 9) (b := 2) (fun q => absurd (h _ _ (by decide) (by decide) q) (by decide))
  have f1_8 := tt2_f (P := P) (a := 1) (b := 0) (fun q => absurd (h _ _ (by decide) (by decide) q) (by decide))
  have f2_3 := tt2_f (P := P) (a := 8) (b := 3) (fun q => absurd (h _ _ (by decide) (by decide) q) (by decide))
  have f2_4 := tt2_f (P := P) (a := 8) (b := 4) (fun q => absurd (h _ _ (by decide) (by decide) q) (by decide))
  have f2_5 := tt2_f (P := P) (a := 8) (b := 5) (fun q => absurd (h _ _ (by decide) (by decide) q) (by decide))
  have f2_6 := tt2_f (P := P) (a := 8) (b := 6) (fun q => absurd (h _ _ (by decide) (by decide) q) (by decide))
  have f2_7 := tt2_f (P := P) (a := 8) (b := 7) (fun q => absurd (h _ _ (by decide) (by decide) q) (by decide))
  have f2_8 := tt2_f (P := P) (a := 8) (b := 0) (fun q => absurd (h _ _ (by decide) (by decide) q) (by decide))
  have f2_9 := tt2_f (P := P) (a := 8) (b := 2) (fun q => absurd (h _ _ (by decide) (by decide) q) (by decide))
  have f3_8 := tt2_f (P := P) (a := 3) (b := 0) (fun q => absurd (h _ _ (by decide) (by decide) q) (by decide))
  have f3_9 := tt2_f (P := P) (a := 3) (b := 2) (fun q => absurd (h _ _ (by decide) (by decide) q) (by decide))
  have f4_8 := tt2_f (P := P) (a := 4) (b := 0) (fun q => absurd (h _ _ (by decide) (by decide) q) (by decide))
  have f4_9 := tt2_f (P := P) (a := 4) (b := 2) (fun q => absurd (h _ _ (by decide) (by decide) q) (by decide))
  have f5_8 := tt2_f (P := P) (a := 5) (b := 0) (fun q => absurd (h _ _ (by decide) (by decide) q) (by decide))
  have f5_9 := tt2_f (P := P) (a := 5) (b := 2) (fun q => absurd (h _ _ (by decide) (by decide) q) (by decide))
  have f6_8 := tt2_f (P := P) (a := 6) (b := 0) (fun q => absurd (h _ _ (by decide) (by decide) q) (by decide))
  have f6_9 := tt2_f (P := P) (a := 6) (b := 2) (fun q => absurd (h _ _ (by decide) (by decide) q) (by decide))
  have f7_8 := tt2_f (P := P) (a := 7) (b := 0) (fun q => absurd (h _ _ (by decide) (by decide) q) (by decide))
  have f7_9 := tt2_f (P := P) (a := 7) (b := 2) (fun q => absurd (h _ _ (by decide) (by decide) q) (by decide))
  rw [e, osE_x]
  omega
theorem parE5 (P : Nat → Nat) (h : ∀ i j, i < 12 → j < 12 → P i = P j → i = j) : mt_os2 (mk_ep 5 P 1) 12 12 % 2 = (mt_os2 P 12 12 + 1) % 2 := by
  have e : mt_os2 (mk_ep 5 P 1) 12 12 = ((((((((((((0 + (((((((((((0 + mt_tt2 P 0 10) + mt_tt2 P 0 2) + mt_tt2 P 0 11) + mt_tt2 P 0 4) + mt_tt2 P 0 5) + mt_tt2 P 0 6) + mt_tt2 P 0 7) + mt_tt2 P 0 8) + mt_tt2 P 0 9) + mt_tt2 P 0 3) + mt_tt2 P 0 1)) + ((((((((((0 + mt_tt2 P 10 2) + mt_tt2 P 10 11) + mt_tt2 P 10 4) + mt_tt2 P 10 5) + mt_tt2 P 10 6) + mt_tt2 P 10 7) + mt_tt2 P 10 8) + mt_tt2 P 10 9) + mt_tt2 P 10 3) + mt_tt2 P 10 1)) + (((((((((0 + mt_tt2 P 2 11) + mt_tt2 P 2 4) + mt_tt2 P 2 5) + mt_tt2 P 2 6) + mt_tt2 P 2 7) + mt_tt2 P 2 8) + mt_tt2 P 2 9) + mt_tt2 P 2 3) + mt_tt2 P 2 1)) + ((((((((0 + mt_tt2 P 11 4) + mt_tt2 P 11 5) + mt_tt2 P 11 6) + mt_tt2 P 11 7) + mt_tt2 P 11 8) + mt_tt2 P 11 9) + mt_tt2 P 11 3) + mt_tt2 P 11 1)) + (((((((0 + mt_tt2 P 4 5) + mt_tt2 P 4 6) + mt_tt2 P 4 7) + mt_tt2 P 4 8) + mt_tt2 P 4 9) + mt_tt2 P 4 3) + mt_tt2 P 4 1)) + ((((((0 + mt_tt2 P 5 6) + mt_tt2 P 5 7) + mt_tt2 P 5 8) + mt_tt2 P 5 9) + mt_tt2 P 5 3) + mt_tt2 P 5 1)) + (((((0 + mt_tt2 P 6 7) + mt_tt2 P 6 8) + mt_tt2 P 6 9) + mt_tt2 P 6 3) + mt_tt2 P 6 1)) + ((((0 + mt_tt2 P 7 8) + mt_tt2 P 7 9) + mt_tt2 P 7 3) + mt_tt2 P 7 1)) + (((0 + mt_tt2 P 8 9) + mt_tt2 P 8 3) + mt_tt2 P 8 1)) + ((0 + mt_tt2 P 9 3) + mt_tt2 P 9 1)) + (0 + mt_tt2 P 3 1)) + 0) := rfl
  have f1_2 := tt2_f (P := P) (a := 10) (b := 2) (fun q => absurd (h _ _ (by decide) (by decide) q) (by decide))
  have f1_4 := tt2_f (P := P) (a := 10) (b := 4) (fun q => absurd (h _ _ (by decide) (by decide) q) (by decide))
  have f1_5 := tt2_f (P := P) (a := 10) (b := 5) (fun q => absurd (h _ _ (by decide) (by decide) q) (by decide))
  have f1_6 := tt2_f (P := P) (a := 10) (b := 6) (fun q => absurd (h _ _ (by decide) (by decide) q) (by decide))
  have f1_7 := tt2_f (P := P) (a := 10) (b := 7) (fun q => absurd (h _ _ (by decide) (by decide) q) (by decide))
  have f1_8 := tt2_f (P := P) (a := 10) (b := 8) (fun q => absurd (h _ _ (by decide) (by decide) q) (by decide))
  have f1_9 := tt2_f (P := P) (a := 10) (b := 9) (fun q => absurd (h _ _ (by decide) (by decide) q) (by decide))
  have f1_10 := tt2_f (P := P) (a := 10) (b := 3) (fun q => absurd (h _ _ (by decide) (by decide) q) (by decide))
  have f1_11 := tt2_f (P := P) (a := 10) (b := 1) (fun q => absurd (h _ _ (by decide) (by decide) q) (by decide))
  have f2_11 := tt2_f (P := P) (a := 2) (b := 1) (fun q => absurd (h _ _ (by decide) (by decide) q) (by decide))
  have f3_4 := tt2_f (P := P) (a := 11) (b := 4) (fun q => absurd (h _ _ (by decide) (by decide) q) (by decide))
  have f3_5 := tt2_f (P := P) (a := 11) (b := 5) (fun q => absurd (h _ _ (by decide) (by decide) q) (by decide))
  have f3_6 := tt2_f (P := P) (a := 11) (b := 6) (fun q => absurd (h _ _ (by decide) (by decide) q) (by decide))
  have f3_7 := tt2_f (P := P) (a := 11) (b := 7) (fun q => absurd (h _ _ (by decide) (by decide) q) (by decide))
  have f3_8 := tt2_f (P := P) (a := 11) (b := 8) (fun q => absurd (h _ _ (by decide) (by decide) q) (by decide))
  have f3_9 := tt2_f (P := P) (a := 11) (b := 9) (fun q => absurd (h _ _ (by decide) (by decide) q) (by decide))
  have f3_10 := tt2_f (P := P) (a := 11) (b := 3) (fun q => absurd (h _ _ (by decide) (by decide) q) (by decide))
  have f3_11 := tt2_f (P := P) (a := 11) (b := 1) (fun q => absurd (h _ _ (by decide) (by decide) q) (by decide))
  have f4_10 := tt2_f (P := P) (a := 4) (b := 3) (fun q => absurd (h _ _ (by decide) (by decide) q) (by decide))
  have f4_11 := tt2_f (P := P) (a := 4) (b := 1) (fun q => absurd (h _ _ (by decide) (by decide) q) (by decide))
  have f5_10 := tt2_f (P := P) (a := 5) (b := 3) (fun q => absurd (h _ _ (by decide) (by decide) q) (by decide))
  have f5_11 := tt2_f (P := P) (a := 5) (b := 1) (fun q => absurd (h _ _ (by decide) (by decide) q) (by decide))
  have f6_10 := tt2_f (P := P) (a := 6) (b := 3) (fun q => absurd (h _ _ (by decide) (by decide) q) (by decide))
  have f6_11 := tt2_f (P := P) (a := 6) (b := 1) (fun q => absurd (h _ _ (by decide) (by decide) q) (by decide))
  have f7_10 := tt2_f (P := P) (a := 7) (b := 3) (fun q => absurd (h _ _ (by decide) (by decide) q) (by decide))
  have f7_11 := tt2_f (P := P) (a := 7) (b := 1) (fun q => absurd (h _ _ (by decide) (by decide) q) (by decide))
  have f8_10 := tt2_f (P := P) (a := 8) (b := 3) (fun q => absurd (h _ _ (by decide) (by decide) q) (by decide))
  have f8_11 := tt2_f (P := P) (a := 8) (b := 1) (fun q => absurd (h _ _ (by decide) (by decide) q) (by decide))
  have f9_10 := tt2_f (P := P) (a := 9) (b := 3) (fun q => absurd (h _ _ (by decide) (by decide) q) (by decide))
  have f9_11 := tt2_f (P := P) (a := 9) (b := 1) (fun q => absurd (h _ _ (by decide) (by decide) q) (by decide))
  have f10_11 := tt2_f (P := P) (a := 3) (b := 1) (fun q => absurd (h _ _ (by decide) (by decide) q) (by decide))
  rw [e, osE_x]
  omega
theorem parE_q {f : Nat} (hf : f < 6) (P : Nat → Nat) (h : ∀ i j, i < 12 → j < 12 → P i = P j → i = j) : od_ (mk_ep f P 1) 12 12 = 1 - od_ P 12 12 := by
  have e : mt_os2 (mk_ep f P 1) 12 12 % 2 = (mt_os2 P 12 12 + 1) % 2 := by
    match f, hf with
    | 0, _ => exact parE0 P h
    | 1, _ => exact parE1 P h
    | 2, _ => exact parE2 P h
    | 3, _ => exact parE3 P h
    | 4, _ => exact parE4 P h
    | 5, _ => exact parE5 P h
  rw [od_os, od_os, e]
  omega
theorem nosurj : ∀ (n m : Nat) (f : Nat → Nat), m < n → ¬ ∀ v, v < n → ∃ j, j < m ∧ f j = v := by
  intro n
  induction n with
  | zero => intro m f h; omega
  | succ n ih =>
    intro m f hm h
    obtain ⟨j0, hj0, e0⟩ := h n (by omega)
    refine ih (m - 1) (fun j => if j = j0 then f (m - 1) else f j) (by omega) (fun v hv => ?_)
    obtain ⟨j, hj, e⟩ := h v (by omega)
    have hne : j ≠ j0 := by intro q; rw [q, e0] at e; omega
    by_cases q : j = m - 1
    · exact ⟨j0, by omega, by simp [← q, e]⟩
    · exact ⟨j, by omega, by simp [hne, e]⟩
theorem surj_inj {n : Nat} {f : Nat → Nat} (h : ∀ v, v < n → ∃ j, j < n ∧ f j = v) : ∀ i j, i < n → j < n → f i = f j → i = j := by
  intro i j hi hj e
  by_cases c : i = j
  · exact c
  · refine absurd (fun v hv => ?_) (nosurj n (n - 1) (fun k => if k = j then f (n - 1) else f k) (by omega))
    obtain ⟨k, hk, ek⟩ := h v hv
    by_cases q : k = j
    · by_cases q2 : i = n - 1
      · exact ⟨j, by omega, by simp [← q2, e, ← q, ek]⟩
      · exact ⟨i, by omega, by show (if i = j then f (n - 1) else f i) = v; rw [if_neg c, e, ← q, ek]⟩
    · by_cases q2 : k = n - 1
      · exact ⟨j, by omega, by simp [← q2, ek]⟩
      · exact ⟨k, by omega, by simp [q, ek]⟩
theorem thr_bit (P : Nat → Nat) (v : Nat) : ∀ n, (mo_thr P n).testBit v = true ↔ ∃ j, j < n ∧ P j = v := by
  intro n
  induction n with
  | zero => simp [mo_thr]
  | succ n ih =>
    rw [mo_thr, Nat.testBit_or, Nat.one_mul, Nat.testBit_two_pow, Bool.or_eq_true, ih, decide_eq_true_eq]
    constructor
    · rintro (⟨j, h1, h2⟩ | h)
      · exact ⟨j, by omega, h2⟩
      · exact ⟨n, by omega, h⟩
    · rintro ⟨j, h1, h2⟩
      by_cases q : j = n
      · subst q; exact Or.inr h2
      · exact Or.inl ⟨j, by omega, h2⟩
theorem thr_perm {P : Nat → Nat} {n : Nat} (h : mo_thr P n = 2 ^ n - 1) : ∀ v, v < n → ∃ j, j < n ∧ P j = v := by
  intro v hv
  refine (thr_bit P v n).mp ?_
  rw [h, Nat.testBit_two_pow_sub_one]
  exact decide_eq_true hv
def mt_Lw (q : Q4) : Prop := QB q ∧ (∀ v, v < 8 → ∃ j, j < 8 ∧ q.1 j = v) ∧ (∀ v, v < 12 → ∃ j, j < 12 ∧ q.2.2.1 j = v) ∧ mo_sum q.2.1 8 % 3 = 0 ∧ mo_sum q.2.2.2 12 % 2 = 0 ∧ od_ q.1 8 8 = od_ q.2.2.1 12 12
theorem Lw_of {q : Q4} (hb : QB q) (h : SlwQ q = 1) : mt_Lw q := by
  rw [SlwQ, Slw_] at h
  split at h
  · exact absurd h (by decide)
  split at h
  · exact absurd h (by decide)
  split at h
  · exact absurd h (by decide)
  split at h
  · exact absurd h (by decide)
  split at h
  · next h1 h2 h3 h4 h5 => exact ⟨hb, thr_perm (Classical.not_not.mp h1), thr_perm (Classical.not_not.mp h2), Classical.not_not.mp h3, Classical.not_not.mp h4, h5⟩
  · exact absurd h (by decide)
theorem surC : ∀ f, f < 6 → ∀ j, j < 8 → ∃ i, i < 8 ∧ mk_cp f (fun j => j) 1 i = j := by decide +kernel
theorem surE : ∀ f, f < 6 → ∀ j, j < 12 → ∃ i, i < 12 ∧ mk_ep f (fun j => j) 1 i = j := by decide +kernel
theorem Lw_1 {f : Nat} (hf : f < 6) {q : Q4} (h : mt_Lw q) : mt_Lw (mt_pwQ f q 1) := by
  obtain ⟨hb, h1, h2, h3, h4, h5⟩ := h
  refine ⟨QB_pw f hb 1, ?_, ?_, ?_, ?_, ?_⟩
  · intro v hv
    obtain ⟨j, hj, e⟩ := h1 v hv
    obtain ⟨i, hi, e2⟩ := surC f hf j hj
    exact ⟨i, hi, by show mk_cp f q.1 1 i = v; rw [mk_cp_nat, e2, e]⟩
  · intro v hv
    obtain ⟨j, hj, e⟩ := h2 v hv
    obtain ⟨i, hi, e2⟩ := surE f hf j hj
    exact ⟨i, hi, by show mk_ep f q.2.2.1 1 i = v; rw [mk_ep_nat, e2, e]⟩
  · show mo_sum (mk_co f q.2.1 1) 8 % 3 = 0
    rw [sumC_q hf]; exact h3
  · show mo_sum (mk_eo f q.2.2.2 1) 12 % 2 = 0
    rw [sumE_q hf]; exact h4
  · show od_ (mk_cp f q.1 1) 8 8 = od_ (mk_ep f q.2.2.1 1) 12 12
    rw [parC_q hf _ (surj_inj h1), parE_q hf _ (surj_inj h2), h5]
theorem Lw_pw {f : Nat} (hf : f < 6) {q : Q4} (h : mt_Lw q) : ∀ n, mt_Lw (mt_pwQ f q n) := by
  intro n
  induction n with
  | zero => exact h
  | succ n ih => rw [← pwQ_add f q n 1]; exact Lw_1 hf ih
theorem Lw_mk {t : Nat} (ht : t < 18) {q : Q4} (h : mt_Lw q) : mt_Lw (mkQ t q) := Lw_pw (by omega) h _
