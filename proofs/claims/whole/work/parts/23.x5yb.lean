abbrev rmX5_setDrift : Room := { frames := 2, cells := 0, slots := 0, locals := 47 }
set_option maxHeartbeats 4000000 in
set_option maxRecDepth 100000 in
/-- setDrift(h, b) -/
theorem c_X5_setDrift (l : Launch) (D : va_G) (y : Nat → ClassId) (sz : Nat) (am bs ba : Nat → Nat) (F U X : Nat → Nat → Int32) (h b : Int32) : MdI (S := Nat → Nat → Int32) l D y yX5_setDrift wsX5_setDrift rmX5_setDrift [.ref (am 0), .int h, .int b] (moA y am bs ba F U X) sz (stM h b 5) (th F 1 (ix h)) (fun (u : Nat → Nat → Int32) => moA y am bs ba (vU (th F) 1 (ix h) b) U u) (moA y am bs ba (vU (th F) 0 0 (nI (stM h b 5))) U X) := by
  refine mW (fun A => va_Qi (fun r9 (_ : Nat → Nat → Int32) => (stM h b 5) = 0 → r9 = (th F 1 (ix h))) (fun u9 t9 => ((stM h b 5) = 0 → Bp D y ((fun (u : Nat → Nat → Int32) => moA y am bs ba (vU (th F) 1 (ix h) b) U u) u9) t9) ∧ (¬ (stM h b 5) = 0 → Bp D y (moA y am bs ba (vU (th F) 0 0 (nI (stM h b 5))) U X) t9)) A) (C := RX5) (cc := cX5_setDrift) (maxL := 3) (ret := (some .int)) (by decide) rfl rfl (Nat.le_of_ble_eq_true rfl) ?_
  intro p e s m a below meth c ls A Q hQ hsz hx hb hr hts hown hlocks hin hml hP hK hN hD hA hS hl
  have hl : lv_has ls 3 [(0, .ref (am 0)), (1, .int h), (2, .int b)] := hl
  rw [moA_fst] at hD
  refine lv_aload_n hx hb dX5_setDrift_0 rfl (lv_at hl 0 rfl) ?_
  refine lv_aload_n hx hb dX5_setDrift_1 rfl (lv_at hl 0 rfl) ?_
  have hin5 : ∀ w ∈ u_ws RX5 TX5 14, w ∈ wsX5_setDrift := by decide +kernel
  have hf7 := hts (.fieldLink RX5 7 "CoracleMakersModel" "drift" "[I") (by decide +kernel)
  refine va_get (D := D) (ci := 5) (v := .ref (am 1)) (C := RX5) (T := TX5) (N := 14) hx hb hts hin5 hown hK hP 0 (ap_l (wf_at (by decide) rfl)) rfl 1 (by decide) hf7 (fun _ h9 => h9) rfl dX5_setDrift_2 ?_
  refine lv_iload_n hx hb dX5_setDrift_5 rfl (lv_at hl 1 rfl) ?_
  refine lv_iload_n hx hb dX5_setDrift_6 rfl (lv_at hl 2 rfl) ?_
  refine lv_iconst (v := 5) hx hb dX5_setDrift_7 (by decide) ?_
  refine cMd_V (As := [.ref (am 1), .int h, .int b, .int 5]) (rest := []) ⟨hx, hb, hml, hown, hts⟩ (c_X5_set1 l D y _ am (bs 0) (ba 0) F h b 5 (by decide)) (cwV 4 hts gX5_setDrift_X5_set rfl rfl rfl (by decide +kernel) ⟨Nat.le_of_ble_eq_true rfl, Nat.le_of_ble_eq_true rfl⟩) hK hN (P_l hP) (by rw [mo_fst]; exact aD_l hD) hS hA (va_recv hK hP (ci := 5) (q0 := 0) rfl (ap_l (wf_at (by decide) rfl))) rfl hl.1 rfl (Nat.le_of_ble_eq_true rfl) dX5_setDrift_8 ⟨Nat.le_of_ble_eq_true rfl, Nat.le_of_ble_eq_true rfl⟩ (fun r1 u1 H locs hr1 hw1 hw2 hk9 hS => ?_)
  subst hQ
  exact W.iret (v := r1) hx hb hr (fun t ht hW => ⟨⟨_, X, rfl, hr1, fun h9 => bp_at hK hN (fr_l hP (by rw [mo_fst, st2_fst]; exact hD) hk9 (hw1 h9)) t ht hW, fun h9 => bp_at hK hN (fr_l hP (by rw [mo_fst, st2_fst]; exact hD) hk9 (hw2 h9)) t ht hW⟩, hS.F ht⟩) hS.2.2 dX5_setDrift_11
abbrev rmX5_setRun : Room := { frames := 2, cells := 0, slots := 0, locals := 47 }
set_option maxHeartbeats 4000000 in
set_option maxRecDepth 100000 in
/-- setRun(h, b) -/
theorem c_X5_setRun (l : Launch) (D : va_G) (y : Nat → ClassId) (sz : Nat) (am bs ba : Nat → Nat) (F U X : Nat → Nat → Int32) (h b : Int32) : MdI (S := Nat → Nat → Int32) l D y yX5_setRun wsX5_setRun rmX5_setRun [.ref (am 0), .int h, .int b] (moA y am bs ba F U X) sz (stM h b 9) (th F 2 (ix h)) (fun (u : Nat → Nat → Int32) => moA y am bs ba (vU (th F) 2 (ix h) b) U u) (moA y am bs ba (vU (th F) 0 0 (nI (stM h b 9))) U X) := by
  refine mW (fun A => va_Qi (fun r9 (_ : Nat → Nat → Int32) => (stM h b 9) = 0 → r9 = (th F 2 (ix h))) (fun u9 t9 => ((stM h b 9) = 0 → Bp D y ((fun (u : Nat → Nat → Int32) => moA y am bs ba (vU (th F) 2 (ix h) b) U u) u9) t9) ∧ (¬ (stM h b 9) = 0 → Bp D y (moA y am bs ba (vU (th F) 0 0 (nI (stM h b 9))) U X) t9)) A) (C := RX5) (cc := cX5_setRun) (maxL := 3) (ret := (some .int)) (by decide) rfl rfl (Nat.le_of_ble_eq_true rfl) ?_
  intro p e s m a below meth c ls A Q hQ hsz hx hb hr hts hown hlocks hin hml hP hK hN hD hA hS hl
  have hl : lv_has ls 3 [(0, .ref (am 0)), (1, .int h), (2, .int b)] := hl
  rw [moA_fst] at hD
  refine lv_aload_n hx hb dX5_setRun_0 rfl (lv_at hl 0 rfl) ?_
  refine lv_aload_n hx hb dX5_setRun_1 rfl (lv_at hl 0 rfl) ?_
  have hin5 : ∀ w ∈ u_ws RX5 TX5 14, w ∈ wsX5_setRun := by decide +kernel
  have hf13 := hts (.fieldLink RX5 13 "CoracleMakersModel" "run" "[I") (by decide +kernel)
  refine va_get (D := D) (ci := 5) (v := .ref (am 2)) (C := RX5) (T := TX5) (N := 14) hx hb hts hin5 hown hK hP 0 (ap_l (wf_at (by decide) rfl)) rfl 2 (by decide) hf13 (fun _ h9 => h9) rfl dX5_setRun_2 ?_
  refine lv_iload_n hx hb dX5_setRun_5 rfl (lv_at hl 1 rfl) ?_
  refine lv_iload_n hx hb dX5_setRun_6 rfl (lv_at hl 2 rfl) ?_
  refine lv_bipush (v := 9) hx hb dX5_setRun_7 (by decide) ?_
  refine cMd_V (As := [.ref (am 2), .int h, .int b, .int 9]) (rest := []) ⟨hx, hb, hml, hown, hts⟩ (c_X5_set2 l D y _ am (bs 0) (ba 0) F h b 9 (by decide)) (cwV 4 hts gX5_setRun_X5_set rfl rfl rfl (by decide +kernel) ⟨Nat.le_of_ble_eq_true rfl, Nat.le_of_ble_eq_true rfl⟩) hK hN (P_l hP) (by rw [mo_fst]; exact aD_l hD) hS hA (va_recv hK hP (ci := 5) (q0 := 0) rfl (ap_l (wf_at (by decide) rfl))) rfl hl.1 rfl (Nat.le_of_ble_eq_true rfl) dX5_setRun_9 ⟨Nat.le_of_ble_eq_true rfl, Nat.le_of_ble_eq_true rfl⟩ (fun r1 u1 H locs hr1 hw1 hw2 hk9 hS => ?_)
  subst hQ
  exact W.iret (v := r1) hx hb hr (fun t ht hW => ⟨⟨_, X, rfl, hr1, fun h9 => bp_at hK hN (fr_l hP (by rw [mo_fst, st2_fst]; exact hD) hk9 (hw1 h9)) t ht hW, fun h9 => bp_at hK hN (fr_l hP (by rw [mo_fst, st2_fst]; exact hD) hk9 (hw2 h9)) t ht hW⟩, hS.F ht⟩) hS.2.2 dX5_setRun_12
