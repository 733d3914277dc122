/-! ===== CoracleMakers: the calls of the face ===== -/
theorem P_kept2 {D : va_G} {cl : List vw_C} {W0 : va_W} {H H1 : Heap} (hP : va_P D cl W0 H) (hk : ∀ q : Nat, q < H.size → H1[q]? = H[q]?) : va_P D cl W0 H1 := fun k q h => (hP k q h).kept (hk _ (hP k q h).lt)
theorem nci {a M : Int32} (h : ¬ ciP a M) {n : Nat} (hM : vp_in M (n + 1)) : vp_in a n := by
  have h1 : ¬ a < 0 := fun z => h (Or.inl z)
  have h2 : ¬ M ≤ a := fun z => h (Or.inr z)
  rw [Int32.lt_iff_toInt_lt] at h1
  rw [Int32.le_iff_toInt_le] at h2
  have h3 := vp_in_iff.mp hM
  refine vp_in_iff.mpr ⟨by simpa using h1, by omega⟩
theorem nci_l {a M : Int32} {n : Nat} (h : ¬ ciP a M) (hM : M.toInt = n) : vp_in a n := by
  have h1 : ¬ a < 0 := fun z => h (Or.inl z)
  have h2 : ¬ M ≤ a := fun z => h (Or.inr z)
  rw [Int32.lt_iff_toInt_lt] at h1
  rw [Int32.le_iff_toInt_le] at h2
  refine vp_in_iff.mpr ⟨by simpa using h1, by omega⟩
theorem nca {v a b : Int32} {n : Nat} (h : ¬ caP v a b) (ha : 0 ≤ a.toInt) (hb : b.toInt + 1 = n) : vp_in v n := by
  have h1 : ¬ v < a := fun z => h (Or.inl z)
  have h2 : ¬ b < v := fun z => h (Or.inr z)
  rw [Int32.lt_iff_toInt_lt] at h1 h2
  exact vp_in_iff.mpr ⟨by omega, by omega⟩
abbrev rmX3_checkIndex : Room := { frames := 6, cells := 1, slots := 6, locals := 90 }
set_option maxHeartbeats 4000000 in
set_option maxRecDepth 100000 in
/-- checkIndex -/
theorem c_X3_checkIndex (l : Launch) (D : va_G) (y : Nat → ClassId) (sz : Nat) (hst : l.stackTraces = false) (x0 x1 : Int32) : XV l D y yX3_checkIndex wsX3_checkIndex rmX3_checkIndex [.int x0, .int x1] sz (ciP x0 x1) 1 := by
  refine mX (fun A => va_Qv (fun (_ : Unit) => ¬ (ciP x0 x1)) (fun _ t9 => Bp D y [] t9) A) (fun A => vx_X (fun (_ : Unit) => ciP x0 x1) (fun E _ _ => E = xnm 1) A) (C := RX3) (cc := cX3_checkIndex) (maxL := 2) (ret := none) (by decide) rfl rfl (Nat.le_of_ble_eq_true rfl) ?_
  intro p e s m a below meth c ls A Q hQ hsz hx hb hr hts hown hlocks htab hml hP hK hN hE hX hD hA hS hl
  have hl : lv_has ls 2 [(0, .int x0), (1, .int x1)] := hl
  refine lv_iload_n hx hb dX3_checkIndex_0 rfl (lv_at hl 0 rfl) ?_
  refine lv_if_lt (tgt := 9) hx hb dX3_checkIndex_1 (by decide) (fun c_43 => ?_) (fun c_43 => ?_)
  · have hg9 : ∀ w ∈ (vx_at0 RX3 153 "java/lang/IndexOutOfBoundsException" ["java/lang/RuntimeException", "java/lang/Exception"]).filter goodWord, w ∈ wsX3_checkIndex := by decide +kernel
    have hB9 : ∀ w ∈ [Cond.declares (Bundle.init0 "java/lang/RuntimeException"), Cond.declares (Bundle.init0 "java/lang/Exception"), Cond.declares (Bundle.init0 "java/lang/Throwable"), Cond.castable "java/lang/IndexOutOfBoundsException" "java/lang/IndexOutOfBoundsException"], w.before a s = true := vx_c (va_Nw.use rfl (hE.1 _ (List.mem_of_getElem? (i := 0) rfl))) (vx_c (va_Nw.use rfl (hE.1 _ (List.mem_of_getElem? (i := 1) rfl))) (vx_c (va_Nw.use rfl (hE.1 _ (List.mem_of_getElem? (i := 2) rfl))) (vx_c (va_Nw.use rfl (hE.2.1 _ (List.mem_of_getElem? (i := 0) rfl))) vx_n)))
    subst hQ
    exact vx_throw0 (names := ["java/lang/RuntimeException", "java/lang/Exception"]) hx hb hst hown (by decide) (by decide) (hts (.classLink RX3 151 "java/lang/IndexOutOfBoundsException") (by decide +kernel)) (hts (.initialized "java/lang/IndexOutOfBoundsException") (by decide +kernel)) (vx_hat (fun w h => hts w (hg9 w h)) (by decide +kernel) hB9) (by decide +kernel) hX.1.1 hX.1.2 hS (hl.1.trans hml.symm) dX3_checkIndex_9 dX3_checkIndex_12 dX3_checkIndex_13 dX3_checkIndex_16 (fun x hx9 => (htab x hx9).elim) (by decide) (by decide) (Nat.le_of_ble_eq_true rfl) (Nat.le_of_ble_eq_true rfl) hlocks (fun t hv9 h91 h92 => ⟨(), (Or.inl c_43), rfl, F_of hS h91 h92⟩) hS.2.2 (Nat.le_of_ble_eq_true rfl) (Nat.le_of_ble_eq_true rfl)
  · refine lv_iload_n hx hb dX3_checkIndex_4 rfl (lv_at hl 0 rfl) ?_
    refine lv_iload_n hx hb dX3_checkIndex_5 rfl (lv_at hl 1 rfl) ?_
    refine lv_icmp_lt (tgt := 17) hx hb dX3_checkIndex_6 (by decide) (fun c_44 => ?_) (fun c_44 => ?_)
    · subst hQ
      refine W.widen (k := 1) (n := 6) (by decide) (by decide) ?_
      exact vx_ret (W.vret hx hb hr (fun t ht hW => ⟨⟨(), rfl, (fun z9 => z9.elim c_43 (fun z9 => absurd c_44 (Int32.not_lt.mpr z9))), bp_at hK hN hP t ht hW⟩, hS.F ht⟩) hS.2.2 dX3_checkIndex_17)
    · have hg9 : ∀ w ∈ (vx_at0 RX3 153 "java/lang/IndexOutOfBoundsException" ["java/lang/RuntimeException", "java/lang/Exception"]).filter goodWord, w ∈ wsX3_checkIndex := by decide +kernel
      have hB9 : ∀ w ∈ [Cond.declares (Bundle.init0 "java/lang/RuntimeException"), Cond.declares (Bundle.init0 "java/lang/Exception"), Cond.declares (Bundle.init0 "java/lang/Throwable"), Cond.castable "java/lang/IndexOutOfBoundsException" "java/lang/IndexOutOfBoundsException"], w.before a s = true := vx_c (va_Nw.use rfl (hE.1 _ (List.mem_of_getElem? (i := 0) rfl))) (vx_c (va_Nw.use rfl (hE.1 _ (List.mem_of_getElem? (i := 1) rfl))) (vx_c (va_Nw.use rfl (hE.1 _ (List.mem_of_getElem? (i := 2) rfl))) (vx_c (va_Nw.use rfl (hE.2.1 _ (List.mem_of_getElem? (i := 0) rfl))) vx_n)))
      subst hQ
      exact vx_throw0 (names := ["java/lang/RuntimeException", "java/lang/Exception"]) hx hb hst hown (by decide) (by decide) (hts (.classLink RX3 151 "java/lang/IndexOutOfBoundsException") (by decide +kernel)) (hts (.initialized "java/lang/IndexOutOfBoundsException") (by decide +kernel)) (vx_hat (fun w h => hts w (hg9 w h)) (by decide +kernel) hB9) (by decide +kernel) hX.1.1 hX.1.2 hS (hl.1.trans hml.symm) dX3_checkIndex_9 dX3_checkIndex_12 dX3_checkIndex_13 dX3_checkIndex_16 (fun x hx9 => (htab x hx9).elim) (by decide) (by decide) (Nat.le_of_ble_eq_true rfl) (Nat.le_of_ble_eq_true rfl) hlocks (fun t hv9 h91 h92 => ⟨(), (Or.inr (Int32.not_lt.mp c_44)), rfl, F_of hS h91 h92⟩) hS.2.2 (Nat.le_of_ble_eq_true rfl) (Nat.le_of_ble_eq_true rfl)
abbrev rmX3_checkArgument : Room := { frames := 6, cells := 1, slots := 6, locals := 90 }
set_option maxHeartbeats 4000000 in
set_option maxRecDepth 100000 in
/-- checkArgument -/
theorem c_X3_checkArgument (l : Launch) (D : va_G) (y : Nat → ClassId) (sz : Nat) (hst : l.stackTraces = false) (x0 x1 x2 : Int32) : XV l D y yX3_checkArgument wsX3_checkArgument rmX3_checkArgument [.int x0, .int x1, .int x2] sz (caP x0 x1 x2) 2 := by
  refine mX (fun A => va_Qv (fun (_ : Unit) => ¬ (caP x0 x1 x2)) (fun _ t9 => Bp D y [] t9) A) (fun A => vx_X (fun (_ : Unit) => caP x0 x1 x2) (fun E _ _ => E = xnm 2) A) (C := RX3) (cc := cX3_checkArgument) (maxL := 3) (ret := none) (by decide) rfl rfl (Nat.le_of_ble_eq_true rfl) ?_
  intro p e s m a below meth c ls A Q hQ hsz hx hb hr hts hown hlocks htab hml hP hK hN hE hX hD hA hS hl
  have hl : lv_has ls 3 [(0, .int x0), (1, .int x1), (2, .int x2)] := hl
  refine lv_iload_n hx hb dX3_checkArgument_0 rfl (lv_at hl 0 rfl) ?_
  refine lv_iload_n hx hb dX3_checkArgument_1 rfl (lv_at hl 1 rfl) ?_
  refine lv_icmp_lt (tgt := 10) hx hb dX3_checkArgument_2 (by decide) (fun c_45 => ?_) (fun c_45 => ?_)
  · have hg9 : ∀ w ∈ (vx_at0 RX3 57 "java/lang/IllegalArgumentException" ["java/lang/RuntimeException", "java/lang/Exception"]).filter goodWord, w ∈ wsX3_checkArgument := by decide +kernel
    have hB9 : ∀ w ∈ [Cond.declares (Bundle.init0 "java/lang/RuntimeException"), Cond.declares (Bundle.init0 "java/lang/Exception"), Cond.declares (Bundle.init0 "java/lang/Throwable"), Cond.castable "java/lang/IllegalArgumentException" "java/lang/IllegalArgumentException"], w.before a s = true := vx_c (va_Nw.use rfl (hE.1 _ (List.mem_of_getElem? (i := 0) rfl))) (vx_c (va_Nw.use rfl (hE.1 _ (List.mem_of_getElem? (i := 1) rfl))) (vx_c (va_Nw.use rfl (hE.1 _ (List.mem_of_getElem? (i := 2) rfl))) (vx_c (va_Nw.use rfl (hE.2.1 _ (List.mem_of_getElem? (i := 1) rfl))) vx_n)))
    subst hQ
    exact vx_throw0 (names := ["java/lang/RuntimeException", "java/lang/Exception"]) hx hb hst hown (by decide) (by decide) (hts (.classLink RX3 55 "java/lang/IllegalArgumentException") (by decide +kernel)) (hts (.initialized "java/lang/IllegalArgumentException") (by decide +kernel)) (vx_hat (fun w h => hts w (hg9 w h)) (by decide +kernel) hB9) (by decide +kernel) hX.1.1 hX.1.2 hS (hl.1.trans hml.symm) dX3_checkArgument_10 dX3_checkArgument_13 dX3_checkArgument_14 dX3_checkArgument_17 (fun x hx9 => (htab x hx9).elim) (by decide) (by decide) (Nat.le_of_ble_eq_true rfl) (Nat.le_of_ble_eq_true rfl) hlocks (fun t hv9 h91 h92 => ⟨(), (Or.inl c_45), rfl, F_of hS h91 h92⟩) hS.2.2 (Nat.le_of_ble_eq_true rfl) (Nat.le_of_ble_eq_true rfl)
  · refine lv_iload_n hx hb dX3_checkArgument_5 rfl (lv_at hl 0 rfl) ?_
    refine lv_iload_n hx hb dX3_checkArgument_6 rfl (lv_at hl 2 rfl) ?_
    refine lv_icmp_le (tgt := 18) hx hb dX3_checkArgument_7 (by decide) (fun c_46 => ?_) (fun c_46 => ?_)
    · subst hQ
      refine W.widen (k := 1) (n := 6) (by decide) (by decide) ?_
      exact vx_ret (W.vret hx hb hr (fun t ht hW => ⟨⟨(), rfl, (fun z9 => z9.elim c_45 (fun z9 => absurd c_46 (Int32.not_le.mpr z9))), bp_at hK hN hP t ht hW⟩, hS.F ht⟩) hS.2.2 dX3_checkArgument_18)
    · have hg9 : ∀ w ∈ (vx_at0 RX3 57 "java/lang/IllegalArgumentException" ["java/lang/RuntimeException", "java/lang/Exception"]).filter goodWord, w ∈ wsX3_checkArgument := by decide +kernel
      have hB9 : ∀ w ∈ [Cond.declares (Bundle.init0 "java/lang/RuntimeException"), Cond.declares (Bundle.init0 "java/lang/Exception"), Cond.declares (Bundle.init0 "java/lang/Throwable"), Cond.castable "java/lang/IllegalArgumentException" "java/lang/IllegalArgumentException"], w.before a s = true := vx_c (va_Nw.use rfl (hE.1 _ (List.mem_of_getElem? (i := 0) rfl))) (vx_c (va_Nw.use rfl (hE.1 _ (List.mem_of_getElem? (i := 1) rfl))) (vx_c (va_Nw.use rfl (hE.1 _ (List.mem_of_getElem? (i := 2) rfl))) (vx_c (va_Nw.use rfl (hE.2.1 _ (List.mem_of_getElem? (i := 1) rfl))) vx_n)))
      subst hQ
      exact vx_throw0 (names := ["java/lang/RuntimeException", "java/lang/Exception"]) hx hb hst hown (by decide) (by decide) (hts (.classLink RX3 55 "java/lang/IllegalArgumentException") (by decide +kernel)) (hts (.initialized "java/lang/IllegalArgumentException") (by decide +kernel)) (vx_hat (fun w h => hts w (hg9 w h)) (by decide +kernel) hB9) (by decide +kernel) hX.1.1 hX.1.2 hS (hl.1.trans hml.symm) dX3_checkArgument_10 dX3_checkArgument_13 dX3_checkArgument_14 dX3_checkArgument_17 (fun x hx9 => (htab x hx9).elim) (by decide) (by decide) (Nat.le_of_ble_eq_true rfl) (Nat.le_of_ble_eq_true rfl) hlocks (fun t hv9 h91 h92 => ⟨(), (Or.inr (Int32.not_le.mp c_46)), rfl, F_of hS h91 h92⟩) hS.2.2 (Nat.le_of_ble_eq_true rfl) (Nat.le_of_ble_eq_true rfl)
abbrev rmX3_checkState : Room := { frames := 6, cells := 1, slots := 6, locals := 90 }
set_option maxHeartbeats 4000000 in
set_option maxRecDepth 100000 in
/-- checkState -/
theorem c_X3_checkState (l : Launch) (D : va_G) (y : Nat → ClassId) (sz : Nat) (hst : l.stackTraces = false) (x0 : Int32) : XV l D y yX3_checkState wsX3_checkState rmX3_checkState [.int x0] sz (x0 = 0) 3 := by
  refine mX (fun A => va_Qv (fun (_ : Unit) => ¬ (x0 = 0)) (fun _ t9 => Bp D y [] t9) A) (fun A => vx_X (fun (_ : Unit) => x0 = 0) (fun E _ _ => E = xnm 3) A) (C := RX3) (cc := cX3_checkState) (maxL := 1) (ret := none) (by decide) rfl rfl (Nat.le_of_ble_eq_true rfl) ?_
  intro p e s m a below meth c ls A Q hQ hsz hx hb hr hts hown hlocks htab hml hP hK hN hE hX hD hA hS hl
  have hl : lv_has ls 1 [(0, .int x0)] := hl
  refine lv_iload_n hx hb dX3_checkState_0 rfl (lv_at hl 0 rfl) ?_
  refine lv_if_ne (tgt := 12) hx hb dX3_checkState_1 (by decide) (fun c_47 => ?_) (fun c_47 => ?_)
  · subst hQ
    refine W.widen (k := 1) (n := 6) (by decide) (by decide) ?_
    exact vx_ret (W.vret hx hb hr (fun t ht hW => ⟨⟨(), rfl, c_47, bp_at hK hN hP t ht hW⟩, hS.F ht⟩) hS.2.2 dX3_checkState_12)
  · have hg9 : ∀ w ∈ (vx_at0 RX3 156 "java/lang/IllegalStateException" ["java/lang/RuntimeException", "java/lang/Exception"]).filter goodWord, w ∈ wsX3_checkState := by decide +kernel
    have hB9 : ∀ w ∈ [Cond.declares (Bundle.init0 "java/lang/RuntimeException"), Cond.declares (Bundle.init0 "java/lang/Exception"), Cond.declares (Bundle.init0 "java/lang/Throwable"), Cond.castable "java/lang/IllegalStateException" "java/lang/IllegalStateException"], w.before a s = true := vx_c (va_Nw.use rfl (hE.1 _ (List.mem_of_getElem? (i := 0) rfl))) (vx_c (va_Nw.use rfl (hE.1 _ (List.mem_of_getElem? (i := 1) rfl))) (vx_c (va_Nw.use rfl (hE.1 _ (List.mem_of_getElem? (i := 2) rfl))) (vx_c (va_Nw.use rfl (hE.2.1 _ (List.mem_of_getElem? (i := 2) rfl))) vx_n)))
    subst hQ
    exact vx_throw0 (names := ["java/lang/RuntimeException", "java/lang/Exception"]) hx hb hst hown (by decide) (by decide) (hts (.classLink RX3 154 "java/lang/IllegalStateException") (by decide +kernel)) (hts (.initialized "java/lang/IllegalStateException") (by decide +kernel)) (vx_hat (fun w h => hts w (hg9 w h)) (by decide +kernel) hB9) (by decide +kernel) hX.1.1 hX.1.2 hS (hl.1.trans hml.symm) dX3_checkState_4 dX3_checkState_7 dX3_checkState_8 dX3_checkState_11 (fun x hx9 => (htab x hx9).elim) (by decide) (by decide) (Nat.le_of_ble_eq_true rfl) (Nat.le_of_ble_eq_true rfl) hlocks (fun t hv9 h91 h92 => ⟨(), c_47, rfl, F_of hS h91 h92⟩) hS.2.2 (Nat.le_of_ble_eq_true rfl) (Nat.le_of_ble_eq_true rfl)
def stC (h b M : Int32) : Nat := if ciP h 8 then 1 else if caP b 0 M then 2 else 0
abbrev rmX3_setDrift : Room := { frames := 7, cells := 2, slots := 12, locals := 112 }
set_option maxHeartbeats 4000000 in
set_option maxRecDepth 100000 in
/-- setDrift(h, b) -/
theorem c_X3_setDrift (l : Launch) (D : va_G) (y : Nat → ClassId) (sz : Nat) (hst : l.stackTraces = false) (ac an ar : Nat → Nat) (K V U : Nat → Nat → Int32) (h b : Int32) : XI (S := Nat → Nat → Int32) l D y yX3_setDrift wsX3_setDrift rmX3_setDrift 2 12 [.ref (ac 0), .int h, .int b] (cmA y ac an ar K V U) sz (stC h b 5) (K 1 (ix h)) (fun u => cmA y ac an ar (vU K 1 (ix h) b) V u) := by
  refine mX (fun A => va_Qi (fun r9 (_ : Nat → Nat → Int32) => (stC h b 5) = 0 ∧ r9 = (K 1 (ix h))) (fun u t9 => Bp D y (cmA y ac an ar (vU K 1 (ix h) b) V u) t9) A) (fun A => vx_X (fun (_ : Unit) => ¬ (stC h b 5) = 0) (fun E _ t9 => E = xnm (stC h b 5) ∧ va_P D vwCl (cmA y ac an ar K V U) t9.heap) A) (C := RX3) (cc := cX3_setDrift) (maxL := 4) (ret := (some .int)) (by decide) rfl rfl (Nat.le_of_ble_eq_true rfl) ?_
  intro p e s m a below meth c ls A Q hQ hsz hx hb hr hts hown hlocks htab hml hP hK hN hE hX hD hA hS hl
  rw [cmA_fst] at hD
  have hl : lv_has ls 4 [(0, .ref (ac 0)), (1, .int h), (2, .int b)] := hl
  refine lv_iload_n hx hb dX3_setDrift_0 rfl (lv_at hl 1 rfl) ?_
  refine lv_bipush (v := 8) hx hb dX3_setDrift_1 (by decide) ?_
  refine cX_S (W0 := (cmW y ac (an 0) (ar 0) K ++ (rvW y an V ++ rvW y ar U))) (As := [.int h, .int 8]) (rest := []) ⟨hx, hb, hml, hown, hts⟩ (c_X3_checkIndex l D y _ hst h 8) (va_cwS 2 hts gX3_setDrift_X3_checkIndex rfl rfl rfl (by decide +kernel) ⟨Nat.le_of_ble_eq_true rfl, Nat.le_of_ble_eq_true rfl⟩) hK hN hE hX hP hS hA rfl hl.1 rfl (Nat.le_of_ble_eq_true rfl) dX3_setDrift_3 ⟨Nat.le_of_ble_eq_true rfl, Nat.le_of_ble_eq_true rfl⟩ (fun hc_48 ce q9 H locs hP hS h91 h92 h93 => ?_) (fun hc_48 H locs hP hS => ?_)
  · subst hQ
    exact vx_out (fun x hx9 => (htab x hx9).elim) hlocks h91 h92 h93 (fun t ht hv9 => ⟨(), (by unfold stC; rw [if_pos hc_48]; decide), ⟨(by unfold stC; rw [if_pos hc_48]), by rw [ht]; exact hP⟩, hS.F ht⟩) hS.2.2 (Nat.le_of_ble_eq_true rfl) (Nat.le_of_ble_eq_true rfl)
  refine lv_iload_n hx hb dX3_setDrift_6 rfl (lv_at hl 2 rfl) ?_
  refine lv_iconst (v := 0) hx hb dX3_setDrift_7 (by decide) ?_
  refine lv_iconst (v := 5) hx hb dX3_setDrift_8 (by decide) ?_
  refine cX_S (W0 := (cmW y ac (an 0) (ar 0) K ++ (rvW y an V ++ rvW y ar U))) (As := [.int b, .int 0, .int 5]) (rest := []) ⟨hx, hb, hml, hown, hts⟩ (c_X3_checkArgument l D y _ hst b 0 5) (va_cwS 3 hts gX3_setDrift_X3_checkArgument rfl rfl rfl (by decide +kernel) ⟨Nat.le_of_ble_eq_true rfl, Nat.le_of_ble_eq_true rfl⟩) hK hN hE hX hP hS hA rfl hl.1 rfl (Nat.le_of_ble_eq_true rfl) dX3_setDrift_9 ⟨Nat.le_of_ble_eq_true rfl, Nat.le_of_ble_eq_true rfl⟩ (fun hc_49 ce q9 H locs hP hS h91 h92 h93 => ?_) (fun hc_49 H locs hP hS => ?_)
  · subst hQ
    exact vx_out (fun x hx9 => (htab x hx9).elim) hlocks h91 h92 h93 (fun t ht hv9 => ⟨(), (by unfold stC; rw [if_neg hc_48, if_pos hc_49]; decide), ⟨(by unfold stC; rw [if_neg hc_48, if_pos hc_49]), by rw [ht]; exact hP⟩, hS.F ht⟩) hS.2.2 (Nat.le_of_ble_eq_true rfl) (Nat.le_of_ble_eq_true rfl)
  refine lv_aload_n hx hb dX3_setDrift_12 rfl (lv_at hl 0 rfl) ?_
  have hin3 : ∀ w ∈ u_ws RX3 TX3 4, w ∈ wsX3_setDrift := by decide +kernel
  have hf9 := hts (.fieldLink RX3 9 "CoracleMakers" "drifts" "[I") (by decide +kernel)
  refine va_get (D := D) (ci := 3) (v := .ref (ac 1)) (C := RX3) (T := TX3) (N := 4) hx hb hts hin3 hown hK hP 0 (ap_l (wf_at (by decide) rfl)) rfl 0 (by decide) hf9 (fun _ h9 => h9) rfl dX3_setDrift_13 ?_
  refine lv_iload_n hx hb dX3_setDrift_16 rfl (lv_at hl 1 rfl) ?_
  refine va_iald hx hb hK hP 1 0 (ap_l (wf_at (by decide) rfl)) rfl (nci_l hc_48 rfl) dX3_setDrift_17 ?_
  refine lv_istore_n (lv' := [(3, .int (K 1 (ix h))), (0, .ref (ac 0)), (1, .int h), (2, .int b)]) hx hb dX3_setDrift_18 rfl hl (by decide) rfl (fun ls hl => ?_)
  refine lv_aload_n hx hb dX3_setDrift_19 rfl (lv_at hl 1 rfl) ?_
  refine va_get (D := D) (ci := 3) (v := .ref (ac 1)) (C := RX3) (T := TX3) (N := 4) hx hb hts hin3 hown hK hP 0 (ap_l (wf_at (by decide) rfl)) rfl 0 (by decide) hf9 (fun _ h9 => h9) rfl dX3_setDrift_20 ?_
  refine lv_iload_n hx hb dX3_setDrift_23 rfl (lv_at hl 2 rfl) ?_
  refine lv_iload_n hx hb dX3_setDrift_24 rfl (lv_at hl 3 rfl) ?_
  obtain ⟨K30, hK30⟩ : ∃ z, z = va_up K 1 (upd (K 1) (ix h) b) := ⟨_, rfl⟩
  refine va_iast hx hb hK hP (aD_D hD (show List.map Prod.fst (cmW y ac (an 0) (ar 0) K ++ (rvW y an V ++ rvW y ar U)) = _ from by rw [List.map_append, List.map_append, cm_fst y ac _ _ _, rv_fst y an _, rv_fst y ar _])) hS 1 0 (ap_l (wf_at (by decide) rfl)) rfl (nci_l hc_48 rfl) dX3_setDrift_25 (fun H locs hP _ hS => ?_)
  have hP : va_P D vwCl (cmW y ac (an 0) (ar 0) K30 ++ (rvW y an V ++ rvW y ar U)) H := (by rw [hK30]; exact P_eq (ap_set_l (show 1 < (wf _ _ _).length by rw [wf_len]; omega) (cm_set (k := 1) (upd (K 1) (ix h) b) (by decide) rfl)) hP)
  refine lv_iload_n hx hb dX3_setDrift_26 rfl (lv_at hl 0 rfl) ?_
  have hP : va_P D vwCl (cmA y ac an ar (vU K 1 (ix h) b) V U) H := (by subst hK30; exact hP)
  subst hQ
  refine W.widen (k := 2) (n := 12) (Nat.le_of_ble_eq_true rfl) (Nat.le_of_ble_eq_true rfl) ?_
  exact vx_ret (W.iret (v := K 1 (ix h)) hx hb hr (fun t ht hW => ⟨⟨_, U, rfl, ⟨(by unfold stC; rw [if_neg hc_48, if_neg hc_49]), rfl⟩, bp_at hK hN hP t ht hW⟩, hS.F ht⟩) hS.2.2 dX3_setDrift_27)
abbrev rmX3_setRun : Room := { frames := 7, cells := 2, slots := 12, locals := 112 }
set_option maxHeartbeats 4000000 in
set_option maxRecDepth 100000 in
/-- setRun(h, b) -/
theorem c_X3_setRun (l : Launch) (D : va_G) (y : Nat → ClassId) (sz : Nat) (hst : l.stackTraces = false) (ac an ar : Nat → Nat) (K V U : Nat → Nat → Int32) (h b : Int32) : XI (S := Nat → Nat → Int32) l D y yX3_setRun wsX3_setRun rmX3_setRun 2 12 [.ref (ac 0), .int h, .int b] (cmA y ac an ar K V U) sz (stC h b 9) (K 2 (ix h)) (fun u => cmA y ac an ar (vU K 2 (ix h) b) V u) := by
  refine mX (fun A => va_Qi (fun r9 (_ : Nat → Nat → Int32) => (stC h b 9) = 0 ∧ r9 = (K 2 (ix h))) (fun u t9 => Bp D y (cmA y ac an ar (vU K 2 (ix h) b) V u) t9) A) (fun A => vx_X (fun (_ : Unit) => ¬ (stC h b 9) = 0) (fun E _ t9 => E = xnm (stC h b 9) ∧ va_P D vwCl (cmA y ac an ar K V U) t9.heap) A) (C := RX3) (cc := cX3_setRun) (maxL := 4) (ret := (some .int)) (by decide) rfl rfl (Nat.le_of_ble_eq_true rfl) ?_
  intro p e s m a below meth c ls A Q hQ hsz hx hb hr hts hown hlocks htab hml hP hK hN hE hX hD hA hS hl
  rw [cmA_fst] at hD
  have hl : lv_has ls 4 [(0, .ref (ac 0)), (1, .int h), (2, .int b)] := hl
  refine lv_iload_n hx hb dX3_setRun_0 rfl (lv_at hl 1 rfl) ?_
  refine lv_bipush (v := 8) hx hb dX3_setRun_1 (by decide) ?_
  refine cX_S (W0 := (cmW y ac (an 0) (ar 0) K ++ (rvW y an V ++ rvW y ar U))) (As := [.int h, .int 8]) (rest := []) ⟨hx, hb, hml, hown, hts⟩ (c_X3_checkIndex l D y _ hst h 8) (va_cwS 2 hts gX3_setRun_X3_checkIndex rfl rfl rfl (by decide +kernel) ⟨Nat.le_of_ble_eq_true rfl, Nat.le_of_ble_eq_true rfl⟩) hK hN hE hX hP hS hA rfl hl.1 rfl (Nat.le_of_ble_eq_true rfl) dX3_setRun_3 ⟨Nat.le_of_ble_eq_true rfl, Nat.le_of_ble_eq_true rfl⟩ (fun hc_50 ce q9 H locs hP hS h91 h92 h93 => ?_) (fun hc_50 H locs hP hS => ?_)
  · subst hQ
    exact vx_out (fun x hx9 => (htab x hx9).elim) hlocks h91 h92 h93 (fun t ht hv9 => ⟨(), (by unfold stC; rw [if_pos hc_50]; decide), ⟨(by unfold stC; rw [if_pos hc_50]), by rw [ht]; exact hP⟩, hS.F ht⟩) hS.2.2 (Nat.le_of_ble_eq_true rfl) (Nat.le_of_ble_eq_true rfl)
  refine lv_iload_n hx hb dX3_setRun_6 rfl (lv_at hl 2 rfl) ?_
  refine lv_iconst (v := 0) hx hb dX3_setRun_7 (by decide) ?_
  refine lv_bipush (v := 9) hx hb dX3_setRun_8 (by decide) ?_
  refine cX_S (W0 := (cmW y ac (an 0) (ar 0) K ++ (rvW y an V ++ rvW y ar U))) (As := [.int b, .int 0, .int 9]) (rest := []) ⟨hx, hb, hml, hown, hts⟩ (c_X3_checkArgument l D y _ hst b 0 9) (va_cwS 3 hts gX3_setRun_X3_checkArgument rfl rfl rfl (by decide +kernel) ⟨Nat.le_of_ble_eq_true rfl, Nat.le_of_ble_eq_true rfl⟩) hK hN hE hX hP hS hA rfl hl.1 rfl (Nat.le_of_ble_eq_true rfl) dX3_setRun_10 ⟨Nat.le_of_ble_eq_true rfl, Nat.le_of_ble_eq_true rfl⟩ (fun hc_51 ce q9 H locs hP hS h91 h92 h93 => ?_) (fun hc_51 H locs hP hS => ?_)
  · subst hQ
    exact vx_out (fun x hx9 => (htab x hx9).elim) hlocks h91 h92 h93 (fun t ht hv9 => ⟨(), (by unfold stC; rw [if_neg hc_50, if_pos hc_51]; decide), ⟨(by unfold stC; rw [if_neg hc_50, if_pos hc_51]), by rw [ht]; exact hP⟩, hS.F ht⟩) hS.2.2 (Nat.le_of_ble_eq_true rfl) (Nat.le_of_ble_eq_true rfl)
  refine lv_aload_n hx hb dX3_setRun_13 rfl (lv_at hl 0 rfl) ?_
  have hin3 : ∀ w ∈ u_ws RX3 TX3 4, w ∈ wsX3_setRun := by decide +kernel
  have hf13 := hts (.fieldLink RX3 13 "CoracleMakers" "runs" "[I") (by decide +kernel)
  refine va_get (D := D) (ci := 3) (v := .ref (ac 2)) (C := RX3) (T := TX3) (N := 4) hx hb hts hin3 hown hK hP 0 (ap_l (wf_at (by decide) rfl)) rfl 1 (by decide) hf13 (fun _ h9 => h9) rfl dX3_setRun_14 ?_
  refine lv_iload_n hx hb dX3_setRun_17 rfl (lv_at hl 1 rfl) ?_
  refine va_iald hx hb hK hP 2 0 (ap_l (wf_at (by decide) rfl)) rfl (nci_l hc_50 rfl) dX3_setRun_18 ?_
  refine lv_istore_n (lv' := [(3, .int (K 2 (ix h))), (0, .ref (ac 0)), (1, .int h), (2, .int b)]) hx hb dX3_setRun_19 rfl hl (by decide) rfl (fun ls hl => ?_)
  refine lv_aload_n hx hb dX3_setRun_20 rfl (lv_at hl 1 rfl) ?_
  refine va_get (D := D) (ci := 3) (v := .ref (ac 2)) (C := RX3) (T := TX3) (N := 4) hx hb hts hin3 hown hK hP 0 (ap_l (wf_at (by decide) rfl)) rfl 1 (by decide) hf13 (fun _ h9 => h9) rfl dX3_setRun_21 ?_
  refine lv_iload_n hx hb dX3_setRun_24 rfl (lv_at hl 2 rfl) ?_
  refine lv_iload_n hx hb dX3_setRun_25 rfl (lv_at hl 3 rfl) ?_
  obtain ⟨K31, hK31⟩ : ∃ z, z = va_up K 2 (upd (K 2) (ix h) b) := ⟨_, rfl⟩
  refine va_iast hx hb hK hP (aD_D hD (show List.map Prod.fst (cmW y ac (an 0) (ar 0) K ++ (rvW y an V ++ rvW y ar U)) = _ from by rw [List.map_append, List.map_append, cm_fst y ac _ _ _, rv_fst y an _, rv_fst y ar _])) hS 2 0 (ap_l (wf_at (by decide) rfl)) rfl (nci_l hc_50 rfl) dX3_setRun_26 (fun H locs hP _ hS => ?_)
  have hP : va_P D vwCl (cmW y ac (an 0) (ar 0) K31 ++ (rvW y an V ++ rvW y ar U)) H := (by rw [hK31]; exact P_eq (ap_set_l (show 2 < (wf _ _ _).length by rw [wf_len]; omega) (cm_set (k := 2) (upd (K 2) (ix h) b) (by decide) rfl)) hP)
  refine lv_iload_n hx hb dX3_setRun_27 rfl (lv_at hl 0 rfl) ?_
  have hP : va_P D vwCl (cmA y ac an ar (vU K 2 (ix h) b) V U) H := (by subst hK31; exact hP)
  subst hQ
  refine W.widen (k := 2) (n := 12) (Nat.le_of_ble_eq_true rfl) (Nat.le_of_ble_eq_true rfl) ?_
  exact vx_ret (W.iret (v := K 2 (ix h)) hx hb hr (fun t ht hW => ⟨⟨_, U, rfl, ⟨(by unfold stC; rw [if_neg hc_50, if_neg hc_51]), rfl⟩, bp_at hK hN hP t ht hW⟩, hS.F ht⟩) hS.2.2 dX3_setRun_28)
def buC (V : Nat → Nat → Int32) (x m : Int32) : Nat := if ciP x 4 then 1 else if caP m 1 40 then 2 else if V 0 1 < prc (ix x) * m then 3 else 0
def buV (V : Nat → Nat → Int32) (x m : Int32) : Nat → Nat → Int32 :=
  let V1 := vU V 0 1 (V 0 1 - prc (ix x) * m)
  vU V1 4 (ix x) (V1 4 (ix x) + m)
abbrev rmX3_buy : Room := { frames := 7, cells := 3, slots := 18, locals := 112 }
set_option maxHeartbeats 4000000 in
set_option maxRecDepth 100000 in
/-- buy(x, m) -/
theorem c_X3_buy (l : Launch) (D : va_G) (y : Nat → ClassId) (sz : Nat) (hst : l.stackTraces = false) (ac an ar : Nat → Nat) (K V U : Nat → Nat → Int32) (x n : Int32) : XI (S := Nat → Nat → Int32) l D y yX3_buy wsX3_buy rmX3_buy 3 18 [.ref (ac 0), .int x, .int n] (cmA y ac an ar K V U) sz (buC V x n) (buV V x n 4 (ix x)) (fun u => cmA y ac an ar K (buV V x n) u) := by
  refine mX (fun A => va_Qi (fun r9 (_ : Nat → Nat → Int32) => (buC V x n) = 0 ∧ r9 = (buV V x n 4 (ix x))) (fun u t9 => Bp D y (cmA y ac an ar K (buV V x n) u) t9) A) (fun A => vx_X (fun (_ : Unit) => ¬ (buC V x n) = 0) (fun E _ t9 => E = xnm (buC V x n) ∧ va_P D vwCl (cmA y ac an ar K V U) t9.heap) A) (C := RX3) (cc := cX3_buy) (maxL := 4) (ret := (some .int)) (by decide) rfl rfl (Nat.le_of_ble_eq_true rfl) ?_
  intro p e s m a below meth c ls A Q hQ hsz hx hb hr hts hown hlocks htab hml hP hK hN hE hX hD hA hS hl
  rw [cmA_fst] at hD
  have hl : lv_has ls 4 [(0, .ref (ac 0)), (1, .int x), (2, .int n)] := hl
  refine lv_iload_n hx hb dX3_buy_0 rfl (lv_at hl 1 rfl) ?_
  refine lv_iconst (v := 4) hx hb dX3_buy_1 (by decide) ?_
  refine cX_S (W0 := (cmW y ac (an 0) (ar 0) K ++ (rvW y an V ++ rvW y ar U))) (As := [.int x, .int 4]) (rest := []) ⟨hx, hb, hml, hown, hts⟩ (c_X3_checkIndex l D y _ hst x 4) (va_cwS 2 hts gX3_buy_X3_checkIndex rfl rfl rfl (by decide +kernel) ⟨Nat.le_of_ble_eq_true rfl, Nat.le_of_ble_eq_true rfl⟩) hK hN hE hX hP hS hA rfl hl.1 rfl (Nat.le_of_ble_eq_true rfl) dX3_buy_2 ⟨Nat.le_of_ble_eq_true rfl, Nat.le_of_ble_eq_true rfl⟩ (fun hc_52 ce q9 H locs hP hS h91 h92 h93 => ?_) (fun hc_52 H locs hP hS => ?_)
  · subst hQ
    exact vx_out (fun x hx9 => (htab x hx9).elim) hlocks h91 h92 h93 (fun t ht hv9 => ⟨(), (by unfold buC; rw [if_pos hc_52]; decide), ⟨(by unfold buC; rw [if_pos hc_52]), by rw [ht]; exact hP⟩, hS.F ht⟩) hS.2.2 (Nat.le_of_ble_eq_true rfl) (Nat.le_of_ble_eq_true rfl)
  refine lv_iload_n hx hb dX3_buy_5 rfl (lv_at hl 2 rfl) ?_
  refine lv_iconst (v := 1) hx hb dX3_buy_6 (by decide) ?_
  refine lv_bipush (v := 40) hx hb dX3_buy_7 (by decide) ?_
  refine cX_S (W0 := (cmW y ac (an 0) (ar 0) K ++ (rvW y an V ++ rvW y ar U))) (As := [.int n, .int 1, .int 40]) (rest := []) ⟨hx, hb, hml, hown, hts⟩ (c_X3_checkArgument l D y _ hst n 1 40) (va_cwS 3 hts gX3_buy_X3_checkArgument rfl rfl rfl (by decide +kernel) ⟨Nat.le_of_ble_eq_true rfl, Nat.le_of_ble_eq_true rfl⟩) hK hN hE hX hP hS hA rfl hl.1 rfl (Nat.le_of_ble_eq_true rfl) dX3_buy_9 ⟨Nat.le_of_ble_eq_true rfl, Nat.le_of_ble_eq_true rfl⟩ (fun hc_53 ce q9 H locs hP hS h91 h92 h93 => ?_) (fun hc_53 H locs hP hS => ?_)
  · subst hQ
    exact vx_out (fun x hx9 => (htab x hx9).elim) hlocks h91 h92 h93 (fun t ht hv9 => ⟨(), (by unfold buC; rw [if_neg hc_52, if_pos hc_53]; decide), ⟨(by unfold buC; rw [if_neg hc_52, if_pos hc_53]), by rw [ht]; exact hP⟩, hS.F ht⟩) hS.2.2 (Nat.le_of_ble_eq_true rfl) (Nat.le_of_ble_eq_true rfl)
  obtain ⟨t9, hZ9, hT9⟩ := hX.2
  refine va_gets hx hb hZ9 hS hown (hts (.fieldLink RX3 34 "CoracleMakers" "PRICES" "[I") (by decide +kernel)) (fun _ h9 => h9) dX3_buy_12 ?_
  refine lv_iload_n hx hb dX3_buy_15 rfl (lv_at hl 1 rfl) ?_
  refine va_ti hx hb hT9 hS (nci_l hc_52 rfl) (v := .int (prc (ix x))) rfl dX3_buy_16 ?_
  refine lv_iload_n hx hb dX3_buy_17 rfl (lv_at hl 2 rfl) ?_
  refine lv_imul hx hb dX3_buy_18 ?_
  refine lv_istore_n (lv' := [(3, .int ((prc (ix x)) * n)), (0, .ref (ac 0)), (1, .int x), (2, .int n)]) hx hb dX3_buy_19 rfl hl (by decide) rfl (fun ls hl => ?_)
  refine lv_aload_n hx hb dX3_buy_20 rfl (lv_at hl 1 rfl) ?_
  have hin3 : ∀ w ∈ u_ws RX3 TX3 4, w ∈ wsX3_buy := by decide +kernel
  have hf19 := hts (.fieldLink RX3 19 "CoracleMakers" "now" "LCoracleMakers$River;") (by decide +kernel)
  refine va_get (D := D) (ci := 3) (v := .ref (an 0)) (C := RX3) (T := TX3) (N := 4) hx hb hts hin3 hown hK hP 0 (ap_l (wf_at (by decide) rfl)) rfl 2 (by decide) hf19 (fun _ h9 => h9) rfl dX3_buy_21 ?_
  have hin2 : ∀ w ∈ u_ws RX2 TX2 10, w ∈ wsX3_buy := by decide +kernel
  have hf37 := hts (.fieldLink RX3 37 "CoracleMakers$River" "coins" "I") (by decide +kernel)
  refine va_get (D := D) (ci := 2) (v := .int (V 0 1)) (C := RX2) (T := TX2) (N := 10) hx hb hts hin2 hown hK hP (3 + 0) (ap_r (wf_len 3 _ _) (ap_l (wf_at (by decide) rfl))) rfl 5 (by decide) hf37 (fun _ h9 => h9) rfl dX3_buy_24 ?_
  refine lv_iload_n hx hb dX3_buy_27 rfl (lv_at hl 0 rfl) ?_
  refine lv_icmp_lt (tgt := 35) hx hb dX3_buy_28 (by decide) (fun c_54 => ?_) (fun c_54 => ?_)
  · refine lv_iconst (v := 0) hx hb dX3_buy_35 (by decide) ?_
    refine cX_S (W0 := (cmW y ac (an 0) (ar 0) K ++ (rvW y an V ++ rvW y ar U))) (As := [.int 0]) (rest := []) ⟨hx, hb, hml, hown, hts⟩ (c_X3_checkState l D y _ hst 0) (va_cwS 1 hts gX3_buy_X3_checkState rfl rfl rfl (by decide +kernel) ⟨Nat.le_of_ble_eq_true rfl, Nat.le_of_ble_eq_true rfl⟩) hK hN hE hX hP hS hA rfl hl.1 rfl (Nat.le_of_ble_eq_true rfl) dX3_buy_36 ⟨Nat.le_of_ble_eq_true rfl, Nat.le_of_ble_eq_true rfl⟩ (fun hc_55 ce q9 H locs hP hS h91 h92 h93 => ?_) (fun hc_55 H locs hP hS => ?_)
    · subst hQ
      exact vx_out (fun x hx9 => (htab x hx9).elim) hlocks h91 h92 h93 (fun t ht hv9 => ⟨(), (by unfold buC; rw [if_neg hc_52, if_neg hc_53, if_pos c_54]; decide), ⟨(by unfold buC; rw [if_neg hc_52, if_neg hc_53, if_pos c_54]), by rw [ht]; exact hP⟩, hS.F ht⟩) hS.2.2 (Nat.le_of_ble_eq_true rfl) (Nat.le_of_ble_eq_true rfl)
    exact absurd rfl hc_55
  · refine lv_iconst (v := 1) hx hb dX3_buy_31 (by decide) ?_
    refine lv_goto (tgt := 36) hx hb dX3_buy_32 (by decide) ?_
    refine cX_S (W0 := (cmW y ac (an 0) (ar 0) K ++ (rvW y an V ++ rvW y ar U))) (As := [.int 1]) (rest := []) ⟨hx, hb, hml, hown, hts⟩ (c_X3_checkState l D y _ hst 1) (va_cwS 1 hts gX3_buy_X3_checkState rfl rfl rfl (by decide +kernel) ⟨Nat.le_of_ble_eq_true rfl, Nat.le_of_ble_eq_true rfl⟩) hK hN hE hX hP hS hA rfl hl.1 rfl (Nat.le_of_ble_eq_true rfl) dX3_buy_36 ⟨Nat.le_of_ble_eq_true rfl, Nat.le_of_ble_eq_true rfl⟩ (fun hc_56 ce q9 H locs hP hS h91 h92 h93 => ?_) (fun hc_56 H locs hP hS => ?_)
    · exact absurd hc_56 (by decide)
    refine lv_aload_n hx hb dX3_buy_39 rfl (lv_at hl 1 rfl) ?_
    refine va_get (D := D) (ci := 3) (v := .ref (an 0)) (C := RX3) (T := TX3) (N := 4) hx hb hts hin3 hown hK hP 0 (ap_l (wf_at (by decide) rfl)) rfl 2 (by decide) hf19 (fun _ h9 => h9) rfl dX3_buy_40 ?_
    refine lv_dup hx hb dX3_buy_43 rfl ?_
    refine va_get (D := D) (ci := 2) (v := .int (V 0 1)) (C := RX2) (T := TX2) (N := 10) hx hb hts hin2 hown hK hP (3 + 0) (ap_r (wf_len 3 _ _) (ap_l (wf_at (by decide) rfl))) rfl 5 (by decide) hf37 (fun _ h9 => h9) rfl dX3_buy_44 ?_
    refine lv_iload_n hx hb dX3_buy_47 rfl (lv_at hl 0 rfl) ?_
    refine lv_isub hx hb dX3_buy_48 ?_
    refine lv_topi (fun x_57 ex_57 => ?_)
    obtain ⟨V32, hV32⟩ : ∃ z, z = va_up V 0 (upd (V 0) 1 x_57) := ⟨_, rfl⟩
    refine va_put (D := D) (ci := 2) (v := .int x_57) (ty := .int) (C := RX2) (T := TX2) (N := 10) hx hb hts hin2 tyX2 tyX2_ok nmX2 hown hK hP (aD_D hD (show List.map Prod.fst (cmW y ac (an 0) (ar 0) K ++ (rvW y an V ++ rvW y ar U)) = _ from by rw [List.map_append, List.map_append, cm_fst y ac _ _ _, rv_fst y an _, rv_fst y ar _])) hS (3 + 0) (ap_r (wf_len 3 _ _) (ap_l (wf_at (by decide) rfl))) rfl 5 (by decide) hf37 (fun _ h9 => h9) rfl (by decide +kernel) rfl rfl (Nat.le_of_ble_eq_true rfl) dX3_buy_49 (fun H locs hP _ hS => ?_)
    have hP : va_P D vwCl (cmW y ac (an 0) (ar 0) K ++ (rvW y an V32 ++ rvW y ar U)) H := (by rw [hV32]; exact P_eq (ap_set_r (wf_len 3 _ _) (ap_set_l (show 0 < (wf _ _ _).length by rw [wf_len]; omega) (rv_set (k := 0) (upd (V 0) 1 x_57) rfl))) hP)
    refine lv_aload_n hx hb dX3_buy_52 rfl (lv_at hl 1 rfl) ?_
    refine va_get (D := D) (ci := 3) (v := .ref (an 0)) (C := RX3) (T := TX3) (N := 4) hx hb hts hin3 hown hK hP 0 (ap_l (wf_at (by decide) rfl)) rfl 2 (by decide) hf19 (fun _ h9 => h9) rfl dX3_buy_53 ?_
    have hf45 := hts (.fieldLink RX3 45 "CoracleMakers$River" "stores" "[I") (by decide +kernel)
    refine va_get (D := D) (ci := 2) (v := .ref (an 4)) (C := RX2) (T := TX2) (N := 10) hx hb hts hin2 hown hK hP (3 + 0) (ap_r (wf_len 3 _ _) (ap_l (wf_at (by decide) rfl))) rfl 3 (by decide) hf45 (fun _ h9 => h9) rfl dX3_buy_56 ?_
    refine lv_iload_n hx hb dX3_buy_59 rfl (lv_at hl 2 rfl) ?_
    refine lv_dup2_11 hx hb dX3_buy_60 rfl rfl ?_
    refine va_iald hx hb hK hP (3 + 4) 0 (ap_r (wf_len 3 _ _) (ap_l (wf_at (by decide) rfl))) rfl (nci_l hc_52 rfl) dX3_buy_61 ?_
    refine lv_iload_n hx hb dX3_buy_62 rfl (lv_at hl 3 rfl) ?_
    refine lv_iadd hx hb dX3_buy_63 ?_
    refine lv_topi (fun x_58 ex_58 => ?_)
    obtain ⟨V33, hV33⟩ : ∃ z, z = va_up V32 4 (upd (V32 4) (ix x) x_58) := ⟨_, rfl⟩
    refine va_iast hx hb hK hP (aD_D hD (show List.map Prod.fst (cmW y ac (an 0) (ar 0) K ++ (rvW y an V32 ++ rvW y ar U)) = _ from by rw [List.map_append, List.map_append, cm_fst y ac _ _ _, rv_fst y an _, rv_fst y ar _])) hS (3 + 4) 0 (ap_r (wf_len 3 _ _) (ap_l (wf_at (by decide) rfl))) rfl (nci_l hc_52 rfl) dX3_buy_64 (fun H locs hP _ hS => ?_)
    have hP : va_P D vwCl (cmW y ac (an 0) (ar 0) K ++ (rvW y an V33 ++ rvW y ar U)) H := (by rw [hV33]; exact P_eq (ap_set_r (wf_len 3 _ _) (ap_set_l (show 4 < (wf _ _ _).length by rw [wf_len]; omega) (rv_set (k := 4) (upd (V32 4) (ix x) x_58) rfl))) hP)
    refine lv_aload_n hx hb dX3_buy_65 rfl (lv_at hl 1 rfl) ?_
    refine va_get (D := D) (ci := 3) (v := .ref (an 0)) (C := RX3) (T := TX3) (N := 4) hx hb hts hin3 hown hK hP 0 (ap_l (wf_at (by decide) rfl)) rfl 2 (by decide) hf19 (fun _ h9 => h9) rfl dX3_buy_66 ?_
    refine va_get (D := D) (ci := 2) (v := .ref (an 4)) (C := RX2) (T := TX2) (N := 10) hx hb hts hin2 hown hK hP (3 + 0) (ap_r (wf_len 3 _ _) (ap_l (wf_at (by decide) rfl))) rfl 3 (by decide) hf45 (fun _ h9 => h9) rfl dX3_buy_69 ?_
    refine lv_iload_n hx hb dX3_buy_72 rfl (lv_at hl 2 rfl) ?_
    refine va_iald hx hb hK hP (3 + 4) 0 (ap_r (wf_len 3 _ _) (ap_l (wf_at (by decide) rfl))) rfl (nci_l hc_52 rfl) dX3_buy_73 ?_
    have hP : va_P D vwCl (cmA y ac an ar K (buV V x n) U) H := (by subst hV33 ex_58 hV32 ex_57; exact hP)
    subst hQ
    refine W.widen (k := 3) (n := 18) (Nat.le_of_ble_eq_true rfl) (Nat.le_of_ble_eq_true rfl) ?_
    exact vx_ret (W.iret (v := V33 4 (ix x)) hx hb hr (fun t ht hW => ⟨⟨_, U, rfl, ⟨(by unfold buC; rw [if_neg hc_52, if_neg hc_53, if_neg c_54]), (by subst hV33 ex_58 hV32 ex_57; rfl)⟩, bp_at hK hN hP t ht hW⟩, hS.F ht⟩) hS.2.2 dX3_buy_74)
def mkC (V : Nat → Nat → Int32) (l h s : Int32) : Nat := if ciP h 3 then 1 else if caP l 4 12 then 2 else if caP s 1 6 then 2 else if 6 ≤ V 0 2 then 3 else if V 4 3 < l then 3 else if V 4 (ix h) < 1 then 3 else 0
theorem in6 {x : Int32} (h : vp_in x 7) (h6 : ¬ 6 ≤ x) : vp_in x 6 := by
  have h1 := vp_in_iff.mp h
  rw [Int32.le_iff_toInt_le] at h6
  exact vp_in_iff.mpr ⟨h1.1, by have : (6 : Int32).toInt = 6 := rfl; omega⟩
abbrev rmX3_make : Room := { frames := 7, cells := 4, slots := 24, locals := 112 }
set_option maxHeartbeats 4000000 in
set_option maxRecDepth 100000 in
/-- make(xa, xb, xc) -/
theorem c_X3_make (l : Launch) (D : va_G) (y : Nat → ClassId) (sz : Nat) (hst : l.stackTraces = false) (ac an ar : Nat → Nat) (K V U : Nat → Nat → Int32) (xa xb xc : Int32) (hM : vp_in (V 0 2) 7) : XI (S := Nat → Nat → Int32) l D y yX3_make wsX3_make rmX3_make 4 24 [.ref (ac 0), .int xa, .int xb, .int xc] (cmA y ac an ar K V U) sz (mkC V xa xb xc) (V 0 2) (fun u => cmA y ac an ar K (mkF V xa xb xc) u) := by
  refine mX (fun A => va_Qi (fun r9 (_ : Nat → Nat → Int32) => (mkC V xa xb xc) = 0 ∧ r9 = (V 0 2)) (fun u t9 => Bp D y (cmA y ac an ar K (mkF V xa xb xc) u) t9) A) (fun A => vx_X (fun (_ : Unit) => ¬ (mkC V xa xb xc) = 0) (fun E _ t9 => E = xnm (mkC V xa xb xc) ∧ va_P D vwCl (cmA y ac an ar K V U) t9.heap) A) (C := RX3) (cc := cX3_make) (maxL := 4) (ret := (some .int)) (by decide) rfl rfl (Nat.le_of_ble_eq_true rfl) ?_
  intro p e s m a below meth c ls A Q hQ hsz hx hb hr hts hown hlocks htab hml hP hK hN hE hX hD hA hS hl
  rw [cmA_fst] at hD
  have hl : lv_has ls 4 [(0, .ref (ac 0)), (1, .int xa), (2, .int xb), (3, .int xc)] := hl
  refine lv_iload_n hx hb dX3_make_0 rfl (lv_at hl 2 rfl) ?_
  refine lv_iconst (v := 3) hx hb dX3_make_1 (by decide) ?_
  refine cX_S (W0 := (cmW y ac (an 0) (ar 0) K ++ (rvW y an V ++ rvW y ar U))) (As := [.int xb, .int 3]) (rest := []) ⟨hx, hb, hml, hown, hts⟩ (c_X3_checkIndex l D y _ hst xb 3) (va_cwS 2 hts gX3_make_X3_checkIndex rfl rfl rfl (by decide +kernel) ⟨Nat.le_of_ble_eq_true rfl, Nat.le_of_ble_eq_true rfl⟩) hK hN hE hX hP hS hA rfl hl.1 rfl (Nat.le_of_ble_eq_true rfl) dX3_make_2 ⟨Nat.le_of_ble_eq_true rfl, Nat.le_of_ble_eq_true rfl⟩ (fun hc_59 ce q9 H locs hP hS h91 h92 h93 => ?_) (fun hc_59 H locs hP hS => ?_)
  · subst hQ
    exact vx_out (fun x hx9 => (htab x hx9).elim) hlocks h91 h92 h93 (fun t ht hv9 => ⟨(), (by unfold mkC; rw [if_pos hc_59]; decide), ⟨(by unfold mkC; rw [if_pos hc_59]), by rw [ht]; exact hP⟩, hS.F ht⟩) hS.2.2 (Nat.le_of_ble_eq_true rfl) (Nat.le_of_ble_eq_true rfl)
  refine lv_iload_n hx hb dX3_make_5 rfl (lv_at hl 1 rfl) ?_
  refine lv_iconst (v := 4) hx hb dX3_make_6 (by decide) ?_
  refine lv_bipush (v := 12) hx hb dX3_make_7 (by decide) ?_
  refine cX_S (W0 := (cmW y ac (an 0) (ar 0) K ++ (rvW y an V ++ rvW y ar U))) (As := [.int xa, .int 4, .int 12]) (rest := []) ⟨hx, hb, hml, hown, hts⟩ (c_X3_checkArgument l D y _ hst xa 4 12) (va_cwS 3 hts gX3_make_X3_checkArgument rfl rfl rfl (by decide +kernel) ⟨Nat.le_of_ble_eq_true rfl, Nat.le_of_ble_eq_true rfl⟩) hK hN hE hX hP hS hA rfl hl.1 rfl (Nat.le_of_ble_eq_true rfl) dX3_make_9 ⟨Nat.le_of_ble_eq_true rfl, Nat.le_of_ble_eq_true rfl⟩ (fun hc_60 ce q9 H locs hP hS h91 h92 h93 => ?_) (fun hc_60 H locs hP hS => ?_)
  · subst hQ
    exact vx_out (fun x hx9 => (htab x hx9).elim) hlocks h91 h92 h93 (fun t ht hv9 => ⟨(), (by unfold mkC; rw [if_neg hc_59, if_pos hc_60]; decide), ⟨(by unfold mkC; rw [if_neg hc_59, if_pos hc_60]), by rw [ht]; exact hP⟩, hS.F ht⟩) hS.2.2 (Nat.le_of_ble_eq_true rfl) (Nat.le_of_ble_eq_true rfl)
  refine lv_iload_n hx hb dX3_make_12 rfl (lv_at hl 3 rfl) ?_
  refine lv_iconst (v := 1) hx hb dX3_make_13 (by decide) ?_
  refine lv_bipush (v := 6) hx hb dX3_make_14 (by decide) ?_
  refine cX_S (W0 := (cmW y ac (an 0) (ar 0) K ++ (rvW y an V ++ rvW y ar U))) (As := [.int xc, .int 1, .int 6]) (rest := []) ⟨hx, hb, hml, hown, hts⟩ (c_X3_checkArgument l D y _ hst xc 1 6) (va_cwS 3 hts gX3_make_X3_checkArgument rfl rfl rfl (by decide +kernel) ⟨Nat.le_of_ble_eq_true rfl, Nat.le_of_ble_eq_true rfl⟩) hK hN hE hX hP hS hA rfl hl.1 rfl (Nat.le_of_ble_eq_true rfl) dX3_make_16 ⟨Nat.le_of_ble_eq_true rfl, Nat.le_of_ble_eq_true rfl⟩ (fun hc_61 ce q9 H locs hP hS h91 h92 h93 => ?_) (fun hc_61 H locs hP hS => ?_)
  · subst hQ
    exact vx_out (fun x hx9 => (htab x hx9).elim) hlocks h91 h92 h93 (fun t ht hv9 => ⟨(), (by unfold mkC; rw [if_neg hc_59, if_neg hc_60, if_pos hc_61]; decide), ⟨(by unfold mkC; rw [if_neg hc_59, if_neg hc_60, if_pos hc_61]), by rw [ht]; exact hP⟩, hS.F ht⟩) hS.2.2 (Nat.le_of_ble_eq_true rfl) (Nat.le_of_ble_eq_true rfl)
  have hb3 : vp_in xb 3 := nci_l hc_59 rfl
  have hxb4 : vp_in xb 4 := in_mono hb3 (by decide)
  refine lv_aload_n hx hb dX3_make_19 rfl (lv_at hl 0 rfl) ?_
  have hin3 : ∀ w ∈ u_ws RX3 TX3 4, w ∈ wsX3_make := by decide +kernel
  have hf19 := hts (.fieldLink RX3 19 "CoracleMakers" "now" "LCoracleMakers$River;") (by decide +kernel)
  refine va_get (D := D) (ci := 3) (v := .ref (an 0)) (C := RX3) (T := TX3) (N := 4) hx hb hts hin3 hown hK hP 0 (ap_l (wf_at (by decide) rfl)) rfl 2 (by decide) hf19 (fun _ h9 => h9) rfl dX3_make_20 ?_
  have hin2 : ∀ w ∈ u_ws RX2 TX2 10, w ∈ wsX3_make := by decide +kernel
  have hf48 := hts (.fieldLink RX3 48 "CoracleMakers$River" "made" "I") (by decide +kernel)
  refine va_get (D := D) (ci := 2) (v := .int (V 0 2)) (C := RX2) (T := TX2) (N := 10) hx hb hts hin2 hown hK hP (3 + 0) (ap_r (wf_len 3 _ _) (ap_l (wf_at (by decide) rfl))) rfl 6 (by decide) hf48 (fun _ h9 => h9) rfl dX3_make_23 ?_
  refine lv_bipush (v := 6) hx hb dX3_make_26 (by decide) ?_
  refine lv_icmp_ge (tgt := 61) hx hb dX3_make_28 (by decide) (fun c_62 => ?_) (fun c_62 => ?_)
  · refine lv_iconst (v := 0) hx hb dX3_make_61 (by decide) ?_
    refine cX_S (W0 := (cmW y ac (an 0) (ar 0) K ++ (rvW y an V ++ rvW y ar U))) (As := [.int 0]) (rest := []) ⟨hx, hb, hml, hown, hts⟩ (c_X3_checkState l D y _ hst 0) (va_cwS 1 hts gX3_make_X3_checkState rfl rfl rfl (by decide +kernel) ⟨Nat.le_of_ble_eq_true rfl, Nat.le_of_ble_eq_true rfl⟩) hK hN hE hX hP hS hA rfl hl.1 rfl (Nat.le_of_ble_eq_true rfl) dX3_make_62 ⟨Nat.le_of_ble_eq_true rfl, Nat.le_of_ble_eq_true rfl⟩ (fun hc_63 ce q9 H locs hP hS h91 h92 h93 => ?_) (fun hc_63 H locs hP hS => ?_)
    · subst hQ
      exact vx_out (fun x hx9 => (htab x hx9).elim) hlocks h91 h92 h93 (fun t ht hv9 => ⟨(), (by unfold mkC; rw [if_neg hc_59, if_neg hc_60, if_neg hc_61, if_pos c_62]; decide), ⟨(by unfold mkC; rw [if_neg hc_59, if_neg hc_60, if_neg hc_61, if_pos c_62]), by rw [ht]; exact hP⟩, hS.F ht⟩) hS.2.2 (Nat.le_of_ble_eq_true rfl) (Nat.le_of_ble_eq_true rfl)
    exact absurd rfl hc_63
  · refine lv_aload_n hx hb dX3_make_31 rfl (lv_at hl 0 rfl) ?_
    refine va_get (D := D) (ci := 3) (v := .ref (an 0)) (C := RX3) (T := TX3) (N := 4) hx hb hts hin3 hown hK hP 0 (ap_l (wf_at (by decide) rfl)) rfl 2 (by decide) hf19 (fun _ h9 => h9) rfl dX3_make_32 ?_
    have hf45 := hts (.fieldLink RX3 45 "CoracleMakers$River" "stores" "[I") (by decide +kernel)
    refine va_get (D := D) (ci := 2) (v := .ref (an 4)) (C := RX2) (T := TX2) (N := 10) hx hb hts hin2 hown hK hP (3 + 0) (ap_r (wf_len 3 _ _) (ap_l (wf_at (by decide) rfl))) rfl 3 (by decide) hf45 (fun _ h9 => h9) rfl dX3_make_35 ?_
    refine lv_iconst (v := 3) hx hb dX3_make_38 (by decide) ?_
    refine va_iald hx hb hK hP (3 + 4) 0 (ap_r (wf_len 3 _ _) (ap_l (wf_at (by decide) rfl))) rfl (show vp_in (3 : Int32) 4 from vp_in_nI (n := 3) (by decide) (by decide)) dX3_make_39 ?_
    refine W.eq (g2 := F0 m 40 ls (.int (V 4 3) :: [])) rfl ?_
    refine lv_iload_n hx hb dX3_make_40 rfl (lv_at hl 1 rfl) ?_
    refine lv_icmp_lt (tgt := 61) hx hb dX3_make_41 (by decide) (fun c_64 => ?_) (fun c_64 => ?_)
    · refine lv_iconst (v := 0) hx hb dX3_make_61 (by decide) ?_
      refine cX_S (W0 := (cmW y ac (an 0) (ar 0) K ++ (rvW y an V ++ rvW y ar U))) (As := [.int 0]) (rest := []) ⟨hx, hb, hml, hown, hts⟩ (c_X3_checkState l D y _ hst 0) (va_cwS 1 hts gX3_make_X3_checkState rfl rfl rfl (by decide +kernel) ⟨Nat.le_of_ble_eq_true rfl, Nat.le_of_ble_eq_true rfl⟩) hK hN hE hX hP hS hA rfl hl.1 rfl (Nat.le_of_ble_eq_true rfl) dX3_make_62 ⟨Nat.le_of_ble_eq_true rfl, Nat.le_of_ble_eq_true rfl⟩ (fun hc_65 ce q9 H locs hP hS h91 h92 h93 => ?_) (fun hc_65 H locs hP hS => ?_)
      · subst hQ
        exact vx_out (fun x hx9 => (htab x hx9).elim) hlocks h91 h92 h93 (fun t ht hv9 => ⟨(), (by unfold mkC; rw [if_neg hc_59, if_neg hc_60, if_neg hc_61, if_neg c_62, if_pos c_64]; decide), ⟨(by unfold mkC; rw [if_neg hc_59, if_neg hc_60, if_neg hc_61, if_neg c_62, if_pos c_64]), by rw [ht]; exact hP⟩, hS.F ht⟩) hS.2.2 (Nat.le_of_ble_eq_true rfl) (Nat.le_of_ble_eq_true rfl)
      exact absurd rfl hc_65
    · refine lv_aload_n hx hb dX3_make_44 rfl (lv_at hl 0 rfl) ?_
      refine va_get (D := D) (ci := 3) (v := .ref (an 0)) (C := RX3) (T := TX3) (N := 4) hx hb hts hin3 hown hK hP 0 (ap_l (wf_at (by decide) rfl)) rfl 2 (by decide) hf19 (fun _ h9 => h9) rfl dX3_make_45 ?_
      refine va_get (D := D) (ci := 2) (v := .ref (an 4)) (C := RX2) (T := TX2) (N := 10) hx hb hts hin2 hown hK hP (3 + 0) (ap_r (wf_len 3 _ _) (ap_l (wf_at (by decide) rfl))) rfl 3 (by decide) hf45 (fun _ h9 => h9) rfl dX3_make_48 ?_
      refine lv_iload_n hx hb dX3_make_51 rfl (lv_at hl 2 rfl) ?_
      refine va_iald hx hb hK hP (3 + 4) 0 (ap_r (wf_len 3 _ _) (ap_l (wf_at (by decide) rfl))) rfl hxb4 dX3_make_52 ?_
      refine lv_iconst (v := 1) hx hb dX3_make_53 (by decide) ?_
      refine lv_icmp_lt (tgt := 61) hx hb dX3_make_54 (by decide) (fun c_66 => ?_) (fun c_66 => ?_)
      · refine lv_iconst (v := 0) hx hb dX3_make_61 (by decide) ?_
        refine cX_S (W0 := (cmW y ac (an 0) (ar 0) K ++ (rvW y an V ++ rvW y ar U))) (As := [.int 0]) (rest := []) ⟨hx, hb, hml, hown, hts⟩ (c_X3_checkState l D y _ hst 0) (va_cwS 1 hts gX3_make_X3_checkState rfl rfl rfl (by decide +kernel) ⟨Nat.le_of_ble_eq_true rfl, Nat.le_of_ble_eq_true rfl⟩) hK hN hE hX hP hS hA rfl hl.1 rfl (Nat.le_of_ble_eq_true rfl) dX3_make_62 ⟨Nat.le_of_ble_eq_true rfl, Nat.le_of_ble_eq_true rfl⟩ (fun hc_67 ce q9 H locs hP hS h91 h92 h93 => ?_) (fun hc_67 H locs hP hS => ?_)
        · subst hQ
          exact vx_out (fun x hx9 => (htab x hx9).elim) hlocks h91 h92 h93 (fun t ht hv9 => ⟨(), (by unfold mkC; rw [if_neg hc_59, if_neg hc_60, if_neg hc_61, if_neg c_62, if_neg c_64, if_pos c_66]; decide), ⟨(by unfold mkC; rw [if_neg hc_59, if_neg hc_60, if_neg hc_61, if_neg c_62, if_neg c_64, if_pos c_66]), by rw [ht]; exact hP⟩, hS.F ht⟩) hS.2.2 (Nat.le_of_ble_eq_true rfl) (Nat.le_of_ble_eq_true rfl)
        exact absurd rfl hc_67
      · refine lv_iconst (v := 1) hx hb dX3_make_57 (by decide) ?_
        refine lv_goto (tgt := 62) hx hb dX3_make_58 (by decide) ?_
        refine cX_S (W0 := (cmW y ac (an 0) (ar 0) K ++ (rvW y an V ++ rvW y ar U))) (As := [.int 1]) (rest := []) ⟨hx, hb, hml, hown, hts⟩ (c_X3_checkState l D y _ hst 1) (va_cwS 1 hts gX3_make_X3_checkState rfl rfl rfl (by decide +kernel) ⟨Nat.le_of_ble_eq_true rfl, Nat.le_of_ble_eq_true rfl⟩) hK hN hE hX hP hS hA rfl hl.1 rfl (Nat.le_of_ble_eq_true rfl) dX3_make_62 ⟨Nat.le_of_ble_eq_true rfl, Nat.le_of_ble_eq_true rfl⟩ (fun hc_68 ce q9 H locs hP hS h91 h92 h93 => ?_) (fun hc_68 H locs hP hS => ?_)
        · exact absurd hc_68 (by decide)
        refine lv_aload_n hx hb dX3_make_65 rfl (lv_at hl 0 rfl) ?_
        refine va_get (D := D) (ci := 3) (v := .ref (an 0)) (C := RX3) (T := TX3) (N := 4) hx hb hts hin3 hown hK hP 0 (ap_l (wf_at (by decide) rfl)) rfl 2 (by decide) hf19 (fun _ h9 => h9) rfl dX3_make_66 ?_
        refine lv_iload_n hx hb dX3_make_69 rfl (lv_at hl 1 rfl) ?_
        refine lv_iload_n hx hb dX3_make_70 rfl (lv_at hl 2 rfl) ?_
        refine lv_iload_n hx hb dX3_make_71 rfl (lv_at hl 3 rfl) ?_
        refine cWI_V (As := [.int xa, .int xb, .int xc]) (rest := []) ⟨hx, hb, hml, hown, hts⟩ (c_X2_makeCoracle l D y _ an V xa xb xc (in6 hM c_62) hb3) (cwV 3 hts gX3_make_X2_makeCoracle rfl rfl rfl (by decide +kernel) ⟨Nat.le_of_ble_eq_true rfl, Nat.le_of_ble_eq_true rfl⟩) hK hN (P_l (P_r hP)) (by rw [rv_fst]; exact aD_l (aD_r hD)) hS hA (va_recv hK hP (ci := 2) (q0 := (3 + 0)) rfl (ap_r (wf_len 3 _ _) (ap_l (wf_at (by decide) rfl)))) rfl hl.1 rfl (Nat.le_of_ble_eq_true rfl) dX3_make_72 ⟨Nat.le_of_ble_eq_true rfl, Nat.le_of_ble_eq_true rfl⟩ (fun H locs hP9 hk9 hS => ?_)
        have hP : va_P D vwCl (cmW y ac (an 0) (ar 0) K ++ (rvW y an (mkF V xa xb xc) ++ rvW y ar U)) H := fr_w hP (by rw [cm_fst, rv_fst, rv_fst]; exact hD) hk9 hP9
        subst hQ
        refine W.widen (k := 4) (n := 24) (Nat.le_of_ble_eq_true rfl) (Nat.le_of_ble_eq_true rfl) ?_
        exact vx_ret (W.iret (v := V 0 2) hx hb hr (fun t ht hW => ⟨⟨_, U, rfl, ⟨(by unfold mkC; rw [if_neg hc_59, if_neg hc_60, if_neg hc_61, if_neg c_62, if_neg c_64, if_neg c_66]), rfl⟩, bp_at hK hN hP t ht hW⟩, hS.F ht⟩) hS.2.2 dX3_make_75)
def ntC (V : Nat → Nat → Int32) (a b : Int32) : Nat := if ciP a (V 0 2) then 1 else if ciP b (V 0 2) then 1 else if a = b then 2 else if ¬ V (ix a + 5) 9 = -1 then 3 else if ¬ V (ix b + 5) 9 = -1 then 3 else 0
abbrev rmX3_net : Room := { frames := 7, cells := 4, slots := 24, locals := 112 }
set_option maxHeartbeats 4000000 in
set_option maxRecDepth 100000 in
/-- net(xa, xb) -/
theorem c_X3_net (l : Launch) (D : va_G) (y : Nat → ClassId) (sz : Nat) (hst : l.stackTraces = false) (ac an ar : Nat → Nat) (K V U : Nat → Nat → Int32) (xa xb : Int32) (hM : vp_in (V 0 2) 7) (hT : ntC V xa xb = 0 → vp_in (V 0 3) 3) : XI (S := Nat → Nat → Int32) l D y yX3_net wsX3_net rmX3_net 4 24 [.ref (ac 0), .int xa, .int xb] (cmA y ac an ar K V U) sz (ntC V xa xb) (V 0 3) (fun u => cmA y ac an ar K (tiF V xa xb) u) := by
  refine mX (fun A => va_Qi (fun r9 (_ : Nat → Nat → Int32) => (ntC V xa xb) = 0 ∧ r9 = (V 0 3)) (fun u t9 => Bp D y (cmA y ac an ar K (tiF V xa xb) u) t9) A) (fun A => vx_X (fun (_ : Unit) => ¬ (ntC V xa xb) = 0) (fun E _ t9 => E = xnm (ntC V xa xb) ∧ va_P D vwCl (cmA y ac an ar K V U) t9.heap) A) (C := RX3) (cc := cX3_net) (maxL := 3) (ret := (some .int)) (by decide) rfl rfl (Nat.le_of_ble_eq_true rfl) ?_
  intro p e s m a below meth c ls A Q hQ hsz hx hb hr hts hown hlocks htab hml hP hK hN hE hX hD hA hS hl
  rw [cmA_fst] at hD
  have hl : lv_has ls 3 [(0, .ref (ac 0)), (1, .int xa), (2, .int xb)] := hl
  refine lv_iload_n hx hb dX3_net_0 rfl (lv_at hl 1 rfl) ?_
  refine lv_aload_n hx hb dX3_net_1 rfl (lv_at hl 0 rfl) ?_
  have hin3 : ∀ w ∈ u_ws RX3 TX3 4, w ∈ wsX3_net := by decide +kernel
  have hf19 := hts (.fieldLink RX3 19 "CoracleMakers" "now" "LCoracleMakers$River;") (by decide +kernel)
  refine va_get (D := D) (ci := 3) (v := .ref (an 0)) (C := RX3) (T := TX3) (N := 4) hx hb hts hin3 hown hK hP 0 (ap_l (wf_at (by decide) rfl)) rfl 2 (by decide) hf19 (fun _ h9 => h9) rfl dX3_net_2 ?_
  have hin2 : ∀ w ∈ u_ws RX2 TX2 10, w ∈ wsX3_net := by decide +kernel
  have hf48 := hts (.fieldLink RX3 48 "CoracleMakers$River" "made" "I") (by decide +kernel)
  refine va_get (D := D) (ci := 2) (v := .int (V 0 2)) (C := RX2) (T := TX2) (N := 10) hx hb hts hin2 hown hK hP (3 + 0) (ap_r (wf_len 3 _ _) (ap_l (wf_at (by decide) rfl))) rfl 6 (by decide) hf48 (fun _ h9 => h9) rfl dX3_net_5 ?_
  refine cX_S (W0 := (cmW y ac (an 0) (ar 0) K ++ (rvW y an V ++ rvW y ar U))) (As := [.int xa, .int (V 0 2)]) (rest := []) ⟨hx, hb, hml, hown, hts⟩ (c_X3_checkIndex l D y _ hst xa (V 0 2)) (va_cwS 2 hts gX3_net_X3_checkIndex rfl rfl rfl (by decide +kernel) ⟨Nat.le_of_ble_eq_true rfl, Nat.le_of_ble_eq_true rfl⟩) hK hN hE hX hP hS hA rfl hl.1 rfl (Nat.le_of_ble_eq_true rfl) dX3_net_8 ⟨Nat.le_of_ble_eq_true rfl, Nat.le_of_ble_eq_true rfl⟩ (fun hc_69 ce q9 H locs hP hS h91 h92 h93 => ?_) (fun hc_69 H locs hP hS => ?_)
  · subst hQ
    exact vx_out (fun x hx9 => (htab x hx9).elim) hlocks h91 h92 h93 (fun t ht hv9 => ⟨(), (by unfold ntC; rw [if_pos hc_69]; decide), ⟨(by unfold ntC; rw [if_pos hc_69]), by rw [ht]; exact hP⟩, hS.F ht⟩) hS.2.2 (Nat.le_of_ble_eq_true rfl) (Nat.le_of_ble_eq_true rfl)
  refine lv_iload_n hx hb dX3_net_11 rfl (lv_at hl 2 rfl) ?_
  refine lv_aload_n hx hb dX3_net_12 rfl (lv_at hl 0 rfl) ?_
  refine va_get (D := D) (ci := 3) (v := .ref (an 0)) (C := RX3) (T := TX3) (N := 4) hx hb hts hin3 hown hK hP 0 (ap_l (wf_at (by decide) rfl)) rfl 2 (by decide) hf19 (fun _ h9 => h9) rfl dX3_net_13 ?_
  refine va_get (D := D) (ci := 2) (v := .int (V 0 2)) (C := RX2) (T := TX2) (N := 10) hx hb hts hin2 hown hK hP (3 + 0) (ap_r (wf_len 3 _ _) (ap_l (wf_at (by decide) rfl))) rfl 6 (by decide) hf48 (fun _ h9 => h9) rfl dX3_net_16 ?_
  refine cX_S (W0 := (cmW y ac (an 0) (ar 0) K ++ (rvW y an V ++ rvW y ar U))) (As := [.int xb, .int (V 0 2)]) (rest := []) ⟨hx, hb, hml, hown, hts⟩ (c_X3_checkIndex l D y _ hst xb (V 0 2)) (va_cwS 2 hts gX3_net_X3_checkIndex rfl rfl rfl (by decide +kernel) ⟨Nat.le_of_ble_eq_true rfl, Nat.le_of_ble_eq_true rfl⟩) hK hN hE hX hP hS hA rfl hl.1 rfl (Nat.le_of_ble_eq_true rfl) dX3_net_19 ⟨Nat.le_of_ble_eq_true rfl, Nat.le_of_ble_eq_true rfl⟩ (fun hc_70 ce q9 H locs hP hS h91 h92 h93 => ?_) (fun hc_70 H locs hP hS => ?_)
  · subst hQ
    exact vx_out (fun x hx9 => (htab x hx9).elim) hlocks h91 h92 h93 (fun t ht hv9 => ⟨(), (by unfold ntC; rw [if_neg hc_69, if_pos hc_70]; decide), ⟨(by unfold ntC; rw [if_neg hc_69, if_pos hc_70]), by rw [ht]; exact hP⟩, hS.F ht⟩) hS.2.2 (Nat.le_of_ble_eq_true rfl) (Nat.le_of_ble_eq_true rfl)
  have ha6 : vp_in xa 6 := nci hc_69 hM
  have hb6 : vp_in xb 6 := nci hc_70 hM
  refine lv_iload_n hx hb dX3_net_22 rfl (lv_at hl 1 rfl) ?_
  refine lv_iload_n hx hb dX3_net_23 rfl (lv_at hl 2 rfl) ?_
  refine lv_icmp_ne (tgt := 35) hx hb dX3_net_24 (by decide) (fun c_71 => ?_) (fun c_71 => ?_)
  · refine lv_aload_n hx hb dX3_net_35 rfl (lv_at hl 0 rfl) ?_
    refine va_get (D := D) (ci := 3) (v := .ref (an 0)) (C := RX3) (T := TX3) (N := 4) hx hb hts hin3 hown hK hP 0 (ap_l (wf_at (by decide) rfl)) rfl 2 (by decide) hf19 (fun _ h9 => h9) rfl dX3_net_36 ?_
    refine lv_iload_n hx hb dX3_net_39 rfl (lv_at hl 1 rfl) ?_
    refine cRR_V (As := [.int xa]) (rest := []) ⟨hx, hb, hml, hown, hts⟩ (c_X2_coracleOf l D y an V xa ha6) (cwV 1 hts gX3_net_X2_coracleOf rfl rfl rfl (by decide +kernel) ⟨Nat.le_of_ble_eq_true rfl, Nat.le_of_ble_eq_true rfl⟩) hK hN (P_l (P_r hP)) (va_recv hK hP (ci := 2) (q0 := (3 + 0)) rfl (ap_r (wf_len 3 _ _) (ap_l (wf_at (by decide) rfl)))) rfl hl.1 rfl (Nat.le_of_ble_eq_true rfl) dX3_net_40 ⟨Nat.le_of_ble_eq_true rfl, Nat.le_of_ble_eq_true rfl⟩ ?_
    have hin0 : ∀ w ∈ u_ws RX0 TX0 10, w ∈ wsX3_net := by decide +kernel
    have hf62 := hts (.fieldLink RX3 62 "CoracleMakers$Coracle" "partner" "I") (by decide +kernel)
    refine va_get (D := D) (ci := 0) (v := .int (V (ix xa + 5) 9)) (C := RX0) (T := TX0) (N := 10) hx hb hts hin0 hown hK hP (3 + (ix xa + 5)) (ap_r (wf_len 3 _ _) (ap_l (rv_co y an V (in_ix ha6)))) rfl 9 (by decide) hf62 (fun _ h9 => h9) rfl dX3_net_43 ?_
    refine lv_iconst (v := (-1)) hx hb dX3_net_46 (by decide) ?_
    refine lv_icmp_ne (tgt := 69) hx hb dX3_net_47 (by decide) (fun c_72 => ?_) (fun c_72 => ?_)
    · refine lv_iconst (v := 0) hx hb dX3_net_69 (by decide) ?_
      refine cX_S (W0 := (cmW y ac (an 0) (ar 0) K ++ (rvW y an V ++ rvW y ar U))) (As := [.int 0]) (rest := []) ⟨hx, hb, hml, hown, hts⟩ (c_X3_checkState l D y _ hst 0) (va_cwS 1 hts gX3_net_X3_checkState rfl rfl rfl (by decide +kernel) ⟨Nat.le_of_ble_eq_true rfl, Nat.le_of_ble_eq_true rfl⟩) hK hN hE hX hP hS hA rfl hl.1 rfl (Nat.le_of_ble_eq_true rfl) dX3_net_70 ⟨Nat.le_of_ble_eq_true rfl, Nat.le_of_ble_eq_true rfl⟩ (fun hc_73 ce q9 H locs hP hS h91 h92 h93 => ?_) (fun hc_73 H locs hP hS => ?_)
      · subst hQ
        exact vx_out (fun x hx9 => (htab x hx9).elim) hlocks h91 h92 h93 (fun t ht hv9 => ⟨(), (by unfold ntC; rw [if_neg hc_69, if_neg hc_70, if_neg c_71, if_pos c_72]; decide), ⟨(by unfold ntC; rw [if_neg hc_69, if_neg hc_70, if_neg c_71, if_pos c_72]), by rw [ht]; exact hP⟩, hS.F ht⟩) hS.2.2 (Nat.le_of_ble_eq_true rfl) (Nat.le_of_ble_eq_true rfl)
      exact absurd rfl hc_73
    · refine lv_aload_n hx hb dX3_net_50 rfl (lv_at hl 0 rfl) ?_
      refine va_get (D := D) (ci := 3) (v := .ref (an 0)) (C := RX3) (T := TX3) (N := 4) hx hb hts hin3 hown hK hP 0 (ap_l (wf_at (by decide) rfl)) rfl 2 (by decide) hf19 (fun _ h9 => h9) rfl dX3_net_51 ?_
      refine lv_iload_n hx hb dX3_net_54 rfl (lv_at hl 2 rfl) ?_
      refine cRR_V (As := [.int xb]) (rest := []) ⟨hx, hb, hml, hown, hts⟩ (c_X2_coracleOf l D y an V xb hb6) (cwV 1 hts gX3_net_X2_coracleOf rfl rfl rfl (by decide +kernel) ⟨Nat.le_of_ble_eq_true rfl, Nat.le_of_ble_eq_true rfl⟩) hK hN (P_l (P_r hP)) (va_recv hK hP (ci := 2) (q0 := (3 + 0)) rfl (ap_r (wf_len 3 _ _) (ap_l (wf_at (by decide) rfl)))) rfl hl.1 rfl (Nat.le_of_ble_eq_true rfl) dX3_net_55 ⟨Nat.le_of_ble_eq_true rfl, Nat.le_of_ble_eq_true rfl⟩ ?_
      refine va_get (D := D) (ci := 0) (v := .int (V (ix xb + 5) 9)) (C := RX0) (T := TX0) (N := 10) hx hb hts hin0 hown hK hP (3 + (ix xb + 5)) (ap_r (wf_len 3 _ _) (ap_l (rv_co y an V (in_ix hb6)))) rfl 9 (by decide) hf62 (fun _ h9 => h9) rfl dX3_net_58 ?_
      refine lv_iconst (v := (-1)) hx hb dX3_net_61 (by decide) ?_
      refine lv_icmp_ne (tgt := 69) hx hb dX3_net_62 (by decide) (fun c_74 => ?_) (fun c_74 => ?_)
      · refine lv_iconst (v := 0) hx hb dX3_net_69 (by decide) ?_
        refine cX_S (W0 := (cmW y ac (an 0) (ar 0) K ++ (rvW y an V ++ rvW y ar U))) (As := [.int 0]) (rest := []) ⟨hx, hb, hml, hown, hts⟩ (c_X3_checkState l D y _ hst 0) (va_cwS 1 hts gX3_net_X3_checkState rfl rfl rfl (by decide +kernel) ⟨Nat.le_of_ble_eq_true rfl, Nat.le_of_ble_eq_true rfl⟩) hK hN hE hX hP hS hA rfl hl.1 rfl (Nat.le_of_ble_eq_true rfl) dX3_net_70 ⟨Nat.le_of_ble_eq_true rfl, Nat.le_of_ble_eq_true rfl⟩ (fun hc_75 ce q9 H locs hP hS h91 h92 h93 => ?_) (fun hc_75 H locs hP hS => ?_)
        · subst hQ
          exact vx_out (fun x hx9 => (htab x hx9).elim) hlocks h91 h92 h93 (fun t ht hv9 => ⟨(), (by unfold ntC; rw [if_neg hc_69, if_neg hc_70, if_neg c_71, if_neg (not_not_intro c_72), if_pos c_74]; decide), ⟨(by unfold ntC; rw [if_neg hc_69, if_neg hc_70, if_neg c_71, if_neg (not_not_intro c_72), if_pos c_74]), by rw [ht]; exact hP⟩, hS.F ht⟩) hS.2.2 (Nat.le_of_ble_eq_true rfl) (Nat.le_of_ble_eq_true rfl)
        exact absurd rfl hc_75
      · refine lv_iconst (v := 1) hx hb dX3_net_65 (by decide) ?_
        refine lv_goto (tgt := 70) hx hb dX3_net_66 (by decide) ?_
        refine cX_S (W0 := (cmW y ac (an 0) (ar 0) K ++ (rvW y an V ++ rvW y ar U))) (As := [.int 1]) (rest := []) ⟨hx, hb, hml, hown, hts⟩ (c_X3_checkState l D y _ hst 1) (va_cwS 1 hts gX3_net_X3_checkState rfl rfl rfl (by decide +kernel) ⟨Nat.le_of_ble_eq_true rfl, Nat.le_of_ble_eq_true rfl⟩) hK hN hE hX hP hS hA rfl hl.1 rfl (Nat.le_of_ble_eq_true rfl) dX3_net_70 ⟨Nat.le_of_ble_eq_true rfl, Nat.le_of_ble_eq_true rfl⟩ (fun hc_76 ce q9 H locs hP hS h91 h92 h93 => ?_) (fun hc_76 H locs hP hS => ?_)
        · exact absurd hc_76 (by decide)
        refine lv_aload_n hx hb dX3_net_73 rfl (lv_at hl 0 rfl) ?_
        refine va_get (D := D) (ci := 3) (v := .ref (an 0)) (C := RX3) (T := TX3) (N := 4) hx hb hts hin3 hown hK hP 0 (ap_l (wf_at (by decide) rfl)) rfl 2 (by decide) hf19 (fun _ h9 => h9) rfl dX3_net_74 ?_
        refine lv_iload_n hx hb dX3_net_77 rfl (lv_at hl 1 rfl) ?_
        refine lv_iload_n hx hb dX3_net_78 rfl (lv_at hl 2 rfl) ?_
        have hT3 : vp_in (V 0 3) 3 := hT (by unfold ntC; rw [if_neg hc_69, if_neg hc_70, if_neg c_71, if_neg (not_not_intro c_72), if_neg (not_not_intro c_74)])
        refine cWI_V (As := [.int xa, .int xb]) (rest := []) ⟨hx, hb, hml, hown, hts⟩ (c_X2_tieNet l D y _ an V xa xb hT3 ha6 hb6) (cwV 2 hts gX3_net_X2_tieNet rfl rfl rfl (by decide +kernel) ⟨Nat.le_of_ble_eq_true rfl, Nat.le_of_ble_eq_true rfl⟩) hK hN (P_l (P_r hP)) (by rw [rv_fst]; exact aD_l (aD_r hD)) hS hA (va_recv hK hP (ci := 2) (q0 := (3 + 0)) rfl (ap_r (wf_len 3 _ _) (ap_l (wf_at (by decide) rfl)))) rfl hl.1 rfl (Nat.le_of_ble_eq_true rfl) dX3_net_79 ⟨Nat.le_of_ble_eq_true rfl, Nat.le_of_ble_eq_true rfl⟩ (fun H locs hP9 hk9 hS => ?_)
        have hP : va_P D vwCl (cmW y ac (an 0) (ar 0) K ++ (rvW y an (tiF V xa xb) ++ rvW y ar U)) H := fr_w hP (by rw [cm_fst, rv_fst, rv_fst]; exact hD) hk9 hP9
        subst hQ
        refine W.widen (k := 4) (n := 24) (Nat.le_of_ble_eq_true rfl) (Nat.le_of_ble_eq_true rfl) ?_
        exact vx_ret (W.iret (v := V 0 3) hx hb hr (fun t ht hW => ⟨⟨_, U, rfl, ⟨(by unfold ntC; rw [if_neg hc_69, if_neg hc_70, if_neg c_71, if_neg (not_not_intro c_72), if_neg (not_not_intro c_74)]), rfl⟩, bp_at hK hN hP t ht hW⟩, hS.F ht⟩) hS.2.2 dX3_net_82)
  · have hg9 : ∀ w ∈ (vx_at0 RX3 57 "java/lang/IllegalArgumentException" ["java/lang/RuntimeException", "java/lang/Exception"]).filter goodWord, w ∈ wsX3_net := by decide +kernel
    have hB9 : ∀ w ∈ [Cond.declares (Bundle.init0 "java/lang/RuntimeException"), Cond.declares (Bundle.init0 "java/lang/Exception"), Cond.declares (Bundle.init0 "java/lang/Throwable"), Cond.castable "java/lang/IllegalArgumentException" "java/lang/IllegalArgumentException"], w.before a s = true := vx_c (va_Nw.use rfl (hE.1 _ (List.mem_of_getElem? (i := 0) rfl))) (vx_c (va_Nw.use rfl (hE.1 _ (List.mem_of_getElem? (i := 1) rfl))) (vx_c (va_Nw.use rfl (hE.1 _ (List.mem_of_getElem? (i := 2) rfl))) (vx_c (va_Nw.use rfl (hE.2.1 _ (List.mem_of_getElem? (i := 1) rfl))) vx_n)))
    subst hQ
    exact vx_throw0 (names := ["java/lang/RuntimeException", "java/lang/Exception"]) hx hb hst hown (by decide) (by decide) (hts (.classLink RX3 55 "java/lang/IllegalArgumentException") (by decide +kernel)) (hts (.initialized "java/lang/IllegalArgumentException") (by decide +kernel)) (vx_hat (fun w h => hts w (hg9 w h)) (by decide +kernel) hB9) (by decide +kernel) hX.1.1 hX.1.2 hS (hl.1.trans hml.symm) dX3_net_27 dX3_net_30 dX3_net_31 dX3_net_34 (fun x hx9 => (htab x hx9).elim) (by decide) (by decide) (Nat.le_of_ble_eq_true rfl) (Nat.le_of_ble_eq_true rfl) hlocks (fun t hv9 h91 h92 => ⟨(), (by unfold ntC; rw [if_neg hc_69, if_neg hc_70, if_pos c_71]; decide), ⟨(by unfold ntC; rw [if_neg hc_69, if_neg hc_70, if_pos c_71]; rfl), P_kept2 hP h92⟩, F_of hS h91 h92⟩) hS.2.2 (Nat.le_of_ble_eq_true rfl) (Nat.le_of_ble_eq_true rfl)
def seC (V : Nat → Nat → Int32) (c g : Int32) : Nat := if ciP c (V 0 2) then 1 else if ciP g 16 then 1 else 0
abbrev rmX3_send : Room := { frames := 7, cells := 2, slots := 12, locals := 112 }
set_option maxHeartbeats 4000000 in
set_option maxRecDepth 100000 in
/-- send(xa, g) -/
theorem c_X3_send (l : Launch) (D : va_G) (y : Nat → ClassId) (sz : Nat) (hst : l.stackTraces = false) (ac an ar : Nat → Nat) (K V U : Nat → Nat → Int32) (xa g : Int32) (hM : vp_in (V 0 2) 7) : XI (S := Nat → Nat → Int32) l D y yX3_send wsX3_send rmX3_send 2 12 [.ref (ac 0), .int xa, .int g] (cmA y ac an ar K V U) sz (seC V xa g) (V (ix xa + 5) 4) (fun u => cmA y ac an ar K (vU V (ix xa + 5) 4 g) u) := by
  refine mX (fun A => va_Qi (fun r9 (_ : Nat → Nat → Int32) => (seC V xa g) = 0 ∧ r9 = (V (ix xa + 5) 4)) (fun u t9 => Bp D y (cmA y ac an ar K (vU V (ix xa + 5) 4 g) u) t9) A) (fun A => vx_X (fun (_ : Unit) => ¬ (seC V xa g) = 0) (fun E _ t9 => E = xnm (seC V xa g) ∧ va_P D vwCl (cmA y ac an ar K V U) t9.heap) A) (C := RX3) (cc := cX3_send) (maxL := 5) (ret := (some .int)) (by decide) rfl rfl (Nat.le_of_ble_eq_true rfl) ?_
  intro p e s m a below meth c ls A Q hQ hsz hx hb hr hts hown hlocks htab hml hP hK hN hE hX hD hA hS hl
  rw [cmA_fst] at hD
  have hl : lv_has ls 5 [(0, .ref (ac 0)), (1, .int xa), (2, .int g)] := hl
  refine lv_iload_n hx hb dX3_send_0 rfl (lv_at hl 1 rfl) ?_
  refine lv_aload_n hx hb dX3_send_1 rfl (lv_at hl 0 rfl) ?_
  have hin3 : ∀ w ∈ u_ws RX3 TX3 4, w ∈ wsX3_send := by decide +kernel
  have hf19 := hts (.fieldLink RX3 19 "CoracleMakers" "now" "LCoracleMakers$River;") (by decide +kernel)
  refine va_get (D := D) (ci := 3) (v := .ref (an 0)) (C := RX3) (T := TX3) (N := 4) hx hb hts hin3 hown hK hP 0 (ap_l (wf_at (by decide) rfl)) rfl 2 (by decide) hf19 (fun _ h9 => h9) rfl dX3_send_2 ?_
  have hin2 : ∀ w ∈ u_ws RX2 TX2 10, w ∈ wsX3_send := by decide +kernel
  have hf48 := hts (.fieldLink RX3 48 "CoracleMakers$River" "made" "I") (by decide +kernel)
  refine va_get (D := D) (ci := 2) (v := .int (V 0 2)) (C := RX2) (T := TX2) (N := 10) hx hb hts hin2 hown hK hP (3 + 0) (ap_r (wf_len 3 _ _) (ap_l (wf_at (by decide) rfl))) rfl 6 (by decide) hf48 (fun _ h9 => h9) rfl dX3_send_5 ?_
  refine cX_S (W0 := (cmW y ac (an 0) (ar 0) K ++ (rvW y an V ++ rvW y ar U))) (As := [.int xa, .int (V 0 2)]) (rest := []) ⟨hx, hb, hml, hown, hts⟩ (c_X3_checkIndex l D y _ hst xa (V 0 2)) (va_cwS 2 hts gX3_send_X3_checkIndex rfl rfl rfl (by decide +kernel) ⟨Nat.le_of_ble_eq_true rfl, Nat.le_of_ble_eq_true rfl⟩) hK hN hE hX hP hS hA rfl hl.1 rfl (Nat.le_of_ble_eq_true rfl) dX3_send_8 ⟨Nat.le_of_ble_eq_true rfl, Nat.le_of_ble_eq_true rfl⟩ (fun hc_77 ce q9 H locs hP hS h91 h92 h93 => ?_) (fun hc_77 H locs hP hS => ?_)
  · subst hQ
    exact vx_out (fun x hx9 => (htab x hx9).elim) hlocks h91 h92 h93 (fun t ht hv9 => ⟨(), (by unfold seC; rw [if_pos hc_77]; decide), ⟨(by unfold seC; rw [if_pos hc_77]), by rw [ht]; exact hP⟩, hS.F ht⟩) hS.2.2 (Nat.le_of_ble_eq_true rfl) (Nat.le_of_ble_eq_true rfl)
  refine lv_iload_n hx hb dX3_send_11 rfl (lv_at hl 2 rfl) ?_
  refine lv_bipush (v := 16) hx hb dX3_send_12 (by decide) ?_
  refine cX_S (W0 := (cmW y ac (an 0) (ar 0) K ++ (rvW y an V ++ rvW y ar U))) (As := [.int g, .int 16]) (rest := []) ⟨hx, hb, hml, hown, hts⟩ (c_X3_checkIndex l D y _ hst g 16) (va_cwS 2 hts gX3_send_X3_checkIndex rfl rfl rfl (by decide +kernel) ⟨Nat.le_of_ble_eq_true rfl, Nat.le_of_ble_eq_true rfl⟩) hK hN hE hX hP hS hA rfl hl.1 rfl (Nat.le_of_ble_eq_true rfl) dX3_send_14 ⟨Nat.le_of_ble_eq_true rfl, Nat.le_of_ble_eq_true rfl⟩ (fun hc_78 ce q9 H locs hP hS h91 h92 h93 => ?_) (fun hc_78 H locs hP hS => ?_)
  · subst hQ
    exact vx_out (fun x hx9 => (htab x hx9).elim) hlocks h91 h92 h93 (fun t ht hv9 => ⟨(), (by unfold seC; rw [if_neg hc_77, if_pos hc_78]; decide), ⟨(by unfold seC; rw [if_neg hc_77, if_pos hc_78]), by rw [ht]; exact hP⟩, hS.F ht⟩) hS.2.2 (Nat.le_of_ble_eq_true rfl) (Nat.le_of_ble_eq_true rfl)
  have ha6 : vp_in xa 6 := nci hc_77 hM
  refine lv_aload_n hx hb dX3_send_17 rfl (lv_at hl 0 rfl) ?_
  refine va_get (D := D) (ci := 3) (v := .ref (an 0)) (C := RX3) (T := TX3) (N := 4) hx hb hts hin3 hown hK hP 0 (ap_l (wf_at (by decide) rfl)) rfl 2 (by decide) hf19 (fun _ h9 => h9) rfl dX3_send_18 ?_
  refine lv_iload_n hx hb dX3_send_21 rfl (lv_at hl 1 rfl) ?_
  refine cRR_V (As := [.int xa]) (rest := []) ⟨hx, hb, hml, hown, hts⟩ (c_X2_coracleOf l D y an V xa ha6) (cwV 1 hts gX3_send_X2_coracleOf rfl rfl rfl (by decide +kernel) ⟨Nat.le_of_ble_eq_true rfl, Nat.le_of_ble_eq_true rfl⟩) hK hN (P_l (P_r hP)) (va_recv hK hP (ci := 2) (q0 := (3 + 0)) rfl (ap_r (wf_len 3 _ _) (ap_l (wf_at (by decide) rfl)))) rfl hl.1 rfl (Nat.le_of_ble_eq_true rfl) dX3_send_22 ⟨Nat.le_of_ble_eq_true rfl, Nat.le_of_ble_eq_true rfl⟩ ?_
  refine lv_astore_n (lv' := [(3, .ref (an (ix xa + 5))), (0, .ref (ac 0)), (1, .int xa), (2, .int g)]) hx hb dX3_send_25 rfl hl (by decide) rfl (fun ls hl => ?_)
  refine lv_aload_n hx hb dX3_send_26 rfl (lv_at hl 0 rfl) ?_
  have hin0 : ∀ w ∈ u_ws RX0 TX0 10, w ∈ wsX3_send := by decide +kernel
  have hf71 := hts (.fieldLink RX3 71 "CoracleMakers$Coracle" "goal" "I") (by decide +kernel)
  refine va_get (D := D) (ci := 0) (v := .int (V (ix xa + 5) 4)) (C := RX0) (T := TX0) (N := 10) hx hb hts hin0 hown hK hP (3 + (ix xa + 5)) (ap_r (wf_len 3 _ _) (ap_l (rv_co y an V (in_ix ha6)))) rfl 4 (by decide) hf71 (fun _ h9 => h9) rfl dX3_send_27 ?_
  refine lv_istore (lv' := [(4, .int (V (ix xa + 5) 4)), (3, .ref (an (ix xa + 5))), (0, .ref (ac 0)), (1, .int xa), (2, .int g)]) hx hb dX3_send_30 hl (by decide) rfl (fun ls hl => ?_)
  refine lv_aload_n hx hb dX3_send_32 rfl (lv_at hl 1 rfl) ?_
  refine lv_iload_n hx hb dX3_send_33 rfl (lv_at hl 4 rfl) ?_
  obtain ⟨V34, hV34⟩ : ∃ z, z = va_up V (ix xa + 5) (upd (V (ix xa + 5)) 4 g) := ⟨_, rfl⟩
  refine va_put (D := D) (ci := 0) (v := .int g) (ty := .int) (C := RX0) (T := TX0) (N := 10) hx hb hts hin0 tyX0 tyX0_ok nmX0 hown hK hP (aD_D hD (show List.map Prod.fst (cmW y ac (an 0) (ar 0) K ++ (rvW y an V ++ rvW y ar U)) = _ from by rw [List.map_append, List.map_append, cm_fst y ac _ _ _, rv_fst y an _, rv_fst y ar _])) hS (3 + (ix xa + 5)) (ap_r (wf_len 3 _ _) (ap_l (rv_co y an V (in_ix ha6)))) rfl 4 (by decide) hf71 (fun _ h9 => h9) rfl (by decide +kernel) rfl rfl (Nat.le_of_ble_eq_true rfl) dX3_send_34 (fun H locs hP _ hS => ?_)
  have hP : va_P D vwCl (cmW y ac (an 0) (ar 0) K ++ (rvW y an V34 ++ rvW y ar U)) H := (by rw [hV34]; exact P_eq (ap_set_r (wf_len 3 _ _) (ap_set_l (show (ix xa + 5) < (wf _ _ _).length by rw [wf_len]; have h9 := (in_ix ha6); omega) (rv_setC (upd (V (ix xa + 5)) 4 g) (in_ix ha6)))) hP)
  refine lv_iload hx hb dX3_send_37 (lv_at hl 0 rfl) ?_
  have hP : va_P D vwCl (cmA y ac an ar K (vU V (ix xa + 5) 4 g) U) H := (by subst hV34; exact hP)
  subst hQ
  refine W.widen (k := 2) (n := 12) (Nat.le_of_ble_eq_true rfl) (Nat.le_of_ble_eq_true rfl) ?_
  exact vx_ret (W.iret (v := V (ix xa + 5) 4) hx hb hr (fun t ht hW => ⟨⟨_, U, rfl, ⟨(by unfold seC; rw [if_neg hc_77, if_neg hc_78]), rfl⟩, bp_at hK hN hP t ht hW⟩, hS.F ht⟩) hS.2.2 dX3_send_39)
def taC (V : Nat → Nat → Int32) (c : Int32) : Nat := if ciP c (V 0 2) then 1 else if atF (V (ix c + 5)) 0 = 0 then 3 else if V 0 1 < 3 then 3 else 0
def taV (V : Nat → Nat → Int32) (k : Nat) : Nat → Nat → Int32 := vU (vU (vU V 0 1 (V 0 1 - 3)) (k + 5) 5 30) (k + 5) 6 0
def laC (V : Nat → Nat → Int32) (c : Int32) : Nat := if ciP c (V 0 2) then 1 else if atF (V (ix c + 5)) 0 = 0 then 3 else 0
def laV (V : Nat → Nat → Int32) (k : Nat) : Nat → Nat → Int32 :=
  let V1 := vU V 0 1 (V 0 1 + 2 * V (k + 5) 7)
  let V2 := vU V1 0 4 (V1 0 4 + V1 (k + 5) 7)
  vU V2 (k + 5) 7 0
abbrev rmX3_tar : Room := { frames := 7, cells := 2, slots := 12, locals := 112 }
set_option maxHeartbeats 4000000 in
set_option maxRecDepth 100000 in
/-- tar(xa) -/
theorem c_X3_tar (l : Launch) (D : va_G) (y : Nat → ClassId) (sz : Nat) (hst : l.stackTraces = false) (ac an ar : Nat → Nat) (K V U : Nat → Nat → Int32) (xa : Int32) (hM : vp_in (V 0 2) 7) : XI (S := Nat → Nat → Int32) l D y yX3_tar wsX3_tar rmX3_tar 2 12 [.ref (ac 0), .int xa] (cmA y ac an ar K V U) sz (taC V xa) (V (ix xa + 5) 6) (fun u => cmA y ac an ar K (taV V (ix xa)) u) := by
  refine mX (fun A => va_Qi (fun r9 (_ : Nat → Nat → Int32) => (taC V xa) = 0 ∧ r9 = (V (ix xa + 5) 6)) (fun u t9 => Bp D y (cmA y ac an ar K (taV V (ix xa)) u) t9) A) (fun A => vx_X (fun (_ : Unit) => ¬ (taC V xa) = 0) (fun E _ t9 => E = xnm (taC V xa) ∧ va_P D vwCl (cmA y ac an ar K V U) t9.heap) A) (C := RX3) (cc := cX3_tar) (maxL := 4) (ret := (some .int)) (by decide) rfl rfl (Nat.le_of_ble_eq_true rfl) ?_
  intro p e s m a below meth c ls A Q hQ hsz hx hb hr hts hown hlocks htab hml hP hK hN hE hX hD hA hS hl
  rw [cmA_fst] at hD
  have hl : lv_has ls 4 [(0, .ref (ac 0)), (1, .int xa)] := hl
  refine lv_iload_n hx hb dX3_tar_0 rfl (lv_at hl 1 rfl) ?_
  refine lv_aload_n hx hb dX3_tar_1 rfl (lv_at hl 0 rfl) ?_
  have hin3 : ∀ w ∈ u_ws RX3 TX3 4, w ∈ wsX3_tar := by decide +kernel
  have hf19 := hts (.fieldLink RX3 19 "CoracleMakers" "now" "LCoracleMakers$River;") (by decide +kernel)
  refine va_get (D := D) (ci := 3) (v := .ref (an 0)) (C := RX3) (T := TX3) (N := 4) hx hb hts hin3 hown hK hP 0 (ap_l (wf_at (by decide) rfl)) rfl 2 (by decide) hf19 (fun _ h9 => h9) rfl dX3_tar_2 ?_
  have hin2 : ∀ w ∈ u_ws RX2 TX2 10, w ∈ wsX3_tar := by decide +kernel
  have hf48 := hts (.fieldLink RX3 48 "CoracleMakers$River" "made" "I") (by decide +kernel)
  refine va_get (D := D) (ci := 2) (v := .int (V 0 2)) (C := RX2) (T := TX2) (N := 10) hx hb hts hin2 hown hK hP (3 + 0) (ap_r (wf_len 3 _ _) (ap_l (wf_at (by decide) rfl))) rfl 6 (by decide) hf48 (fun _ h9 => h9) rfl dX3_tar_5 ?_
  refine cX_S (W0 := (cmW y ac (an 0) (ar 0) K ++ (rvW y an V ++ rvW y ar U))) (As := [.int xa, .int (V 0 2)]) (rest := []) ⟨hx, hb, hml, hown, hts⟩ (c_X3_checkIndex l D y _ hst xa (V 0 2)) (va_cwS 2 hts gX3_tar_X3_checkIndex rfl rfl rfl (by decide +kernel) ⟨Nat.le_of_ble_eq_true rfl, Nat.le_of_ble_eq_true rfl⟩) hK hN hE hX hP hS hA rfl hl.1 rfl (Nat.le_of_ble_eq_true rfl) dX3_tar_8 ⟨Nat.le_of_ble_eq_true rfl, Nat.le_of_ble_eq_true rfl⟩ (fun hc_79 ce q9 H locs hP hS h91 h92 h93 => ?_) (fun hc_79 H locs hP hS => ?_)
  · subst hQ
    exact vx_out (fun x hx9 => (htab x hx9).elim) hlocks h91 h92 h93 (fun t ht hv9 => ⟨(), (by unfold taC; rw [if_pos hc_79]; decide), ⟨(by unfold taC; rw [if_pos hc_79]), by rw [ht]; exact hP⟩, hS.F ht⟩) hS.2.2 (Nat.le_of_ble_eq_true rfl) (Nat.le_of_ble_eq_true rfl)
  have ha6 : vp_in xa 6 := nci hc_79 hM
  refine lv_aload_n hx hb dX3_tar_11 rfl (lv_at hl 0 rfl) ?_
  refine va_get (D := D) (ci := 3) (v := .ref (an 0)) (C := RX3) (T := TX3) (N := 4) hx hb hts hin3 hown hK hP 0 (ap_l (wf_at (by decide) rfl)) rfl 2 (by decide) hf19 (fun _ h9 => h9) rfl dX3_tar_12 ?_
  refine lv_iload_n hx hb dX3_tar_15 rfl (lv_at hl 1 rfl) ?_
  refine cRR_V (As := [.int xa]) (rest := []) ⟨hx, hb, hml, hown, hts⟩ (c_X2_coracleOf l D y an V xa ha6) (cwV 1 hts gX3_tar_X2_coracleOf rfl rfl rfl (by decide +kernel) ⟨Nat.le_of_ble_eq_true rfl, Nat.le_of_ble_eq_true rfl⟩) hK hN (P_l (P_r hP)) (va_recv hK hP (ci := 2) (q0 := (3 + 0)) rfl (ap_r (wf_len 3 _ _) (ap_l (wf_at (by decide) rfl)))) rfl hl.1 rfl (Nat.le_of_ble_eq_true rfl) dX3_tar_16 ⟨Nat.le_of_ble_eq_true rfl, Nat.le_of_ble_eq_true rfl⟩ ?_
  refine lv_astore_n (lv' := [(2, .ref (an (ix xa + 5))), (0, .ref (ac 0)), (1, .int xa)]) hx hb dX3_tar_19 rfl hl (by decide) rfl (fun ls hl => ?_)
  refine lv_aload_n hx hb dX3_tar_20 rfl (lv_at hl 0 rfl) ?_
  refine lv_iconst (v := 0) hx hb dX3_tar_21 (by decide) ?_
  refine cRI_V (As := [.int 0]) (rest := []) ⟨hx, hb, hml, hown, hts⟩ (c_X0_isAfloatAt l D y (an (ix xa + 5)) (V (ix xa + 5)) 0) (cwV 1 hts gX3_tar_X0_isAfloatAt rfl rfl rfl (by decide +kernel) ⟨Nat.le_of_ble_eq_true rfl, Nat.le_of_ble_eq_true rfl⟩) hK hN (P_m (P_l (P_r hP)) (rv_co y an V (in_ix ha6))) (va_recv hK (P_l (P_r hP)) (ci := 0) (q0 := (ix xa + 5)) rfl (rv_co y an V (in_ix ha6))) rfl hl.1 rfl (Nat.le_of_ble_eq_true rfl) dX3_tar_22 ⟨Nat.le_of_ble_eq_true rfl, Nat.le_of_ble_eq_true rfl⟩ ?_
  refine lv_if_eq (tgt := 43) hx hb dX3_tar_25 (by decide) (fun c_80 => ?_) (fun c_80 => ?_)
  · refine lv_iconst (v := 0) hx hb dX3_tar_43 (by decide) ?_
    refine cX_S (W0 := (cmW y ac (an 0) (ar 0) K ++ (rvW y an V ++ rvW y ar U))) (As := [.int 0]) (rest := []) ⟨hx, hb, hml, hown, hts⟩ (c_X3_checkState l D y _ hst 0) (va_cwS 1 hts gX3_tar_X3_checkState rfl rfl rfl (by decide +kernel) ⟨Nat.le_of_ble_eq_true rfl, Nat.le_of_ble_eq_true rfl⟩) hK hN hE hX hP hS hA rfl hl.1 rfl (Nat.le_of_ble_eq_true rfl) dX3_tar_44 ⟨Nat.le_of_ble_eq_true rfl, Nat.le_of_ble_eq_true rfl⟩ (fun hc_81 ce q9 H locs hP hS h91 h92 h93 => ?_) (fun hc_81 H locs hP hS => ?_)
    · subst hQ
      exact vx_out (fun x hx9 => (htab x hx9).elim) hlocks h91 h92 h93 (fun t ht hv9 => ⟨(), (by unfold taC; rw [if_neg hc_79, if_pos c_80]; decide), ⟨(by unfold taC; rw [if_neg hc_79, if_pos c_80]), by rw [ht]; exact hP⟩, hS.F ht⟩) hS.2.2 (Nat.le_of_ble_eq_true rfl) (Nat.le_of_ble_eq_true rfl)
    exact absurd rfl hc_81
  · refine lv_aload_n hx hb dX3_tar_28 rfl (lv_at hl 1 rfl) ?_
    refine va_get (D := D) (ci := 3) (v := .ref (an 0)) (C := RX3) (T := TX3) (N := 4) hx hb hts hin3 hown hK hP 0 (ap_l (wf_at (by decide) rfl)) rfl 2 (by decide) hf19 (fun _ h9 => h9) rfl dX3_tar_29 ?_
    have hf37 := hts (.fieldLink RX3 37 "CoracleMakers$River" "coins" "I") (by decide +kernel)
    refine va_get (D := D) (ci := 2) (v := .int (V 0 1)) (C := RX2) (T := TX2) (N := 10) hx hb hts hin2 hown hK hP (3 + 0) (ap_r (wf_len 3 _ _) (ap_l (wf_at (by decide) rfl))) rfl 5 (by decide) hf37 (fun _ h9 => h9) rfl dX3_tar_32 ?_
    refine lv_iconst (v := 3) hx hb dX3_tar_35 (by decide) ?_
    refine lv_icmp_lt (tgt := 43) hx hb dX3_tar_36 (by decide) (fun c_82 => ?_) (fun c_82 => ?_)
    · refine lv_iconst (v := 0) hx hb dX3_tar_43 (by decide) ?_
      refine cX_S (W0 := (cmW y ac (an 0) (ar 0) K ++ (rvW y an V ++ rvW y ar U))) (As := [.int 0]) (rest := []) ⟨hx, hb, hml, hown, hts⟩ (c_X3_checkState l D y _ hst 0) (va_cwS 1 hts gX3_tar_X3_checkState rfl rfl rfl (by decide +kernel) ⟨Nat.le_of_ble_eq_true rfl, Nat.le_of_ble_eq_true rfl⟩) hK hN hE hX hP hS hA rfl hl.1 rfl (Nat.le_of_ble_eq_true rfl) dX3_tar_44 ⟨Nat.le_of_ble_eq_true rfl, Nat.le_of_ble_eq_true rfl⟩ (fun hc_83 ce q9 H locs hP hS h91 h92 h93 => ?_) (fun hc_83 H locs hP hS => ?_)
      · subst hQ
        exact vx_out (fun x hx9 => (htab x hx9).elim) hlocks h91 h92 h93 (fun t ht hv9 => ⟨(), (by unfold taC; rw [if_neg hc_79, if_neg c_80, if_pos c_82]; decide), ⟨(by unfold taC; rw [if_neg hc_79, if_neg c_80, if_pos c_82]), by rw [ht]; exact hP⟩, hS.F ht⟩) hS.2.2 (Nat.le_of_ble_eq_true rfl) (Nat.le_of_ble_eq_true rfl)
      exact absurd rfl hc_83
    · refine lv_iconst (v := 1) hx hb dX3_tar_39 (by decide) ?_
      refine lv_goto (tgt := 44) hx hb dX3_tar_40 (by decide) ?_
      refine cX_S (W0 := (cmW y ac (an 0) (ar 0) K ++ (rvW y an V ++ rvW y ar U))) (As := [.int 1]) (rest := []) ⟨hx, hb, hml, hown, hts⟩ (c_X3_checkState l D y _ hst 1) (va_cwS 1 hts gX3_tar_X3_checkState rfl rfl rfl (by decide +kernel) ⟨Nat.le_of_ble_eq_true rfl, Nat.le_of_ble_eq_true rfl⟩) hK hN hE hX hP hS hA rfl hl.1 rfl (Nat.le_of_ble_eq_true rfl) dX3_tar_44 ⟨Nat.le_of_ble_eq_true rfl, Nat.le_of_ble_eq_true rfl⟩ (fun hc_84 ce q9 H locs hP hS h91 h92 h93 => ?_) (fun hc_84 H locs hP hS => ?_)
      · exact absurd hc_84 (by decide)
      refine lv_aload_n hx hb dX3_tar_47 rfl (lv_at hl 0 rfl) ?_
      have hin0 : ∀ w ∈ u_ws RX0 TX0 10, w ∈ wsX3_tar := by decide +kernel
      have hf78 := hts (.fieldLink RX3 78 "CoracleMakers$Coracle" "water" "I") (by decide +kernel)
      refine va_get (D := D) (ci := 0) (v := .int (V (ix xa + 5) 6)) (C := RX0) (T := TX0) (N := 10) hx hb hts hin0 hown hK hP (3 + (ix xa + 5)) (ap_r (wf_len 3 _ _) (ap_l (rv_co y an V (in_ix ha6)))) rfl 6 (by decide) hf78 (fun _ h9 => h9) rfl dX3_tar_48 ?_
      refine lv_istore_n (lv' := [(3, .int (V (ix xa + 5) 6)), (2, .ref (an (ix xa + 5))), (0, .ref (ac 0)), (1, .int xa)]) hx hb dX3_tar_51 rfl hl (by decide) rfl (fun ls hl => ?_)
      refine lv_aload_n hx hb dX3_tar_52 rfl (lv_at hl 2 rfl) ?_
      refine va_get (D := D) (ci := 3) (v := .ref (an 0)) (C := RX3) (T := TX3) (N := 4) hx hb hts hin3 hown hK hP 0 (ap_l (wf_at (by decide) rfl)) rfl 2 (by decide) hf19 (fun _ h9 => h9) rfl dX3_tar_53 ?_
      refine lv_dup hx hb dX3_tar_56 rfl ?_
      refine va_get (D := D) (ci := 2) (v := .int (V 0 1)) (C := RX2) (T := TX2) (N := 10) hx hb hts hin2 hown hK hP (3 + 0) (ap_r (wf_len 3 _ _) (ap_l (wf_at (by decide) rfl))) rfl 5 (by decide) hf37 (fun _ h9 => h9) rfl dX3_tar_57 ?_
      refine lv_iconst (v := 3) hx hb dX3_tar_60 (by decide) ?_
      refine lv_isub hx hb dX3_tar_61 ?_
      refine lv_topi (fun x_85 ex_85 => ?_)
      obtain ⟨V35, hV35⟩ : ∃ z, z = va_up V 0 (upd (V 0) 1 x_85) := ⟨_, rfl⟩
      refine va_put (D := D) (ci := 2) (v := .int x_85) (ty := .int) (C := RX2) (T := TX2) (N := 10) hx hb hts hin2 tyX2 tyX2_ok nmX2 hown hK hP (aD_D hD (show List.map Prod.fst (cmW y ac (an 0) (ar 0) K ++ (rvW y an V ++ rvW y ar U)) = _ from by rw [List.map_append, List.map_append, cm_fst y ac _ _ _, rv_fst y an _, rv_fst y ar _])) hS (3 + 0) (ap_r (wf_len 3 _ _) (ap_l (wf_at (by decide) rfl))) rfl 5 (by decide) hf37 (fun _ h9 => h9) rfl (by decide +kernel) rfl rfl (Nat.le_of_ble_eq_true rfl) dX3_tar_62 (fun H locs hP _ hS => ?_)
      have hP : va_P D vwCl (cmW y ac (an 0) (ar 0) K ++ (rvW y an V35 ++ rvW y ar U)) H := (by rw [hV35]; exact P_eq (ap_set_r (wf_len 3 _ _) (ap_set_l (show 0 < (wf _ _ _).length by rw [wf_len]; omega) (rv_set (k := 0) (upd (V 0) 1 x_85) rfl))) hP)
      refine lv_aload_n hx hb dX3_tar_65 rfl (lv_at hl 1 rfl) ?_
      refine lv_bipush (v := 30) hx hb dX3_tar_66 (by decide) ?_
      have hf81 := hts (.fieldLink RX3 81 "CoracleMakers$Coracle" "tar" "I") (by decide +kernel)
      obtain ⟨V36, hV36⟩ : ∃ z, z = va_up V35 (ix xa + 5) (upd (V35 (ix xa + 5)) 5 30) := ⟨_, rfl⟩
      refine va_put (D := D) (ci := 0) (v := .int 30) (ty := .int) (C := RX0) (T := TX0) (N := 10) hx hb hts hin0 tyX0 tyX0_ok nmX0 hown hK hP (aD_D hD (show List.map Prod.fst (cmW y ac (an 0) (ar 0) K ++ (rvW y an V35 ++ rvW y ar U)) = _ from by rw [List.map_append, List.map_append, cm_fst y ac _ _ _, rv_fst y an _, rv_fst y ar _])) hS (3 + (ix xa + 5)) (ap_r (wf_len 3 _ _) (ap_l (rv_co y an V35 (in_ix ha6)))) rfl 5 (by decide) hf81 (fun _ h9 => h9) rfl (by decide +kernel) rfl rfl (Nat.le_of_ble_eq_true rfl) dX3_tar_68 (fun H locs hP _ hS => ?_)
      have hP : va_P D vwCl (cmW y ac (an 0) (ar 0) K ++ (rvW y an V36 ++ rvW y ar U)) H := (by rw [hV36]; exact P_eq (ap_set_r (wf_len 3 _ _) (ap_set_l (show (ix xa + 5) < (wf _ _ _).length by rw [wf_len]; have h9 := (in_ix ha6); omega) (rv_setC (upd (V35 (ix xa + 5)) 5 30) (in_ix ha6)))) hP)
      refine lv_aload_n hx hb dX3_tar_71 rfl (lv_at hl 1 rfl) ?_
      refine lv_iconst (v := 0) hx hb dX3_tar_72 (by decide) ?_
      obtain ⟨V37, hV37⟩ : ∃ z, z = va_up V36 (ix xa + 5) (upd (V36 (ix xa + 5)) 6 0) := ⟨_, rfl⟩
      refine va_put (D := D) (ci := 0) (v := .int 0) (ty := .int) (C := RX0) (T := TX0) (N := 10) hx hb hts hin0 tyX0 tyX0_ok nmX0 hown hK hP (aD_D hD (show List.map Prod.fst (cmW y ac (an 0) (ar 0) K ++ (rvW y an V36 ++ rvW y ar U)) = _ from by rw [List.map_append, List.map_append, cm_fst y ac _ _ _, rv_fst y an _, rv_fst y ar _])) hS (3 + (ix xa + 5)) (ap_r (wf_len 3 _ _) (ap_l (rv_co y an V36 (in_ix ha6)))) rfl 6 (by decide) hf78 (fun _ h9 => h9) rfl (by decide +kernel) rfl rfl (Nat.le_of_ble_eq_true rfl) dX3_tar_73 (fun H locs hP _ hS => ?_)
      have hP : va_P D vwCl (cmW y ac (an 0) (ar 0) K ++ (rvW y an V37 ++ rvW y ar U)) H := (by rw [hV37]; exact P_eq (ap_set_r (wf_len 3 _ _) (ap_set_l (show (ix xa + 5) < (wf _ _ _).length by rw [wf_len]; have h9 := (in_ix ha6); omega) (rv_setC (upd (V36 (ix xa + 5)) 6 0) (in_ix ha6)))) hP)
      refine lv_iload_n hx hb dX3_tar_76 rfl (lv_at hl 0 rfl) ?_
      have hP : va_P D vwCl (cmA y ac an ar K (taV V (ix xa)) U) H := (by subst hV37 hV36 hV35 ex_85; exact hP)
      subst hQ
      refine W.widen (k := 2) (n := 12) (Nat.le_of_ble_eq_true rfl) (Nat.le_of_ble_eq_true rfl) ?_
      exact vx_ret (W.iret (v := V (ix xa + 5) 6) hx hb hr (fun t ht hW => ⟨⟨_, U, rfl, ⟨(by unfold taC; rw [if_neg hc_79, if_neg c_80, if_neg c_82]), rfl⟩, bp_at hK hN hP t ht hW⟩, hS.F ht⟩) hS.2.2 dX3_tar_77)
abbrev rmX3_land : Room := { frames := 7, cells := 2, slots := 12, locals := 112 }
set_option maxHeartbeats 4000000 in
set_option maxRecDepth 100000 in
/-- land(xa) -/
theorem c_X3_land (l : Launch) (D : va_G) (y : Nat → ClassId) (sz : Nat) (hst : l.stackTraces = false) (ac an ar : Nat → Nat) (K V U : Nat → Nat → Int32) (xa : Int32) (hM : vp_in (V 0 2) 7) : XI (S := Nat → Nat → Int32) l D y yX3_land wsX3_land rmX3_land 2 12 [.ref (ac 0), .int xa] (cmA y ac an ar K V U) sz (laC V xa) (2 * V (ix xa + 5) 7) (fun u => cmA y ac an ar K (laV V (ix xa)) u) := by
  refine mX (fun A => va_Qi (fun r9 (_ : Nat → Nat → Int32) => (laC V xa) = 0 ∧ r9 = (2 * V (ix xa + 5) 7)) (fun u t9 => Bp D y (cmA y ac an ar K (laV V (ix xa)) u) t9) A) (fun A => vx_X (fun (_ : Unit) => ¬ (laC V xa) = 0) (fun E _ t9 => E = xnm (laC V xa) ∧ va_P D vwCl (cmA y ac an ar K V U) t9.heap) A) (C := RX3) (cc := cX3_land) (maxL := 4) (ret := (some .int)) (by decide) rfl rfl (Nat.le_of_ble_eq_true rfl) ?_
  intro p e s m a below meth c ls A Q hQ hsz hx hb hr hts hown hlocks htab hml hP hK hN hE hX hD hA hS hl
  rw [cmA_fst] at hD
  have hl : lv_has ls 4 [(0, .ref (ac 0)), (1, .int xa)] := hl
  refine lv_iload_n hx hb dX3_land_0 rfl (lv_at hl 1 rfl) ?_
  refine lv_aload_n hx hb dX3_land_1 rfl (lv_at hl 0 rfl) ?_
  have hin3 : ∀ w ∈ u_ws RX3 TX3 4, w ∈ wsX3_land := by decide +kernel
  have hf19 := hts (.fieldLink RX3 19 "CoracleMakers" "now" "LCoracleMakers$River;") (by decide +kernel)
  refine va_get (D := D) (ci := 3) (v := .ref (an 0)) (C := RX3) (T := TX3) (N := 4) hx hb hts hin3 hown hK hP 0 (ap_l (wf_at (by decide) rfl)) rfl 2 (by decide) hf19 (fun _ h9 => h9) rfl dX3_land_2 ?_
  have hin2 : ∀ w ∈ u_ws RX2 TX2 10, w ∈ wsX3_land := by decide +kernel
  have hf48 := hts (.fieldLink RX3 48 "CoracleMakers$River" "made" "I") (by decide +kernel)
  refine va_get (D := D) (ci := 2) (v := .int (V 0 2)) (C := RX2) (T := TX2) (N := 10) hx hb hts hin2 hown hK hP (3 + 0) (ap_r (wf_len 3 _ _) (ap_l (wf_at (by decide) rfl))) rfl 6 (by decide) hf48 (fun _ h9 => h9) rfl dX3_land_5 ?_
  refine cX_S (W0 := (cmW y ac (an 0) (ar 0) K ++ (rvW y an V ++ rvW y ar U))) (As := [.int xa, .int (V 0 2)]) (rest := []) ⟨hx, hb, hml, hown, hts⟩ (c_X3_checkIndex l D y _ hst xa (V 0 2)) (va_cwS 2 hts gX3_land_X3_checkIndex rfl rfl rfl (by decide +kernel) ⟨Nat.le_of_ble_eq_true rfl, Nat.le_of_ble_eq_true rfl⟩) hK hN hE hX hP hS hA rfl hl.1 rfl (Nat.le_of_ble_eq_true rfl) dX3_land_8 ⟨Nat.le_of_ble_eq_true rfl, Nat.le_of_ble_eq_true rfl⟩ (fun hc_86 ce q9 H locs hP hS h91 h92 h93 => ?_) (fun hc_86 H locs hP hS => ?_)
  · subst hQ
    exact vx_out (fun x hx9 => (htab x hx9).elim) hlocks h91 h92 h93 (fun t ht hv9 => ⟨(), (by unfold laC; rw [if_pos hc_86]; decide), ⟨(by unfold laC; rw [if_pos hc_86]), by rw [ht]; exact hP⟩, hS.F ht⟩) hS.2.2 (Nat.le_of_ble_eq_true rfl) (Nat.le_of_ble_eq_true rfl)
  have ha6 : vp_in xa 6 := nci hc_86 hM
  refine lv_aload_n hx hb dX3_land_11 rfl (lv_at hl 0 rfl) ?_
  refine va_get (D := D) (ci := 3) (v := .ref (an 0)) (C := RX3) (T := TX3) (N := 4) hx hb hts hin3 hown hK hP 0 (ap_l (wf_at (by decide) rfl)) rfl 2 (by decide) hf19 (fun _ h9 => h9) rfl dX3_land_12 ?_
  refine lv_iload_n hx hb dX3_land_15 rfl (lv_at hl 1 rfl) ?_
  refine cRR_V (As := [.int xa]) (rest := []) ⟨hx, hb, hml, hown, hts⟩ (c_X2_coracleOf l D y an V xa ha6) (cwV 1 hts gX3_land_X2_coracleOf rfl rfl rfl (by decide +kernel) ⟨Nat.le_of_ble_eq_true rfl, Nat.le_of_ble_eq_true rfl⟩) hK hN (P_l (P_r hP)) (va_recv hK hP (ci := 2) (q0 := (3 + 0)) rfl (ap_r (wf_len 3 _ _) (ap_l (wf_at (by decide) rfl)))) rfl hl.1 rfl (Nat.le_of_ble_eq_true rfl) dX3_land_16 ⟨Nat.le_of_ble_eq_true rfl, Nat.le_of_ble_eq_true rfl⟩ ?_
  refine lv_astore_n (lv' := [(2, .ref (an (ix xa + 5))), (0, .ref (ac 0)), (1, .int xa)]) hx hb dX3_land_19 rfl hl (by decide) rfl (fun ls hl => ?_)
  refine lv_aload_n hx hb dX3_land_20 rfl (lv_at hl 0 rfl) ?_
  refine lv_iconst (v := 0) hx hb dX3_land_21 (by decide) ?_
  refine cRI_V (As := [.int 0]) (rest := []) ⟨hx, hb, hml, hown, hts⟩ (c_X0_isAfloatAt l D y (an (ix xa + 5)) (V (ix xa + 5)) 0) (cwV 1 hts gX3_land_X0_isAfloatAt rfl rfl rfl (by decide +kernel) ⟨Nat.le_of_ble_eq_true rfl, Nat.le_of_ble_eq_true rfl⟩) hK hN (P_m (P_l (P_r hP)) (rv_co y an V (in_ix ha6))) (va_recv hK (P_l (P_r hP)) (ci := 0) (q0 := (ix xa + 5)) rfl (rv_co y an V (in_ix ha6))) rfl hl.1 rfl (Nat.le_of_ble_eq_true rfl) dX3_land_22 ⟨Nat.le_of_ble_eq_true rfl, Nat.le_of_ble_eq_true rfl⟩ ?_
  refine cX_S (W0 := (cmW y ac (an 0) (ar 0) K ++ (rvW y an V ++ rvW y ar U))) (As := [.int (atF (V (ix xa + 5)) 0)]) (rest := []) ⟨hx, hb, hml, hown, hts⟩ (c_X3_checkState l D y _ hst (atF (V (ix xa + 5)) 0)) (va_cwS 1 hts gX3_land_X3_checkState rfl rfl rfl (by decide +kernel) ⟨Nat.le_of_ble_eq_true rfl, Nat.le_of_ble_eq_true rfl⟩) hK hN hE hX hP hS hA rfl hl.1 rfl (Nat.le_of_ble_eq_true rfl) dX3_land_25 ⟨Nat.le_of_ble_eq_true rfl, Nat.le_of_ble_eq_true rfl⟩ (fun hc_87 ce q9 H locs hP hS h91 h92 h93 => ?_) (fun hc_87 H locs hP hS => ?_)
  · subst hQ
    exact vx_out (fun x hx9 => (htab x hx9).elim) hlocks h91 h92 h93 (fun t ht hv9 => ⟨(), (by unfold laC; rw [if_neg hc_86, if_pos hc_87]; decide), ⟨(by unfold laC; rw [if_neg hc_86, if_pos hc_87]), by rw [ht]; exact hP⟩, hS.F ht⟩) hS.2.2 (Nat.le_of_ble_eq_true rfl) (Nat.le_of_ble_eq_true rfl)
  refine lv_iconst (v := 2) hx hb dX3_land_28 (by decide) ?_
  refine lv_aload_n hx hb dX3_land_29 rfl (lv_at hl 0 rfl) ?_
  have hin0 : ∀ w ∈ u_ws RX0 TX0 10, w ∈ wsX3_land := by decide +kernel
  have hf84 := hts (.fieldLink RX3 84 "CoracleMakers$Coracle" "load" "I") (by decide +kernel)
  refine va_get (D := D) (ci := 0) (v := .int (V (ix xa + 5) 7)) (C := RX0) (T := TX0) (N := 10) hx hb hts hin0 hown hK hP (3 + (ix xa + 5)) (ap_r (wf_len 3 _ _) (ap_l (rv_co y an V (in_ix ha6)))) rfl 7 (by decide) hf84 (fun _ h9 => h9) rfl dX3_land_30 ?_
  refine lv_imul hx hb dX3_land_33 ?_
  refine lv_istore_n (lv' := [(3, .int (2 * (V (ix xa + 5) 7))), (2, .ref (an (ix xa + 5))), (0, .ref (ac 0)), (1, .int xa)]) hx hb dX3_land_34 rfl hl (by decide) rfl (fun ls hl => ?_)
  refine lv_aload_n hx hb dX3_land_35 rfl (lv_at hl 2 rfl) ?_
  refine va_get (D := D) (ci := 3) (v := .ref (an 0)) (C := RX3) (T := TX3) (N := 4) hx hb hts hin3 hown hK hP 0 (ap_l (wf_at (by decide) rfl)) rfl 2 (by decide) hf19 (fun _ h9 => h9) rfl dX3_land_36 ?_
  refine lv_dup hx hb dX3_land_39 rfl ?_
  have hf37 := hts (.fieldLink RX3 37 "CoracleMakers$River" "coins" "I") (by decide +kernel)
  refine va_get (D := D) (ci := 2) (v := .int (V 0 1)) (C := RX2) (T := TX2) (N := 10) hx hb hts hin2 hown hK hP (3 + 0) (ap_r (wf_len 3 _ _) (ap_l (wf_at (by decide) rfl))) rfl 5 (by decide) hf37 (fun _ h9 => h9) rfl dX3_land_40 ?_
  refine lv_iload_n hx hb dX3_land_43 rfl (lv_at hl 0 rfl) ?_
  refine lv_iadd hx hb dX3_land_44 ?_
  refine lv_topi (fun x_88 ex_88 => ?_)
  obtain ⟨V38, hV38⟩ : ∃ z, z = va_up V 0 (upd (V 0) 1 x_88) := ⟨_, rfl⟩
  refine va_put (D := D) (ci := 2) (v := .int x_88) (ty := .int) (C := RX2) (T := TX2) (N := 10) hx hb hts hin2 tyX2 tyX2_ok nmX2 hown hK hP (aD_D hD (show List.map Prod.fst (cmW y ac (an 0) (ar 0) K ++ (rvW y an V ++ rvW y ar U)) = _ from by rw [List.map_append, List.map_append, cm_fst y ac _ _ _, rv_fst y an _, rv_fst y ar _])) hS (3 + 0) (ap_r (wf_len 3 _ _) (ap_l (wf_at (by decide) rfl))) rfl 5 (by decide) hf37 (fun _ h9 => h9) rfl (by decide +kernel) rfl rfl (Nat.le_of_ble_eq_true rfl) dX3_land_45 (fun H locs hP _ hS => ?_)
  have hP : va_P D vwCl (cmW y ac (an 0) (ar 0) K ++ (rvW y an V38 ++ rvW y ar U)) H := (by rw [hV38]; exact P_eq (ap_set_r (wf_len 3 _ _) (ap_set_l (show 0 < (wf _ _ _).length by rw [wf_len]; omega) (rv_set (k := 0) (upd (V 0) 1 x_88) rfl))) hP)
  refine lv_aload_n hx hb dX3_land_48 rfl (lv_at hl 2 rfl) ?_
  refine va_get (D := D) (ci := 3) (v := .ref (an 0)) (C := RX3) (T := TX3) (N := 4) hx hb hts hin3 hown hK hP 0 (ap_l (wf_at (by decide) rfl)) rfl 2 (by decide) hf19 (fun _ h9 => h9) rfl dX3_land_49 ?_
  refine lv_dup hx hb dX3_land_52 rfl ?_
  have hf87 := hts (.fieldLink RX3 87 "CoracleMakers$River" "sold" "I") (by decide +kernel)
  refine va_get (D := D) (ci := 2) (v := .int (V38 0 4)) (C := RX2) (T := TX2) (N := 10) hx hb hts hin2 hown hK hP (3 + 0) (ap_r (wf_len 3 _ _) (ap_l (wf_at (by decide) rfl))) rfl 8 (by decide) hf87 (fun _ h9 => h9) rfl dX3_land_53 ?_
  refine lv_aload_n hx hb dX3_land_56 rfl (lv_at hl 1 rfl) ?_
  refine va_get (D := D) (ci := 0) (v := .int (V38 (ix xa + 5) 7)) (C := RX0) (T := TX0) (N := 10) hx hb hts hin0 hown hK hP (3 + (ix xa + 5)) (ap_r (wf_len 3 _ _) (ap_l (rv_co y an V38 (in_ix ha6)))) rfl 7 (by decide) hf84 (fun _ h9 => h9) rfl dX3_land_57 ?_
  refine lv_iadd hx hb dX3_land_60 ?_
  refine lv_topi (fun x_89 ex_89 => ?_)
  obtain ⟨V39, hV39⟩ : ∃ z, z = va_up V38 0 (upd (V38 0) 4 x_89) := ⟨_, rfl⟩
  refine va_put (D := D) (ci := 2) (v := .int x_89) (ty := .int) (C := RX2) (T := TX2) (N := 10) hx hb hts hin2 tyX2 tyX2_ok nmX2 hown hK hP (aD_D hD (show List.map Prod.fst (cmW y ac (an 0) (ar 0) K ++ (rvW y an V38 ++ rvW y ar U)) = _ from by rw [List.map_append, List.map_append, cm_fst y ac _ _ _, rv_fst y an _, rv_fst y ar _])) hS (3 + 0) (ap_r (wf_len 3 _ _) (ap_l (wf_at (by decide) rfl))) rfl 8 (by decide) hf87 (fun _ h9 => h9) rfl (by decide +kernel) rfl rfl (Nat.le_of_ble_eq_true rfl) dX3_land_61 (fun H locs hP _ hS => ?_)
  have hP : va_P D vwCl (cmW y ac (an 0) (ar 0) K ++ (rvW y an V39 ++ rvW y ar U)) H := (by rw [hV39]; exact P_eq (ap_set_r (wf_len 3 _ _) (ap_set_l (show 0 < (wf _ _ _).length by rw [wf_len]; omega) (rv_set (k := 0) (upd (V38 0) 4 x_89) rfl))) hP)
  refine lv_aload_n hx hb dX3_land_64 rfl (lv_at hl 1 rfl) ?_
  refine lv_iconst (v := 0) hx hb dX3_land_65 (by decide) ?_
  obtain ⟨V40, hV40⟩ : ∃ z, z = va_up V39 (ix xa + 5) (upd (V39 (ix xa + 5)) 7 0) := ⟨_, rfl⟩
  refine va_put (D := D) (ci := 0) (v := .int 0) (ty := .int) (C := RX0) (T := TX0) (N := 10) hx hb hts hin0 tyX0 tyX0_ok nmX0 hown hK hP (aD_D hD (show List.map Prod.fst (cmW y ac (an 0) (ar 0) K ++ (rvW y an V39 ++ rvW y ar U)) = _ from by rw [List.map_append, List.map_append, cm_fst y ac _ _ _, rv_fst y an _, rv_fst y ar _])) hS (3 + (ix xa + 5)) (ap_r (wf_len 3 _ _) (ap_l (rv_co y an V39 (in_ix ha6)))) rfl 7 (by decide) hf84 (fun _ h9 => h9) rfl (by decide +kernel) rfl rfl (Nat.le_of_ble_eq_true rfl) dX3_land_66 (fun H locs hP _ hS => ?_)
  have hP : va_P D vwCl (cmW y ac (an 0) (ar 0) K ++ (rvW y an V40 ++ rvW y ar U)) H := (by rw [hV40]; exact P_eq (ap_set_r (wf_len 3 _ _) (ap_set_l (show (ix xa + 5) < (wf _ _ _).length by rw [wf_len]; have h9 := (in_ix ha6); omega) (rv_setC (upd (V39 (ix xa + 5)) 7 0) (in_ix ha6)))) hP)
  refine lv_iload_n hx hb dX3_land_69 rfl (lv_at hl 0 rfl) ?_
  have hP : va_P D vwCl (cmA y ac an ar K (laV V (ix xa)) U) H := (by subst hV40 hV39 ex_89 hV38 ex_88; exact hP)
  subst hQ
  refine W.widen (k := 2) (n := 12) (Nat.le_of_ble_eq_true rfl) (Nat.le_of_ble_eq_true rfl) ?_
  exact vx_ret (W.iret (v := 2 * (V (ix xa + 5) 7)) hx hb hr (fun t ht hW => ⟨⟨_, U, rfl, ⟨(by unfold laC; rw [if_neg hc_86, if_neg hc_87]), (by subst hV40 hV39 ex_89 hV38 ex_88; rfl)⟩, bp_at hK hN hP t ht hW⟩, hS.F ht⟩) hS.2.2 dX3_land_70)
def abC (V : Nat → Nat → Int32) (c x : Int32) : Nat := if ciP c (V 0 2) then 1 else if ciP x 10 then 1 else 0
def toC (V : Nat → Nat → Int32) (n x : Int32) : Nat := if ciP n (V 0 3) then 1 else if ciP x 4 then 1 else 0
def reC (r x : Int32) : Nat := if ciP r 16 then 1 else if ciP x 2 then 1 else 0
def coC (x : Int32) : Nat := if ciP x 13 then 1 else 0
def paC (h : Int32) : Nat := if caP h 1 40 then 2 else 0
abbrev rmX3_about : Room := { frames := 7, cells := 2, slots := 12, locals := 112 }
set_option maxHeartbeats 4000000 in
set_option maxRecDepth 100000 in
/-- about(xa, x) -/
theorem c_X3_about (l : Launch) (D : va_G) (y : Nat → ClassId) (sz : Nat) (hst : l.stackTraces = false) (ac an ar : Nat → Nat) (K V U : Nat → Nat → Int32) (xa x : Int32) (hM : vp_in (V 0 2) 7) : XI (S := Nat → Nat → Int32) l D y yX3_about wsX3_about rmX3_about 2 12 [.ref (ac 0), .int xa, .int x] (cmA y ac an ar K V U) sz (abC V xa x) (tlF (V (ix xa + 5)) x) (fun u => cmA y ac an ar K V u) := by
  refine mX (fun A => va_Qi (fun r9 (_ : Nat → Nat → Int32) => (abC V xa x) = 0 ∧ r9 = (tlF (V (ix xa + 5)) x)) (fun u t9 => Bp D y (cmA y ac an ar K V u) t9) A) (fun A => vx_X (fun (_ : Unit) => ¬ (abC V xa x) = 0) (fun E _ t9 => E = xnm (abC V xa x) ∧ va_P D vwCl (cmA y ac an ar K V U) t9.heap) A) (C := RX3) (cc := cX3_about) (maxL := 3) (ret := (some .int)) (by decide) rfl rfl (Nat.le_of_ble_eq_true rfl) ?_
  intro p e s m a below meth c ls A Q hQ hsz hx hb hr hts hown hlocks htab hml hP hK hN hE hX hD hA hS hl
  rw [cmA_fst] at hD
  have hl : lv_has ls 3 [(0, .ref (ac 0)), (1, .int xa), (2, .int x)] := hl
  refine lv_iload_n hx hb dX3_about_0 rfl (lv_at hl 1 rfl) ?_
  refine lv_aload_n hx hb dX3_about_1 rfl (lv_at hl 0 rfl) ?_
  have hin3 : ∀ w ∈ u_ws RX3 TX3 4, w ∈ wsX3_about := by decide +kernel
  have hf19 := hts (.fieldLink RX3 19 "CoracleMakers" "now" "LCoracleMakers$River;") (by decide +kernel)
  refine va_get (D := D) (ci := 3) (v := .ref (an 0)) (C := RX3) (T := TX3) (N := 4) hx hb hts hin3 hown hK hP 0 (ap_l (wf_at (by decide) rfl)) rfl 2 (by decide) hf19 (fun _ h9 => h9) rfl dX3_about_2 ?_
  have hin2 : ∀ w ∈ u_ws RX2 TX2 10, w ∈ wsX3_about := by decide +kernel
  have hf48 := hts (.fieldLink RX3 48 "CoracleMakers$River" "made" "I") (by decide +kernel)
  refine va_get (D := D) (ci := 2) (v := .int (V 0 2)) (C := RX2) (T := TX2) (N := 10) hx hb hts hin2 hown hK hP (3 + 0) (ap_r (wf_len 3 _ _) (ap_l (wf_at (by decide) rfl))) rfl 6 (by decide) hf48 (fun _ h9 => h9) rfl dX3_about_5 ?_
  refine cX_S (W0 := (cmW y ac (an 0) (ar 0) K ++ (rvW y an V ++ rvW y ar U))) (As := [.int xa, .int (V 0 2)]) (rest := []) ⟨hx, hb, hml, hown, hts⟩ (c_X3_checkIndex l D y _ hst xa (V 0 2)) (va_cwS 2 hts gX3_about_X3_checkIndex rfl rfl rfl (by decide +kernel) ⟨Nat.le_of_ble_eq_true rfl, Nat.le_of_ble_eq_true rfl⟩) hK hN hE hX hP hS hA rfl hl.1 rfl (Nat.le_of_ble_eq_true rfl) dX3_about_8 ⟨Nat.le_of_ble_eq_true rfl, Nat.le_of_ble_eq_true rfl⟩ (fun hc_90 ce q9 H locs hP hS h91 h92 h93 => ?_) (fun hc_90 H locs hP hS => ?_)
  · subst hQ
    exact vx_out (fun x hx9 => (htab x hx9).elim) hlocks h91 h92 h93 (fun t ht hv9 => ⟨(), (by unfold abC; rw [if_pos hc_90]; decide), ⟨(by unfold abC; rw [if_pos hc_90]), by rw [ht]; exact hP⟩, hS.F ht⟩) hS.2.2 (Nat.le_of_ble_eq_true rfl) (Nat.le_of_ble_eq_true rfl)
  refine lv_iload_n hx hb dX3_about_11 rfl (lv_at hl 2 rfl) ?_
  refine lv_bipush (v := 10) hx hb dX3_about_12 (by decide) ?_
  refine cX_S (W0 := (cmW y ac (an 0) (ar 0) K ++ (rvW y an V ++ rvW y ar U))) (As := [.int x, .int 10]) (rest := []) ⟨hx, hb, hml, hown, hts⟩ (c_X3_checkIndex l D y _ hst x 10) (va_cwS 2 hts gX3_about_X3_checkIndex rfl rfl rfl (by decide +kernel) ⟨Nat.le_of_ble_eq_true rfl, Nat.le_of_ble_eq_true rfl⟩) hK hN hE hX hP hS hA rfl hl.1 rfl (Nat.le_of_ble_eq_true rfl) dX3_about_14 ⟨Nat.le_of_ble_eq_true rfl, Nat.le_of_ble_eq_true rfl⟩ (fun hc_91 ce q9 H locs hP hS h91 h92 h93 => ?_) (fun hc_91 H locs hP hS => ?_)
  · subst hQ
    exact vx_out (fun x hx9 => (htab x hx9).elim) hlocks h91 h92 h93 (fun t ht hv9 => ⟨(), (by unfold abC; rw [if_neg hc_90, if_pos hc_91]; decide), ⟨(by unfold abC; rw [if_neg hc_90, if_pos hc_91]), by rw [ht]; exact hP⟩, hS.F ht⟩) hS.2.2 (Nat.le_of_ble_eq_true rfl) (Nat.le_of_ble_eq_true rfl)
  have ha6 : vp_in xa 6 := nci hc_90 hM
  refine lv_aload_n hx hb dX3_about_17 rfl (lv_at hl 0 rfl) ?_
  refine va_get (D := D) (ci := 3) (v := .ref (an 0)) (C := RX3) (T := TX3) (N := 4) hx hb hts hin3 hown hK hP 0 (ap_l (wf_at (by decide) rfl)) rfl 2 (by decide) hf19 (fun _ h9 => h9) rfl dX3_about_18 ?_
  refine lv_iload_n hx hb dX3_about_21 rfl (lv_at hl 1 rfl) ?_
  refine cRR_V (As := [.int xa]) (rest := []) ⟨hx, hb, hml, hown, hts⟩ (c_X2_coracleOf l D y an V xa ha6) (cwV 1 hts gX3_about_X2_coracleOf rfl rfl rfl (by decide +kernel) ⟨Nat.le_of_ble_eq_true rfl, Nat.le_of_ble_eq_true rfl⟩) hK hN (P_l (P_r hP)) (va_recv hK hP (ci := 2) (q0 := (3 + 0)) rfl (ap_r (wf_len 3 _ _) (ap_l (wf_at (by decide) rfl)))) rfl hl.1 rfl (Nat.le_of_ble_eq_true rfl) dX3_about_22 ⟨Nat.le_of_ble_eq_true rfl, Nat.le_of_ble_eq_true rfl⟩ ?_
  refine lv_iload_n hx hb dX3_about_25 rfl (lv_at hl 2 rfl) ?_
  refine cRI_V (As := [.int x]) (rest := []) ⟨hx, hb, hml, hown, hts⟩ (c_X0_tell l D y (an (ix xa + 5)) (V (ix xa + 5)) x) (cwV 1 hts gX3_about_X0_tell rfl rfl rfl (by decide +kernel) ⟨Nat.le_of_ble_eq_true rfl, Nat.le_of_ble_eq_true rfl⟩) hK hN (P_m (P_l (P_r hP)) (rv_co y an V (in_ix ha6))) (va_recv hK (P_l (P_r hP)) (ci := 0) (q0 := (ix xa + 5)) rfl (rv_co y an V (in_ix ha6))) rfl hl.1 rfl (Nat.le_of_ble_eq_true rfl) dX3_about_26 ⟨Nat.le_of_ble_eq_true rfl, Nat.le_of_ble_eq_true rfl⟩ ?_
  subst hQ
  refine W.widen (k := 2) (n := 12) (Nat.le_of_ble_eq_true rfl) (Nat.le_of_ble_eq_true rfl) ?_
  exact vx_ret (W.iret (v := tlF (V (ix xa + 5)) x) hx hb hr (fun t ht hW => ⟨⟨_, U, rfl, ⟨(by unfold abC; rw [if_neg hc_90, if_neg hc_91]), rfl⟩, bp_at hK hN hP t ht hW⟩, hS.F ht⟩) hS.2.2 dX3_about_29)
abbrev rmX3_told : Room := { frames := 7, cells := 2, slots := 12, locals := 112 }
set_option maxHeartbeats 4000000 in
set_option maxRecDepth 100000 in
/-- told(n, x) -/
theorem c_X3_told (l : Launch) (D : va_G) (y : Nat → ClassId) (sz : Nat) (hst : l.stackTraces = false) (ac an ar : Nat → Nat) (K V U : Nat → Nat → Int32) (n x : Int32) (hT : vp_in (V 0 3) 4) (hI : rvI V) : XI (S := Nat → Nat → Int32) l D y yX3_told wsX3_told rmX3_told 2 12 [.ref (ac 0), .int n, .int x] (cmA y ac an ar K V U) sz (toC V n x) (tnF V (ix n) x) (fun u => cmA y ac an ar K V u) := by
  refine mX (fun A => va_Qi (fun r9 (_ : Nat → Nat → Int32) => (toC V n x) = 0 ∧ r9 = (tnF V (ix n) x)) (fun u t9 => Bp D y (cmA y ac an ar K V u) t9) A) (fun A => vx_X (fun (_ : Unit) => ¬ (toC V n x) = 0) (fun E _ t9 => E = xnm (toC V n x) ∧ va_P D vwCl (cmA y ac an ar K V U) t9.heap) A) (C := RX3) (cc := cX3_told) (maxL := 3) (ret := (some .int)) (by decide) rfl rfl (Nat.le_of_ble_eq_true rfl) ?_
  intro p e s m a below meth c ls A Q hQ hsz hx hb hr hts hown hlocks htab hml hP hK hN hE hX hD hA hS hl
  rw [cmA_fst] at hD
  have hl : lv_has ls 3 [(0, .ref (ac 0)), (1, .int n), (2, .int x)] := hl
  refine lv_iload_n hx hb dX3_told_0 rfl (lv_at hl 1 rfl) ?_
  refine lv_aload_n hx hb dX3_told_1 rfl (lv_at hl 0 rfl) ?_
  have hin3 : ∀ w ∈ u_ws RX3 TX3 4, w ∈ wsX3_told := by decide +kernel
  have hf19 := hts (.fieldLink RX3 19 "CoracleMakers" "now" "LCoracleMakers$River;") (by decide +kernel)
  refine va_get (D := D) (ci := 3) (v := .ref (an 0)) (C := RX3) (T := TX3) (N := 4) hx hb hts hin3 hown hK hP 0 (ap_l (wf_at (by decide) rfl)) rfl 2 (by decide) hf19 (fun _ h9 => h9) rfl dX3_told_2 ?_
  have hin2 : ∀ w ∈ u_ws RX2 TX2 10, w ∈ wsX3_told := by decide +kernel
  have hf94 := hts (.fieldLink RX3 94 "CoracleMakers$River" "tied" "I") (by decide +kernel)
  refine va_get (D := D) (ci := 2) (v := .int (V 0 3)) (C := RX2) (T := TX2) (N := 10) hx hb hts hin2 hown hK hP (3 + 0) (ap_r (wf_len 3 _ _) (ap_l (wf_at (by decide) rfl))) rfl 7 (by decide) hf94 (fun _ h9 => h9) rfl dX3_told_5 ?_
  refine cX_S (W0 := (cmW y ac (an 0) (ar 0) K ++ (rvW y an V ++ rvW y ar U))) (As := [.int n, .int (V 0 3)]) (rest := []) ⟨hx, hb, hml, hown, hts⟩ (c_X3_checkIndex l D y _ hst n (V 0 3)) (va_cwS 2 hts gX3_told_X3_checkIndex rfl rfl rfl (by decide +kernel) ⟨Nat.le_of_ble_eq_true rfl, Nat.le_of_ble_eq_true rfl⟩) hK hN hE hX hP hS hA rfl hl.1 rfl (Nat.le_of_ble_eq_true rfl) dX3_told_8 ⟨Nat.le_of_ble_eq_true rfl, Nat.le_of_ble_eq_true rfl⟩ (fun hc_92 ce q9 H locs hP hS h91 h92 h93 => ?_) (fun hc_92 H locs hP hS => ?_)
  · subst hQ
    exact vx_out (fun x hx9 => (htab x hx9).elim) hlocks h91 h92 h93 (fun t ht hv9 => ⟨(), (by unfold toC; rw [if_pos hc_92]; decide), ⟨(by unfold toC; rw [if_pos hc_92]), by rw [ht]; exact hP⟩, hS.F ht⟩) hS.2.2 (Nat.le_of_ble_eq_true rfl) (Nat.le_of_ble_eq_true rfl)
  refine lv_iload_n hx hb dX3_told_11 rfl (lv_at hl 2 rfl) ?_
  refine lv_iconst (v := 4) hx hb dX3_told_12 (by decide) ?_
  refine cX_S (W0 := (cmW y ac (an 0) (ar 0) K ++ (rvW y an V ++ rvW y ar U))) (As := [.int x, .int 4]) (rest := []) ⟨hx, hb, hml, hown, hts⟩ (c_X3_checkIndex l D y _ hst x 4) (va_cwS 2 hts gX3_told_X3_checkIndex rfl rfl rfl (by decide +kernel) ⟨Nat.le_of_ble_eq_true rfl, Nat.le_of_ble_eq_true rfl⟩) hK hN hE hX hP hS hA rfl hl.1 rfl (Nat.le_of_ble_eq_true rfl) dX3_told_13 ⟨Nat.le_of_ble_eq_true rfl, Nat.le_of_ble_eq_true rfl⟩ (fun hc_93 ce q9 H locs hP hS h91 h92 h93 => ?_) (fun hc_93 H locs hP hS => ?_)
  · subst hQ
    exact vx_out (fun x hx9 => (htab x hx9).elim) hlocks h91 h92 h93 (fun t ht hv9 => ⟨(), (by unfold toC; rw [if_neg hc_92, if_pos hc_93]; decide), ⟨(by unfold toC; rw [if_neg hc_92, if_pos hc_93]), by rw [ht]; exact hP⟩, hS.F ht⟩) hS.2.2 (Nat.le_of_ble_eq_true rfl) (Nat.le_of_ble_eq_true rfl)
  refine lv_aload_n hx hb dX3_told_16 rfl (lv_at hl 0 rfl) ?_
  refine va_get (D := D) (ci := 3) (v := .ref (an 0)) (C := RX3) (T := TX3) (N := 4) hx hb hts hin3 hown hK hP 0 (ap_l (wf_at (by decide) rfl)) rfl 2 (by decide) hf19 (fun _ h9 => h9) rfl dX3_told_17 ?_
  refine lv_iload_n hx hb dX3_told_20 rfl (lv_at hl 1 rfl) ?_
  refine lv_iload_n hx hb dX3_told_21 rfl (lv_at hl 2 rfl) ?_
  refine cRI_V (As := [.int n, .int x]) (rest := []) ⟨hx, hb, hml, hown, hts⟩ (c_X2_tellOfNet l D y an V n x (nci hc_92 hT) hI) (cwV 2 hts gX3_told_X2_tellOfNet rfl rfl rfl (by decide +kernel) ⟨Nat.le_of_ble_eq_true rfl, Nat.le_of_ble_eq_true rfl⟩) hK hN (P_l (P_r hP)) (va_recv hK hP (ci := 2) (q0 := (3 + 0)) rfl (ap_r (wf_len 3 _ _) (ap_l (wf_at (by decide) rfl)))) rfl hl.1 rfl (Nat.le_of_ble_eq_true rfl) dX3_told_22 ⟨Nat.le_of_ble_eq_true rfl, Nat.le_of_ble_eq_true rfl⟩ ?_
  subst hQ
  refine W.widen (k := 2) (n := 12) (Nat.le_of_ble_eq_true rfl) (Nat.le_of_ble_eq_true rfl) ?_
  exact vx_ret (W.iret (v := tnF V (ix n) x) hx hb hr (fun t ht hW => ⟨⟨_, U, rfl, ⟨(by unfold toC; rw [if_neg hc_92, if_neg hc_93]), rfl⟩, bp_at hK hN hP t ht hW⟩, hS.F ht⟩) hS.2.2 dX3_told_25)
abbrev rmX3_reach : Room := { frames := 7, cells := 2, slots := 12, locals := 112 }
set_option maxHeartbeats 4000000 in
set_option maxRecDepth 100000 in
/-- reach(r, x) -/
theorem c_X3_reach (l : Launch) (D : va_G) (y : Nat → ClassId) (sz : Nat) (hst : l.stackTraces = false) (ac an ar : Nat → Nat) (K V U : Nat → Nat → Int32) (r x : Int32) : XI (S := Nat → Nat → Int32) l D y yX3_reach wsX3_reach rmX3_reach 2 12 [.ref (ac 0), .int r, .int x] (cmA y ac an ar K V U) sz (reC r x) (trF V r x) (fun u => cmA y ac an ar K V u) := by
  refine mX (fun A => va_Qi (fun r9 (_ : Nat → Nat → Int32) => (reC r x) = 0 ∧ r9 = (trF V r x)) (fun u t9 => Bp D y (cmA y ac an ar K V u) t9) A) (fun A => vx_X (fun (_ : Unit) => ¬ (reC r x) = 0) (fun E _ t9 => E = xnm (reC r x) ∧ va_P D vwCl (cmA y ac an ar K V U) t9.heap) A) (C := RX3) (cc := cX3_reach) (maxL := 3) (ret := (some .int)) (by decide) rfl rfl (Nat.le_of_ble_eq_true rfl) ?_
  intro p e s m a below meth c ls A Q hQ hsz hx hb hr hts hown hlocks htab hml hP hK hN hE hX hD hA hS hl
  rw [cmA_fst] at hD
  have hl : lv_has ls 3 [(0, .ref (ac 0)), (1, .int r), (2, .int x)] := hl
  refine lv_iload_n hx hb dX3_reach_0 rfl (lv_at hl 1 rfl) ?_
  refine lv_bipush (v := 16) hx hb dX3_reach_1 (by decide) ?_
  refine cX_S (W0 := (cmW y ac (an 0) (ar 0) K ++ (rvW y an V ++ rvW y ar U))) (As := [.int r, .int 16]) (rest := []) ⟨hx, hb, hml, hown, hts⟩ (c_X3_checkIndex l D y _ hst r 16) (va_cwS 2 hts gX3_reach_X3_checkIndex rfl rfl rfl (by decide +kernel) ⟨Nat.le_of_ble_eq_true rfl, Nat.le_of_ble_eq_true rfl⟩) hK hN hE hX hP hS hA rfl hl.1 rfl (Nat.le_of_ble_eq_true rfl) dX3_reach_3 ⟨Nat.le_of_ble_eq_true rfl, Nat.le_of_ble_eq_true rfl⟩ (fun hc_94 ce q9 H locs hP hS h91 h92 h93 => ?_) (fun hc_94 H locs hP hS => ?_)
  · subst hQ
    exact vx_out (fun x hx9 => (htab x hx9).elim) hlocks h91 h92 h93 (fun t ht hv9 => ⟨(), (by unfold reC; rw [if_pos hc_94]; decide), ⟨(by unfold reC; rw [if_pos hc_94]), by rw [ht]; exact hP⟩, hS.F ht⟩) hS.2.2 (Nat.le_of_ble_eq_true rfl) (Nat.le_of_ble_eq_true rfl)
  refine lv_iload_n hx hb dX3_reach_6 rfl (lv_at hl 2 rfl) ?_
  refine lv_iconst (v := 2) hx hb dX3_reach_7 (by decide) ?_
  refine cX_S (W0 := (cmW y ac (an 0) (ar 0) K ++ (rvW y an V ++ rvW y ar U))) (As := [.int x, .int 2]) (rest := []) ⟨hx, hb, hml, hown, hts⟩ (c_X3_checkIndex l D y _ hst x 2) (va_cwS 2 hts gX3_reach_X3_checkIndex rfl rfl rfl (by decide +kernel) ⟨Nat.le_of_ble_eq_true rfl, Nat.le_of_ble_eq_true rfl⟩) hK hN hE hX hP hS hA rfl hl.1 rfl (Nat.le_of_ble_eq_true rfl) dX3_reach_8 ⟨Nat.le_of_ble_eq_true rfl, Nat.le_of_ble_eq_true rfl⟩ (fun hc_95 ce q9 H locs hP hS h91 h92 h93 => ?_) (fun hc_95 H locs hP hS => ?_)
  · subst hQ
    exact vx_out (fun x hx9 => (htab x hx9).elim) hlocks h91 h92 h93 (fun t ht hv9 => ⟨(), (by unfold reC; rw [if_neg hc_94, if_pos hc_95]; decide), ⟨(by unfold reC; rw [if_neg hc_94, if_pos hc_95]), by rw [ht]; exact hP⟩, hS.F ht⟩) hS.2.2 (Nat.le_of_ble_eq_true rfl) (Nat.le_of_ble_eq_true rfl)
  refine lv_aload_n hx hb dX3_reach_11 rfl (lv_at hl 0 rfl) ?_
  have hin3 : ∀ w ∈ u_ws RX3 TX3 4, w ∈ wsX3_reach := by decide +kernel
  have hf19 := hts (.fieldLink RX3 19 "CoracleMakers" "now" "LCoracleMakers$River;") (by decide +kernel)
  refine va_get (D := D) (ci := 3) (v := .ref (an 0)) (C := RX3) (T := TX3) (N := 4) hx hb hts hin3 hown hK hP 0 (ap_l (wf_at (by decide) rfl)) rfl 2 (by decide) hf19 (fun _ h9 => h9) rfl dX3_reach_12 ?_
  refine lv_iload_n hx hb dX3_reach_15 rfl (lv_at hl 1 rfl) ?_
  refine lv_iload_n hx hb dX3_reach_16 rfl (lv_at hl 2 rfl) ?_
  refine cRI_V (As := [.int r, .int x]) (rest := []) ⟨hx, hb, hml, hown, hts⟩ (c_X2_tellOfReach l D y an V r x (nci_l hc_94 rfl)) (cwV 2 hts gX3_reach_X2_tellOfReach rfl rfl rfl (by decide +kernel) ⟨Nat.le_of_ble_eq_true rfl, Nat.le_of_ble_eq_true rfl⟩) hK hN (P_l (P_r hP)) (va_recv hK hP (ci := 2) (q0 := (3 + 0)) rfl (ap_r (wf_len 3 _ _) (ap_l (wf_at (by decide) rfl)))) rfl hl.1 rfl (Nat.le_of_ble_eq_true rfl) dX3_reach_17 ⟨Nat.le_of_ble_eq_true rfl, Nat.le_of_ble_eq_true rfl⟩ ?_
  subst hQ
  refine W.widen (k := 2) (n := 12) (Nat.le_of_ble_eq_true rfl) (Nat.le_of_ble_eq_true rfl) ?_
  exact vx_ret (W.iret (v := trF V r x) hx hb hr (fun t ht hW => ⟨⟨_, U, rfl, ⟨(by unfold reC; rw [if_neg hc_94, if_neg hc_95]), rfl⟩, bp_at hK hN hP t ht hW⟩, hS.F ht⟩) hS.2.2 dX3_reach_20)
abbrev rmX3_count : Room := { frames := 7, cells := 1, slots := 6, locals := 112 }
set_option maxHeartbeats 4000000 in
set_option maxRecDepth 100000 in
/-- count(x) -/
theorem c_X3_count (l : Launch) (D : va_G) (y : Nat → ClassId) (sz : Nat) (hst : l.stackTraces = false) (ac an ar : Nat → Nat) (K V U : Nat → Nat → Int32) (x : Int32) : XI (S := Nat → Nat → Int32) l D y yX3_count wsX3_count rmX3_count 1 6 [.ref (ac 0), .int x] (cmA y ac an ar K V U) sz (coC x) (tcF V x) (fun u => cmA y ac an ar K V u) := by
  refine mX (fun A => va_Qi (fun r9 (_ : Nat → Nat → Int32) => (coC x) = 0 ∧ r9 = (tcF V x)) (fun u t9 => Bp D y (cmA y ac an ar K V u) t9) A) (fun A => vx_X (fun (_ : Unit) => ¬ (coC x) = 0) (fun E _ t9 => E = xnm (coC x) ∧ va_P D vwCl (cmA y ac an ar K V U) t9.heap) A) (C := RX3) (cc := cX3_count) (maxL := 2) (ret := (some .int)) (by decide) rfl rfl (Nat.le_of_ble_eq_true rfl) ?_
  intro p e s m a below meth c ls A Q hQ hsz hx hb hr hts hown hlocks htab hml hP hK hN hE hX hD hA hS hl
  rw [cmA_fst] at hD
  have hl : lv_has ls 2 [(0, .ref (ac 0)), (1, .int x)] := hl
  refine lv_iload_n hx hb dX3_count_0 rfl (lv_at hl 1 rfl) ?_
  refine lv_bipush (v := 13) hx hb dX3_count_1 (by decide) ?_
  refine cX_S (W0 := (cmW y ac (an 0) (ar 0) K ++ (rvW y an V ++ rvW y ar U))) (As := [.int x, .int 13]) (rest := []) ⟨hx, hb, hml, hown, hts⟩ (c_X3_checkIndex l D y _ hst x 13) (va_cwS 2 hts gX3_count_X3_checkIndex rfl rfl rfl (by decide +kernel) ⟨Nat.le_of_ble_eq_true rfl, Nat.le_of_ble_eq_true rfl⟩) hK hN hE hX hP hS hA rfl hl.1 rfl (Nat.le_of_ble_eq_true rfl) dX3_count_3 ⟨Nat.le_of_ble_eq_true rfl, Nat.le_of_ble_eq_true rfl⟩ (fun hc_96 ce q9 H locs hP hS h91 h92 h93 => ?_) (fun hc_96 H locs hP hS => ?_)
  · subst hQ
    exact vx_out (fun x hx9 => (htab x hx9).elim) hlocks h91 h92 h93 (fun t ht hv9 => ⟨(), (by unfold coC; rw [if_pos hc_96]; decide), ⟨(by unfold coC; rw [if_pos hc_96]), by rw [ht]; exact hP⟩, hS.F ht⟩) hS.2.2 (Nat.le_of_ble_eq_true rfl) (Nat.le_of_ble_eq_true rfl)
  refine lv_aload_n hx hb dX3_count_6 rfl (lv_at hl 0 rfl) ?_
  have hin3 : ∀ w ∈ u_ws RX3 TX3 4, w ∈ wsX3_count := by decide +kernel
  have hf19 := hts (.fieldLink RX3 19 "CoracleMakers" "now" "LCoracleMakers$River;") (by decide +kernel)
  refine va_get (D := D) (ci := 3) (v := .ref (an 0)) (C := RX3) (T := TX3) (N := 4) hx hb hts hin3 hown hK hP 0 (ap_l (wf_at (by decide) rfl)) rfl 2 (by decide) hf19 (fun _ h9 => h9) rfl dX3_count_7 ?_
  refine lv_iload_n hx hb dX3_count_10 rfl (lv_at hl 1 rfl) ?_
  refine cRI_V (As := [.int x]) (rest := []) ⟨hx, hb, hml, hown, hts⟩ (c_X2_tellCount l D y an V x) (cwV 1 hts gX3_count_X2_tellCount rfl rfl rfl (by decide +kernel) ⟨Nat.le_of_ble_eq_true rfl, Nat.le_of_ble_eq_true rfl⟩) hK hN (P_l (P_r hP)) (va_recv hK hP (ci := 2) (q0 := (3 + 0)) rfl (ap_r (wf_len 3 _ _) (ap_l (wf_at (by decide) rfl)))) rfl hl.1 rfl (Nat.le_of_ble_eq_true rfl) dX3_count_11 ⟨Nat.le_of_ble_eq_true rfl, Nat.le_of_ble_eq_true rfl⟩ ?_
  subst hQ
  refine W.widen (k := 1) (n := 6) (Nat.le_of_ble_eq_true rfl) (Nat.le_of_ble_eq_true rfl) ?_
  exact vx_ret (W.iret (v := tcF V x) hx hb hr (fun t ht hW => ⟨⟨_, U, rfl, ⟨(by unfold coC; rw [if_neg hc_96]), rfl⟩, bp_at hK hN hP t ht hW⟩, hS.F ht⟩) hS.2.2 dX3_count_14)
abbrev rmX3_pass : Room := { frames := 7, cells := 1, slots := 6, locals := 144 }
set_option maxHeartbeats 4000000 in
set_option maxRecDepth 100000 in
/-- pass(h) -/
theorem c_X3_pass (l : Launch) (D : va_G) (y : Nat → ClassId) (sz : Nat) (hst : l.stackTraces = false) (ac an ar : Nat → Nat) (K V U : Nat → Nat → Int32) (h : Int32) (hO : paC h = 0 → ∀ i, i < ix h → okH K (lsV K V i)) : XI (S := Nat → Nat → Int32) l D y yX3_pass wsX3_pass rmX3_pass 1 6 [.ref (ac 0), .int h] (cmA y ac an ar K V U) sz (paC h) (lsC K V (ix h)) (fun u => cmA y ac an ar K (lsV K V (ix h)) u) := by
  refine mX (fun A => va_Qi (fun r9 (_ : Nat → Nat → Int32) => (paC h) = 0 ∧ r9 = (lsC K V (ix h))) (fun u t9 => Bp D y (cmA y ac an ar K (lsV K V (ix h)) u) t9) A) (fun A => vx_X (fun (_ : Unit) => ¬ (paC h) = 0) (fun E _ t9 => E = xnm (paC h) ∧ va_P D vwCl (cmA y ac an ar K V U) t9.heap) A) (C := RX3) (cc := cX3_pass) (maxL := 2) (ret := (some .int)) (by decide) rfl rfl (Nat.le_of_ble_eq_true rfl) ?_
  intro p e s m a below meth c ls A Q hQ hsz hx hb hr hts hown hlocks htab hml hP hK hN hE hX hD hA hS hl
  rw [cmA_fst] at hD
  have hl : lv_has ls 2 [(0, .ref (ac 0)), (1, .int h)] := hl
  refine lv_iload_n hx hb dX3_pass_0 rfl (lv_at hl 1 rfl) ?_
  refine lv_iconst (v := 1) hx hb dX3_pass_1 (by decide) ?_
  refine lv_bipush (v := 40) hx hb dX3_pass_2 (by decide) ?_
  refine cX_S (W0 := (cmW y ac (an 0) (ar 0) K ++ (rvW y an V ++ rvW y ar U))) (As := [.int h, .int 1, .int 40]) (rest := []) ⟨hx, hb, hml, hown, hts⟩ (c_X3_checkArgument l D y _ hst h 1 40) (va_cwS 3 hts gX3_pass_X3_checkArgument rfl rfl rfl (by decide +kernel) ⟨Nat.le_of_ble_eq_true rfl, Nat.le_of_ble_eq_true rfl⟩) hK hN hE hX hP hS hA rfl hl.1 rfl (Nat.le_of_ble_eq_true rfl) dX3_pass_4 ⟨Nat.le_of_ble_eq_true rfl, Nat.le_of_ble_eq_true rfl⟩ (fun hc_97 ce q9 H locs hP hS h91 h92 h93 => ?_) (fun hc_97 H locs hP hS => ?_)
  · subst hQ
    exact vx_out (fun x hx9 => (htab x hx9).elim) hlocks h91 h92 h93 (fun t ht hv9 => ⟨(), (by unfold paC; rw [if_pos hc_97]; decide), ⟨(by unfold paC; rw [if_pos hc_97]), by rw [ht]; exact hP⟩, hS.F ht⟩) hS.2.2 (Nat.le_of_ble_eq_true rfl) (Nat.le_of_ble_eq_true rfl)
  have hh : vp_in h 41 := nca (a := 1) (b := 40) (n := 41) hc_97 (by decide) (by decide)
  have eh : h = nI (ix h) := in_nI hh (by decide)
  have hO2 := hO (by unfold paC; rw [if_neg hc_97])
  refine lv_aload_n hx hb dX3_pass_7 rfl (lv_at hl 0 rfl) ?_
  refine lv_aload_n hx hb dX3_pass_8 rfl (lv_at hl 0 rfl) ?_
  have hin3 : ∀ w ∈ u_ws RX3 TX3 4, w ∈ wsX3_pass := by decide +kernel
  have hf19 := hts (.fieldLink RX3 19 "CoracleMakers" "now" "LCoracleMakers$River;") (by decide +kernel)
  refine va_get (D := D) (ci := 3) (v := .ref (an 0)) (C := RX3) (T := TX3) (N := 4) hx hb hts hin3 hown hK hP 0 (ap_l (wf_at (by decide) rfl)) rfl 2 (by decide) hf19 (fun _ h9 => h9) rfl dX3_pass_9 ?_
  refine lv_iload_n hx hb dX3_pass_12 rfl (lv_at hl 1 rfl) ?_
  refine W.eq (g2 := F0 m 13 ls (.int (nI (ix h)) :: .ref (an 0) :: .ref (ac 0) :: [])) (by rw [← eh]) ?_
  refine cWI_V (As := [.ref (an 0), .int (nI (ix h))]) (rest := []) ⟨hx, hb, hml, hown, hts⟩ (c_X3_letHoursPass l D y _ ac an (an 0) (ar 0) K V (ix h) (by have := in_ix hh; omega) hO2) (cwV 2 hts gX3_pass_X3_letHoursPass rfl rfl rfl (by decide +kernel) ⟨Nat.le_of_ble_eq_true rfl, Nat.le_of_ble_eq_true rfl⟩) hK hN (P_xw hP) (by rw [cm2_fst]; exact aD_xw hD) hS hA (va_recv hK hP (ci := 3) (q0 := 0) rfl (ap_l (wf_at (by decide) rfl))) rfl hl.1 rfl (Nat.le_of_ble_eq_true rfl) dX3_pass_13 ⟨Nat.le_of_ble_eq_true rfl, Nat.le_of_ble_eq_true rfl⟩ (fun H locs hP9 hk9 hS => ?_)
  have hP : va_P D vwCl (cmW y ac (an 0) (ar 0) K ++ (rvW y an (lsV K V (ix h)) ++ rvW y ar U)) H := fr_xw hP (by rw [cm_fst, rv_fst, rv_fst]; exact hD) (fun q h1 h2 => hk9 q h1 (by unfold aW; rw [List.map_append]; exact h2)) hP9
  subst hQ
  refine W.widen (k := 1) (n := 6) (Nat.le_of_ble_eq_true rfl) (Nat.le_of_ble_eq_true rfl) ?_
  exact vx_ret (W.iret (v := lsC K V (ix h)) hx hb hr (fun t ht hW => ⟨⟨_, U, rfl, ⟨(by unfold paC; rw [if_neg hc_97]), rfl⟩, bp_at hK hN hP t ht hW⟩, hS.F ht⟩) hS.2.2 dX3_pass_16)
