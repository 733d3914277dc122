/-! ===== CoracleMakers: the calls of the face ===== -/
theorem P_kept2 {D : va_G} {cl : List vw_C} {W0 : va_W} {H H1 : Heap} (hP : va_P D cl W0 H) (hk : ∀ q : Nat, q < H.size → H1[q]? = H[q]?) : va_P D cl W0 H1 := fun k q h => (hP k q h).kept (hk _ (hP k q h).lt)
theorem nci {a M : Int32} (h : ¬ ciP a M) {n : Nat} (hM : vp_in M (n + 1)) : vp_in a n := by
  have h1 : ¬ a < 0 := fun z => h (Or.inl z)
  have h2 : ¬ M ≤ a := fun z => h (Or.inr z)
  rw [Int32.lt_iff_toInt_lt] at h1
  rw [Int32.le_iff_toInt_le] at h2
  have h3 := vp_in_iff.mp hM
  refine vp_in_iff.mpr ⟨by simpa using h1, by omega⟩
theorem nci_l {a M : Int32} {n : Nat} (h : ¬ ciP a M) (hM : M.toInt = n) : vp_in a n := by
  have h1 : ¬ a < 0 := fun z => h (Or.inl z)
  have h2 : ¬ M ≤ a := fun z => h (Or.inr z)
  rw [Int32.lt_iff_toInt_lt] at h1
  rw [Int32.le_iff_toInt_le] at h2
  refine vp_in_iff.mpr ⟨by simpa using h1, by omega⟩
theorem nca {v a b : Int32} {n : Nat} (h : ¬ caP v a b) (ha : 0 ≤ a.toInt) (hb : b.toInt + 1 = n) : vp_in v n := by
  have h1 : ¬ v < a := fun z => h (Or.inl z)
  have h2 : ¬ b < v := fun z => h (Or.inr z)
  rw [Int32.lt_iff_toInt_lt] at h1 h2
  exact vp_in_iff.mpr ⟨by omega, by omega⟩
abbrev rmX3_checkIndex : Room := { frames := 6, cells := 1, slots := 6, locals := 90 }
set_option maxHeartbeats 4000000 in
set_option maxRecDepth 100000 in
/-- checkIndex -/
theorem c_X3_checkIndex (l : Launch) (D : va_G) (y : Nat → ClassId) (sz : Nat) (hst : l.stackTraces = false) (x0 x1 : Int32) : XV l D y yX3_checkIndex wsX3_checkIndex rmX3_checkIndex [.int x0, .int x1] sz (ciP x0 x1) 1 := by
  refine mX (fun A => va_Qv (fun (_ : Unit) => ¬ (ciP x0 x1)) (fun _ t9 => Bp D y [] t9) A) (fun A => vx_X (fun (_ : Unit) => ciP x0 x1) (fun E _ _ => E = xnm 1) A) (C := RX3) (cc := cX3_checkIndex) (maxL := 2) (ret := none) (by decide) rfl rfl (Nat.le_of_ble_eq_true rfl) ?_
  intro p e s m a below meth c ls A Q hQ hsz hx hb hr hts hown hlocks htab hml hP hK hN hE hX hD hA hS hl
  have hl : lv_has ls 2 [(0, .int x0), (1, .int x1)] := hl
  refine lv_iload_n hx hb dX3_checkIndex_0 rfl (lv_at hl 0 rfl) ?_
  refine lv_if_lt (tgt := 9) hx hb dX3_checkIndex_1 (by decide) (fun c_43 => ?_) (fun c_43 => ?_)
  · have hg9 : ∀ w ∈ (vx_at0 RX3 157 "java/lang/IndexOutOfBoundsException" ["java/lang/RuntimeException", "java/lang/Exception"]).filter goodWord, w ∈ wsX3_checkIndex := by decide +kernel
    have hB9 : ∀ w ∈ [Cond.declares (Bundle.init0 "java/lang/RuntimeException"), Cond.declares (Bundle.init0 "java/lang/Exception"), Cond.declares (Bundle.init0 "java/lang/Throwable"), Cond.castable "java/lang/IndexOutOfBoundsException" "java/lang/IndexOutOfBoundsException"], w.before a s = true := vx_c (va_Nw.use rfl (hE.1 _ (List.mem_of_getElem? (i := 0) rfl))) (vx_c (va_Nw.use rfl (hE.1 _ (List.mem_of_getElem? (i := 1) rfl))) (vx_c (va_Nw.use rfl (hE.1 _ (List.mem_of_getElem? (i := 2) rfl))) (vx_c (va_Nw.use rfl (hE.2.1 _ (List.mem_of_getElem? (i := 0) rfl))) vx_n)))
    subst hQ
    exact vx_throw0 (names := ["java/lang/RuntimeException", "java/lang/Exception"]) hx hb hst hown (by decide) (by decide) (hts (.classLink RX3 155 "java/lang/IndexOutOfBoundsException") (by decide +kernel)) (hts (.initialized "java/lang/IndexOutOfBoundsException") (by decide +kernel)) (vx_hat (fun w h => hts w (hg9 w h)) (by decide +kernel) hB9) (by decide +kernel) hX.1.1 hX.1.2 hS (hl.1.trans hml.symm) dX3_checkIndex_9 dX3_checkIndex_12 dX3_checkIndex_13 dX3_checkIndex_16 (fun x hx9 => (htab x hx9).elim) (by decide) (by decide) (Nat.le_of_ble_eq_true rfl) (Nat.le_of_ble_eq_true rfl) hlocks (fun t hv9 h91 h92 => ⟨(), (Or.inl c_43), rfl, F_of hS h91 h92⟩) hS.2.2 (Nat.le_of_ble_eq_true rfl) (Nat.le_of_ble_eq_true rfl)
  · refine lv_iload_n hx hb dX3_checkIndex_4 rfl (lv_at hl 0 rfl) ?_
    refine lv_iload_n hx hb dX3_checkIndex_5 rfl (lv_at hl 1 rfl) ?_
    refine lv_icmp_lt (tgt := 17) hx hb dX3_checkIndex_6 (by decide) (fun c_44 => ?_) (fun c_44 => ?_)
    · subst hQ
      refine W.widen (k := 1) (n := 6) (by decide) (by decide) ?_
      exact vx_ret (W.vret hx hb hr (fun t ht hW => ⟨⟨(), rfl, (fun z9 => z9.elim c_43 (fun z9 => absurd c_44 (Int32.not_lt.mpr z9))), bp_at hK hN hP t ht hW⟩, hS.F ht⟩) hS.2.2 dX3_checkIndex_17)
    · have hg9 : ∀ w ∈ (vx_at0 RX3 157 "java/lang/IndexOutOfBoundsException" ["java/lang/RuntimeException", "java/lang/Exception"]).filter goodWord, w ∈ wsX3_checkIndex := by decide +kernel
      have hB9 : ∀ w ∈ [Cond.declares (Bundle.init0 "java/lang/RuntimeException"), Cond.declares (Bundle.init0 "java/lang/Exception"), Cond.declares (Bundle.init0 "java/lang/Throwable"), Cond.castable "java/lang/IndexOutOfBoundsException" "java/lang/IndexOutOfBoundsException"], w.before a s = true := vx_c (va_Nw.use rfl (hE.1 _ (List.mem_of_getElem? (i := 0) rfl))) (vx_c (va_Nw.use rfl (hE.1 _ (List.mem_of_getElem? (i := 1) rfl))) (vx_c (va_Nw.use rfl (hE.1 _ (List.mem_of_getElem? (i := 2) rfl))) (vx_c (va_Nw.use rfl (hE.2.1 _ (List.mem_of_getElem? (i := 0) rfl))) vx_n)))
      subst hQ
      exact vx_throw0 (names := ["java/lang/RuntimeException", "java/lang/Exception"]) hx hb hst hown (by decide) (by decide) (hts (.classLink RX3 155 "java/lang/IndexOutOfBoundsException") (by decide +kernel)) (hts (.initialized "java/lang/IndexOutOfBoundsException") (by decide +kernel)) (vx_hat (fun w h => hts w (hg9 w h)) (by decide +kernel) hB9) (by decide +kernel) hX.1.1 hX.1.2 hS (hl.1.trans hml.symm) dX3_checkIndex_9 dX3_checkIndex_12 dX3_checkIndex_13 dX3_checkIndex_16 (fun x hx9 => (htab x hx9).elim) (by decide) (by decide) (Nat.le_of_ble_eq_true rfl) (Nat.le_of_ble_eq_true rfl) hlocks (fun t hv9 h91 h92 => ⟨(), (Or.inr (Int32.not_lt.mp c_44)), rfl, F_of hS h91 h92⟩) hS.2.2 (Nat.le_of_ble_eq_true rfl) (Nat.le_of_ble_eq_true rfl)
abbrev rmX3_checkArgument : Room := { frames := 6, cells := 1, slots := 6, locals := 90 }
set_option maxHeartbeats 4000000 in
set_option maxRecDepth 100000 in
/-- checkArgument -/
theorem c_X3_checkArgument (l : Launch) (D : va_G) (y : Nat → ClassId) (sz : Nat) (hst : l.stackTraces = false) (x0 x1 x2 : Int32) : XV l D y yX3_checkArgument wsX3_checkArgument rmX3_checkArgument [.int x0, .int x1, .int x2] sz (caP x0 x1 x2) 2 := by
  refine mX (fun A => va_Qv (fun (_ : Unit) => ¬ (caP x0 x1 x2)) (fun _ t9 => Bp D y [] t9) A) (fun A => vx_X (fun (_ : Unit) => caP x0 x1 x2) (fun E _ _ => E = xnm 2) A) (C := RX3) (cc := cX3_checkArgument) (maxL := 3) (ret := none) (by decide) rfl rfl (Nat.le_of_ble_eq_true rfl) ?_
  intro p e s m a below meth c ls A Q hQ hsz hx hb hr hts hown hlocks htab hml hP hK hN hE hX hD hA hS hl
  have hl : lv_has ls 3 [(0, .int x0), (1, .int x1), (2, .int x2)] := hl
  refine lv_iload_n hx hb dX3_checkArgument_0 rfl (lv_at hl 0 rfl) ?_
  refine lv_iload_n hx hb dX3_checkArgument_1 rfl (lv_at hl 1 rfl) ?_
  refine lv_icmp_lt (tgt := 10) hx hb dX3_checkArgument_2 (by decide) (fun c_45 => ?_) (fun c_45 => ?_)
  · have hg9 : ∀ w ∈ (vx_at0 RX3 57 "java/lang/IllegalArgumentException" ["java/lang/RuntimeException", "java/lang/Exception"]).filter goodWord, w ∈ wsX3_checkArgument := by decide +kernel
    have hB9 : ∀ w ∈ [Cond.declares (Bundle.init0 "java/lang/RuntimeException"), Cond.declares (Bundle.init0 "java/lang/Exception"), Cond.declares (Bundle.init0 "java/lang/Throwable"), Cond.castable "java/lang/IllegalArgumentException" "java/lang/IllegalArgumentException"], w.before a s = true := vx_c (va_Nw.use rfl (hE.1 _ (List.mem_of_getElem? (i := 0) rfl))) (vx_c (va_Nw.use rfl (hE.1 _ (List.mem_of_getElem? (i := 1) rfl))) (vx_c (va_Nw.use rfl (hE.1 _ (List.mem_of_getElem? (i := 2) rfl))) (vx_c (va_Nw.use rfl (hE.2.1 _ (List.mem_of_getElem? (i := 1) rfl))) vx_n)))
    subst hQ
    exact vx_throw0 (names := ["java/lang/RuntimeException", "java/lang/Exception"]) hx hb hst hown (by decide) (by decide) (hts (.classLink RX3 55 "java/lang/IllegalArgumentException") (by decide +kernel)) (hts (.initialized "java/lang/IllegalArgumentException") (by decide +kernel)) (vx_hat (fun w h => hts w (hg9 w h)) (by decide +kernel) hB9) (by decide +kernel) hX.1.1 hX.1.2 hS (hl.1.trans hml.symm) dX3_checkArgument_10 dX3_checkArgument_13 dX3_checkArgument_14 dX3_checkArgument_17 (fun x hx9 => (htab x hx9).elim) (by decide) (by decide) (Nat.le_of_ble_eq_true rfl) (Nat.le_of_ble_eq_true rfl) hlocks (fun t hv9 h91 h92 => ⟨(), (Or.inl c_45), rfl, F_of hS h91 h92⟩) hS.2.2 (Nat.le_of_ble_eq_true rfl) (Nat.le_of_ble_eq_true rfl)
  · refine lv_iload_n hx hb dX3_checkArgument_5 rfl (lv_at hl 0 rfl) ?_
    refine lv_iload_n hx hb dX3_checkArgument_6 rfl (lv_at hl 2 rfl) ?_
    refine lv_icmp_le (tgt := 18) hx hb dX3_checkArgument_7 (by decide) (fun c_46 => ?_) (fun c_46 => ?_)
    · subst hQ
      refine W.widen (k := 1) (n := 6) (by decide) (by decide) ?_
      exact vx_ret (W.vret hx hb hr (fun t ht hW => ⟨⟨(), rfl, (fun z9 => z9.elim c_45 (fun z9 => absurd c_46 (Int32.not_le.mpr z9))), bp_at hK hN hP t ht hW⟩, hS.F ht⟩) hS.2.2 dX3_checkArgument_18)
    · have hg9 : ∀ w ∈ (vx_at0 RX3 57 "java/lang/IllegalArgumentException" ["java/lang/RuntimeException", "java/lang/Exception"]).filter goodWord, w ∈ wsX3_checkArgument := by decide +kernel
      have hB9 : ∀ w ∈ [Cond.declares (Bundle.init0 "java/lang/RuntimeException"), Cond.declares (Bundle.init0 "java/lang/Exception"), Cond.declares (Bundle.init0 "java/lang/Throwable"), Cond.castable "java/lang/IllegalArgumentException" "java/lang/IllegalArgumentException"], w.before a s = true := vx_c (va_Nw.use rfl (hE.1 _ (List.mem_of_getElem? (i := 0) rfl))) (vx_c (va_Nw.use rfl (hE.1 _ (List.mem_of_getElem? (i := 1) rfl))) (vx_c (va_Nw.use rfl (hE.1 _ (List.mem_of_getElem? (i := 2) rfl))) (vx_c (va_Nw.use rfl (hE.2.1 _ (List.mem_of_getElem? (i := 1) rfl))) vx_n)))
      subst hQ
      exact vx_throw0 (names := ["java/lang/RuntimeException", "java/lang/Exception"]) hx hb hst hown (by decide) (by decide) (hts (.classLink RX3 55 "java/lang/IllegalArgumentException") (by decide +kernel)) (hts (.initialized "java/lang/IllegalArgumentException") (by decide +kernel)) (vx_hat (fun w h => hts w (hg9 w h)) (by decide +kernel) hB9) (by decide +kernel) hX.1.1 hX.1.2 hS (hl.1.trans hml.symm) dX3_checkArgument_10 dX3_checkArgument_13 dX3_checkArgument_14 dX3_checkArgument_17 (fun x hx9 => (htab x hx9).elim) (by decide) (by decide) (Nat.le_of_ble_eq_true rfl) (Nat.le_of_ble_eq_true rfl) hlocks (fun t hv9 h91 h92 => ⟨(), (Or.inr (Int32.not_le.mp c_46)), rfl, F_of hS h91 h92⟩) hS.2.2 (Nat.le_of_ble_eq_true rfl) (Nat.le_of_ble_eq_true rfl)
abbrev rmX3_checkState : Room := { frames := 6, cells := 1, slots := 6, locals := 90 }
set_option maxHeartbeats 4000000 in
set_option maxRecDepth 100000 in
/-- checkState -/
theorem c_X3_checkState (l : Launch) (D : va_G) (y : Nat → ClassId) (sz : Nat) (hst : l.stackTraces = false) (x0 : Int32) : XV l D y yX3_checkState wsX3_checkState rmX3_checkState [.int x0] sz (x0 = 0) 3 := by
  refine mX (fun A => va_Qv (fun (_ : Unit) => ¬ (x0 = 0)) (fun _ t9 => Bp D y [] t9) A) (fun A => vx_X (fun (_ : Unit) => x0 = 0) (fun E _ _ => E = xnm 3) A) (C := RX3) (cc := cX3_checkState) (maxL := 1) (ret := none) (by decide) rfl rfl (Nat.le_of_ble_eq_true rfl) ?_
  intro p e s m a below meth c ls A Q hQ hsz hx hb hr hts hown hlocks htab hml hP hK hN hE hX hD hA hS hl
  have hl : lv_has ls 1 [(0, .int x0)] := hl
  refine lv_iload_n hx hb dX3_checkState_0 rfl (lv_at hl 0 rfl) ?_
  refine lv_if_ne (tgt := 12) hx hb dX3_checkState_1 (by decide) (fun c_47 => ?_) (fun c_47 => ?_)
  · subst hQ
    refine W.widen (k := 1) (n := 6) (by decide) (by decide) ?_
    exact vx_ret (W.vret hx hb hr (fun t ht hW => ⟨⟨(), rfl, c_47, bp_at hK hN hP t ht hW⟩, hS.F ht⟩) hS.2.2 dX3_checkState_12)
  · have hg9 : ∀ w ∈ (vx_at0 RX3 160 "java/lang/IllegalStateException" ["java/lang/RuntimeException", "java/lang/Exception"]).filter goodWord, w ∈ wsX3_checkState := by decide +kernel
    have hB9 : ∀ w ∈ [Cond.declares (Bundle.init0 "java/lang/RuntimeException"), Cond.declares (Bundle.init0 "java/lang/Exception"), Cond.declares (Bundle.init0 "java/lang/Throwable"), Cond.castable "java/lang/IllegalStateException" "java/lang/IllegalStateException"], w.before a s = true := vx_c (va_Nw.use rfl (hE.1 _ (List.mem_of_getElem? (i := 0) rfl))) (vx_c (va_Nw.use rfl (hE.1 _ (List.mem_of_getElem? (i := 1) rfl))) (vx_c (va_Nw.use rfl (hE.1 _ (List.mem_of_getElem? (i := 2) rfl))) (vx_c (va_Nw.use rfl (hE.2.1 _ (List.mem_of_getElem? (i := 2) rfl))) vx_n)))
    subst hQ
    exact vx_throw0 (names := ["java/lang/RuntimeException", "java/lang/Exception"]) hx hb hst hown (by decide) (by decide) (hts (.classLink RX3 158 "java/lang/IllegalStateException") (by decide +kernel)) (hts (.initialized "java/lang/IllegalStateException") (by decide +kernel)) (vx_hat (fun w h => hts w (hg9 w h)) (by decide +kernel) hB9) (by decide +kernel) hX.1.1 hX.1.2 hS (hl.1.trans hml.symm) dX3_checkState_4 dX3_checkState_7 dX3_checkState_8 dX3_checkState_11 (fun x hx9 => (htab x hx9).elim) (by decide) (by decide) (Nat.le_of_ble_eq_true rfl) (Nat.le_of_ble_eq_true rfl) hlocks (fun t hv9 h91 h92 => ⟨(), c_47, rfl, F_of hS h91 h92⟩) hS.2.2 (Nat.le_of_ble_eq_true rfl) (Nat.le_of_ble_eq_true rfl)
def stC (h b M : Int32) : Nat := if ciP h 8 then 1 else if caP b 0 M then 2 else 0
abbrev rmX3_setDrift : Room := { frames := 7, cells := 2, slots := 12, locals := 112 }
set_option maxHeartbeats 4000000 in
set_option maxRecDepth 100000 in
/-- setDrift(h, b) -/
theorem c_X3_setDrift (l : Launch) (D : va_G) (y : Nat → ClassId) (sz : Nat) (hst : l.stackTraces = false) (ac an ar : Nat → Nat) (K V U : Nat → Nat → Int32) (h b : Int32) : XI (S := Nat → Nat → Int32) l D y yX3_setDrift wsX3_setDrift rmX3_setDrift 2 12 [.ref (ac 0), .int h, .int b] (cmA y ac an ar K V U) sz (stC h b 5) (K 1 (ix h)) (fun u => cmA y ac an ar (vU K 1 (ix h) b) V u) := by
  refine mX (fun A => va_Qi (fun r (_ : Nat → Nat → Int32) => (stC h b 5) = 0 ∧ r = (K 1 (ix h))) (fun u t9 => Bp D y (cmA y ac an ar (vU K 1 (ix h) b) V u) t9) A) (fun A => vx_X (fun (_ : Unit) => ¬ (stC h b 5) = 0) (fun E _ t9 => E = xnm (stC h b 5) ∧ va_P D vwCl (cmA y ac an ar K V U) t9.heap) A) (C := RX3) (cc := cX3_setDrift) (maxL := 4) (ret := (some .int)) (by decide) rfl rfl (Nat.le_of_ble_eq_true rfl) ?_
  intro p e s m a below meth c ls A Q hQ hsz hx hb hr hts hown hlocks htab hml hP hK hN hE hX hD hA hS hl
  rw [cmA_fst] at hD
  have hl : lv_has ls 4 [(0, .ref (ac 0)), (1, .int h), (2, .int b)] := hl
  refine lv_iload_n hx hb dX3_setDrift_0 rfl (lv_at hl 1 rfl) ?_
  refine lv_bipush (v := 8) hx hb dX3_setDrift_1 (by decide) ?_
  refine cX_S (W0 := (cmW y ac (an 0) (ar 0) K ++ (rvW y an V ++ rvW y ar U))) (As := [.int h, .int 8]) (rest := []) ⟨hx, hb, hml, hown, hts⟩ (c_X3_checkIndex l D y _ hst h 8) (va_cwS 2 hts gX3_setDrift_X3_checkIndex rfl rfl rfl (by decide +kernel) ⟨Nat.le_of_ble_eq_true rfl, Nat.le_of_ble_eq_true rfl⟩) hK hN hE hX hP hS hA rfl hl.1 rfl (Nat.le_of_ble_eq_true rfl) dX3_setDrift_3 ⟨Nat.le_of_ble_eq_true rfl, Nat.le_of_ble_eq_true rfl⟩ (fun hc_48 ce q9 H locs hP hS h91 h92 h93 => ?_) (fun hc_48 H locs hP hS => ?_)
  · subst hQ
    exact vx_out (fun x hx9 => (htab x hx9).elim) hlocks h91 h92 h93 (fun t ht hv9 => ⟨(), (by unfold stC; rw [if_pos hc_48]; decide), ⟨(by unfold stC; rw [if_pos hc_48]), by rw [ht]; exact hP⟩, hS.F ht⟩) hS.2.2 (Nat.le_of_ble_eq_true rfl) (Nat.le_of_ble_eq_true rfl)
  refine lv_iload_n hx hb dX3_setDrift_6 rfl (lv_at hl 2 rfl) ?_
  refine lv_iconst (v := 0) hx hb dX3_setDrift_7 (by decide) ?_
  refine lv_iconst (v := 5) hx hb dX3_setDrift_8 (by decide) ?_
  refine cX_S (W0 := (cmW y ac (an 0) (ar 0) K ++ (rvW y an V ++ rvW y ar U))) (As := [.int b, .int 0, .int 5]) (rest := []) ⟨hx, hb, hml, hown, hts⟩ (c_X3_checkArgument l D y _ hst b 0 5) (va_cwS 3 hts gX3_setDrift_X3_checkArgument rfl rfl rfl (by decide +kernel) ⟨Nat.le_of_ble_eq_true rfl, Nat.le_of_ble_eq_true rfl⟩) hK hN hE hX hP hS hA rfl hl.1 rfl (Nat.le_of_ble_eq_true rfl) dX3_setDrift_9 ⟨Nat.le_of_ble_eq_true rfl, Nat.le_of_ble_eq_true rfl⟩ (fun hc_49 ce q9 H locs hP hS h91 h92 h93 => ?_) (fun hc_49 H locs hP hS => ?_)
  · subst hQ
    exact vx_out (fun x hx9 => (htab x hx9).elim) hlocks h91 h92 h93 (fun t ht hv9 => ⟨(), (by unfold stC; rw [if_neg hc_48, if_pos hc_49]; decide), ⟨(by unfold stC; rw [if_neg hc_48, if_pos hc_49]), by rw [ht]; exact hP⟩, hS.F ht⟩) hS.2.2 (Nat.le_of_ble_eq_true rfl) (Nat.le_of_ble_eq_true rfl)
  refine lv_aload_n hx hb dX3_setDrift_12 rfl (lv_at hl 0 rfl) ?_
  have hin3 : ∀ w ∈ u_ws RX3 TX3 4, w ∈ wsX3_setDrift := by decide +kernel
  have hf9 := hts (.fieldLink RX3 9 "CoracleMakers" "drifts" "[I") (by decide +kernel)
  refine va_get (D := D) (ci := 3) (v := .ref (ac 1)) (C := RX3) (T := TX3) (N := 4) hx hb hts hin3 hown hK hP 0 (ap_l (wf_at (by decide) rfl)) rfl 0 (by decide) hf9 (fun _ h9 => h9) rfl dX3_setDrift_13 ?_
  refine lv_iload_n hx hb dX3_setDrift_16 rfl (lv_at hl 1 rfl) ?_
  refine va_iald hx hb hK hP 1 0 (ap_l (wf_at (by decide) rfl)) rfl (nci_l hc_48 rfl) dX3_setDrift_17 ?_
  refine lv_istore_n (lv' := [(3, .int (K 1 (ix h))), (0, .ref (ac 0)), (1, .int h), (2, .int b)]) hx hb dX3_setDrift_18 rfl hl (by decide) rfl (fun ls hl => ?_)
  refine lv_aload_n hx hb dX3_setDrift_19 rfl (lv_at hl 1 rfl) ?_
  refine va_get (D := D) (ci := 3) (v := .ref (ac 1)) (C := RX3) (T := TX3) (N := 4) hx hb hts hin3 hown hK hP 0 (ap_l (wf_at (by decide) rfl)) rfl 0 (by decide) hf9 (fun _ h9 => h9) rfl dX3_setDrift_20 ?_
  refine lv_iload_n hx hb dX3_setDrift_23 rfl (lv_at hl 2 rfl) ?_
  refine lv_iload_n hx hb dX3_setDrift_24 rfl (lv_at hl 3 rfl) ?_
  obtain ⟨K30, hK30⟩ : ∃ z, z = va_up K 1 (upd (K 1) (ix h) b) := ⟨_, rfl⟩
  refine va_iast hx hb hK hP (aD_D hD (show List.map Prod.fst (cmW y ac (an 0) (ar 0) K ++ (rvW y an V ++ rvW y ar U)) = _ from by rw [List.map_append, List.map_append, cm_fst y ac _ _ _, rv_fst y an _, rv_fst y ar _])) hS 1 0 (ap_l (wf_at (by decide) rfl)) rfl (nci_l hc_48 rfl) dX3_setDrift_25 (fun H locs hP _ hS => ?_)
  have hP : va_P D vwCl (cmW y ac (an 0) (ar 0) K30 ++ (rvW y an V ++ rvW y ar U)) H := (by rw [hK30]; exact P_eq (ap_set_l (show 1 < (wf _ _ _).length by rw [wf_len]; omega) (cm_set (k := 1) (upd (K 1) (ix h) b) (by decide) rfl)) hP)
  refine lv_iload_n hx hb dX3_setDrift_26 rfl (lv_at hl 0 rfl) ?_
  have hP : va_P D vwCl (cmA y ac an ar (vU K 1 (ix h) b) V U) H := (by subst hK30; exact hP)
  subst hQ
  refine W.widen (k := 2) (n := 12) (Nat.le_of_ble_eq_true rfl) (Nat.le_of_ble_eq_true rfl) ?_
  exact vx_ret (W.iret (v := K 1 (ix h)) hx hb hr (fun t ht hW => ⟨⟨_, U, rfl, ⟨(by unfold stC; rw [if_neg hc_48, if_neg hc_49]), rfl⟩, bp_at hK hN hP t ht hW⟩, hS.F ht⟩) hS.2.2 dX3_setDrift_27)
abbrev rmX3_setRun : Room := { frames := 7, cells := 2, slots := 12, locals := 112 }
set_option maxHeartbeats 4000000 in
set_option maxRecDepth 100000 in
/-- setRun(h, b) -/
theorem c_X3_setRun (l : Launch) (D : va_G) (y : Nat → ClassId) (sz : Nat) (hst : l.stackTraces = false) (ac an ar : Nat → Nat) (K V U : Nat → Nat → Int32) (h b : Int32) : XI (S := Nat → Nat → Int32) l D y yX3_setRun wsX3_setRun rmX3_setRun 2 12 [.ref (ac 0), .int h, .int b] (cmA y ac an ar K V U) sz (stC h b 9) (K 2 (ix h)) (fun u => cmA y ac an ar (vU K 2 (ix h) b) V u) := by
  refine mX (fun A => va_Qi (fun r (_ : Nat → Nat → Int32) => (stC h b 9) = 0 ∧ r = (K 2 (ix h))) (fun u t9 => Bp D y (cmA y ac an ar (vU K 2 (ix h) b) V u) t9) A) (fun A => vx_X (fun (_ : Unit) => ¬ (stC h b 9) = 0) (fun E _ t9 => E = xnm (stC h b 9) ∧ va_P D vwCl (cmA y ac an ar K V U) t9.heap) A) (C := RX3) (cc := cX3_setRun) (maxL := 4) (ret := (some .int)) (by decide) rfl rfl (Nat.le_of_ble_eq_true rfl) ?_
  intro p e s m a below meth c ls A Q hQ hsz hx hb hr hts hown hlocks htab hml hP hK hN hE hX hD hA hS hl
  rw [cmA_fst] at hD
  have hl : lv_has ls 4 [(0, .ref (ac 0)), (1, .int h), (2, .int b)] := hl
  refine lv_iload_n hx hb dX3_setRun_0 rfl (lv_at hl 1 rfl) ?_
  refine lv_bipush (v := 8) hx hb dX3_setRun_1 (by decide) ?_
  refine cX_S (W0 := (cmW y ac (an 0) (ar 0) K ++ (rvW y an V ++ rvW y ar U))) (As := [.int h, .int 8]) (rest := []) ⟨hx, hb, hml, hown, hts⟩ (c_X3_checkIndex l D y _ hst h 8) (va_cwS 2 hts gX3_setRun_X3_checkIndex rfl rfl rfl (by decide +kernel) ⟨Nat.le_of_ble_eq_true rfl, Nat.le_of_ble_eq_true rfl⟩) hK hN hE hX hP hS hA rfl hl.1 rfl (Nat.le_of_ble_eq_true rfl) dX3_setRun_3 ⟨Nat.le_of_ble_eq_true rfl, Nat.le_of_ble_eq_true rfl⟩ (fun hc_50 ce q9 H locs hP hS h91 h92 h93 => ?_) (fun hc_50 H locs hP hS => ?_)
  · subst hQ
    exact vx_out (fun x hx9 => (htab x hx9).elim) hlocks h91 h92 h93 (fun t ht hv9 => ⟨(), (by unfold stC; rw [if_pos hc_50]; decide), ⟨(by unfold stC; rw [if_pos hc_50]), by rw [ht]; exact hP⟩, hS.F ht⟩) hS.2.2 (Nat.le_of_ble_eq_true rfl) (Nat.le_of_ble_eq_true rfl)
  refine lv_iload_n hx hb dX3_setRun_6 rfl (lv_at hl 2 rfl) ?_
  refine lv_iconst (v := 0) hx hb dX3_setRun_7 (by decide) ?_
  refine lv_bipush (v := 9) hx hb dX3_setRun_8 (by decide) ?_
  refine cX_S (W0 := (cmW y ac (an 0) (ar 0) K ++ (rvW y an V ++ rvW y ar U))) (As := [.int b, .int 0, .int 9]) (rest := []) ⟨hx, hb, hml, hown, hts⟩ (c_X3_checkArgument l D y _ hst b 0 9) (va_cwS 3 hts gX3_setRun_X3_checkArgument rfl rfl rfl (by decide +kernel) ⟨Nat.le_of_ble_eq_true rfl, Nat.le_of_ble_eq_true rfl⟩) hK hN hE hX hP hS hA rfl hl.1 rfl (Nat.le_of_ble_eq_true rfl) dX3_setRun_10 ⟨Nat.le_of_ble_eq_true rfl, Nat.le_of_ble_eq_true rfl⟩ (fun hc_51 ce q9 H locs hP hS h91 h92 h93 => ?_) (fun hc_51 H locs hP hS => ?_)
  · subst hQ
    exact vx_out (fun x hx9 => (htab x hx9).elim) hlocks h91 h92 h93 (fun t ht hv9 => ⟨(), (by unfold stC; rw [if_neg hc_50, if_pos hc_51]; decide), ⟨(by unfold stC; rw [if_neg hc_50, if_pos hc_51]), by rw [ht]; exact hP⟩, hS.F ht⟩) hS.2.2 (Nat.le_of_ble_eq_true rfl) (Nat.le_of_ble_eq_true rfl)
  refine lv_aload_n hx hb dX3_setRun_13 rfl (lv_at hl 0 rfl) ?_
  have hin3 : ∀ w ∈ u_ws RX3 TX3 4, w ∈ wsX3_setRun := by decide +kernel
  have hf13 := hts (.fieldLink RX3 13 "CoracleMakers" "runs" "[I") (by decide +kernel)
  refine va_get (D := D) (ci := 3) (v := .ref (ac 2)) (C := RX3) (T := TX3) (N := 4) hx hb hts hin3 hown hK hP 0 (ap_l (wf_at (by decide) rfl)) rfl 1 (by decide) hf13 (fun _ h9 => h9) rfl dX3_setRun_14 ?_
  refine lv_iload_n hx hb dX3_setRun_17 rfl (lv_at hl 1 rfl) ?_
  refine va_iald hx hb hK hP 2 0 (ap_l (wf_at (by decide) rfl)) rfl (nci_l hc_50 rfl) dX3_setRun_18 ?_
  refine lv_istore_n (lv' := [(3, .int (K 2 (ix h))), (0, .ref (ac 0)), (1, .int h), (2, .int b)]) hx hb dX3_setRun_19 rfl hl (by decide) rfl (fun ls hl => ?_)
  refine lv_aload_n hx hb dX3_setRun_20 rfl (lv_at hl 1 rfl) ?_
  refine va_get (D := D) (ci := 3) (v := .ref (ac 2)) (C := RX3) (T := TX3) (N := 4) hx hb hts hin3 hown hK hP 0 (ap_l (wf_at (by decide) rfl)) rfl 1 (by decide) hf13 (fun _ h9 => h9) rfl dX3_setRun_21 ?_
  refine lv_iload_n hx hb dX3_setRun_24 rfl (lv_at hl 2 rfl) ?_
  refine lv_iload_n hx hb dX3_setRun_25 rfl (lv_at hl 3 rfl) ?_
  obtain ⟨K31, hK31⟩ : ∃ z, z = va_up K 2 (upd (K 2) (ix h) b) := ⟨_, rfl⟩
  refine va_iast hx hb hK hP (aD_D hD (show List.map Prod.fst (cmW y ac (an 0) (ar 0) K ++ (rvW y an V ++ rvW y ar U)) = _ from by rw [List.map_append, List.map_append, cm_fst y ac _ _ _, rv_fst y an _, rv_fst y ar _])) hS 2 0 (ap_l (wf_at (by decide) rfl)) rfl (nci_l hc_50 rfl) dX3_setRun_26 (fun H locs hP _ hS => ?_)
  have hP : va_P D vwCl (cmW y ac (an 0) (ar 0) K31 ++ (rvW y an V ++ rvW y ar U)) H := (by rw [hK31]; exact P_eq (ap_set_l (show 2 < (wf _ _ _).length by rw [wf_len]; omega) (cm_set (k := 2) (upd (K 2) (ix h) b) (by decide) rfl)) hP)
  refine lv_iload_n hx hb dX3_setRun_27 rfl (lv_at hl 0 rfl) ?_
  have hP : va_P D vwCl (cmA y ac an ar (vU K 2 (ix h) b) V U) H := (by subst hK31; exact hP)
  subst hQ
  refine W.widen (k := 2) (n := 12) (Nat.le_of_ble_eq_true rfl) (Nat.le_of_ble_eq_true rfl) ?_
  exact vx_ret (W.iret (v := K 2 (ix h)) hx hb hr (fun t ht hW => ⟨⟨_, U, rfl, ⟨(by unfold stC; rw [if_neg hc_50, if_neg hc_51]), rfl⟩, bp_at hK hN hP t ht hW⟩, hS.F ht⟩) hS.2.2 dX3_setRun_28)
