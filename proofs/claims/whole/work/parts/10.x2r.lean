/-! ===== River: reads ===== -/
theorem ge0_in {x : Int32} {n : Nat} (h : vp_in x n) : ¬ x < 0 := in_lt h
theorem lt_in {x : Int32} {n : Nat} (h : vp_in x n) {N : Int32} (hN : N.toInt = n) : ¬ N ≤ x := by
  have h1 := vp_in_iff.mp h
  intro z
  have h2 := Int32.le_iff_toInt_le.mp z
  omega
/-- what holds of a River's value wherever it goes by: reaches are reaches, booleans are booleans, nets' coracles are coracles -/
def rvI (V : Nat → Nat → Int32) : Prop := (∀ k, k < 6 → vp_in (V (k + 5) 3) 16 ∧ isB (V (k + 5) 8)) ∧ ∀ n, n < 3 → vp_in (V (n + 11) 0) 6 ∧ vp_in (V (n + 11) 1) 6
/-- the places of a net's coracles -/
abbrev nA (V : Nat → Nat → Int32) (n : Nat) : Nat := ix (V (n + 11) 0)
abbrev nB (V : Nat → Nat → Int32) (n : Nat) : Nat := ix (V (n + 11) 1)
def tgF (V : Nat → Nat → Int32) (n : Nat) : Int32 := if V (nA V n + 5) 8 = 0 then 0 else if atF (V (nB V n + 5)) (V (nA V n + 5) 3) = 0 then 0 else 1
def wcF (V : Nat → Nat → Int32) (n : Nat) : Int32 := if ¬ tgF V n = 0 then mn (V 3 (ix (V (nA V n + 5) 3))) (mn (2 + mn (V (nA V n + 5) 2) (V (nB V n + 5) 2)) ((V (nA V n + 5) 0 - V (nA V n + 5) 7) + (V (nB V n + 5) 0 - V (nB V n + 5) 7))) else 0
abbrev rmX2_coracleOf : Room := { frames := 0, cells := 0, slots := 0, locals := 0 }
set_option maxHeartbeats 4000000 in
set_option maxRecDepth 100000 in
/-- coracleOf(x) -/
theorem c_X2_coracleOf (l : Launch) (D : va_G) (y : Nat → ClassId) (ad : Nat → Nat) (V : Nat → Nat → Int32) (x : Int32) (hx0 : vp_in x 6) : RdR l D y yX2_coracleOf wsX2_coracleOf rmX2_coracleOf [.ref (ad 0), .int x] (rvW y ad V) (ad (ix x + 5)) := by
  refine mR (C := RX2) (cc := cX2_coracleOf) (maxL := 2) (ret := (some (.object "CoracleMakers$Coracle"))) (by decide) rfl rfl (Nat.le_of_ble_eq_true rfl) ?_
  intro p e s m a below meth c ls Q hQ hx hb hr hts hown hlocks hml hP hK hN hl
  have hl : lv_has ls 2 [(0, .ref (ad 0)), (1, .int x)] := hl
  refine lv_iload_n hx hb dX2_coracleOf_0 rfl (lv_at hl 1 rfl) ?_
  refine lv_if_lt (tgt := 19) hx hb dX2_coracleOf_1 (by decide) (fun c9 => absurd c9 (in_lt hx0)) (fun _ => ?_)
  refine lv_iload_n hx hb dX2_coracleOf_4 rfl (lv_at hl 1 rfl) ?_
  refine lv_bipush (v := 6) hx hb dX2_coracleOf_5 (by decide) ?_
  refine lv_icmp_ge (tgt := 19) hx hb dX2_coracleOf_7 (by decide) (fun c9 => absurd c9 (lt_in hx0 rfl)) (fun _ => ?_)
  refine lv_aload_n hx hb dX2_coracleOf_10 rfl (lv_at hl 0 rfl) ?_
  have hin2 : ∀ w ∈ u_ws RX2 TX2 10, w ∈ wsX2_coracleOf := by decide +kernel
  have hf11 := hts (.fieldLink RX2 11 "CoracleMakers$River" "coracles" "[LCoracleMakers$Coracle;") (by decide +kernel)
  refine va_get (D := D) (ci := 2) (v := .ref (ad 1)) (C := RX2) (T := TX2) (N := 10) hx hb hts hin2 hown hK hP 0 (wf_at (by decide) rfl) rfl 0 (by decide) hf11 (fun _ h9 => h9) rfl dX2_coracleOf_11 ?_
  refine lv_iload_n hx hb dX2_coracleOf_14 rfl (lv_at hl 1 rfl) ?_
  refine va_aldq hx hb hK hP 1 3 (wf_at (by decide) rfl) rfl hx0 dX2_coracleOf_15 ?_
  refine W.eq (g2 := F0 m 16 ls (.ref (ad ((ix x) + 5)) :: [])) rfl ?_
  refine lv_goto (tgt := 25) hx hb dX2_coracleOf_16 (by decide) ?_
  subst hQ
  exact W.aret (v := .ref (ad (ix x + 5))) hx hb hr (Or.inl ⟨_, rfl⟩) (Or.inr ⟨_, rfl⟩) (fun t ht hW => ⟨_, rfl, rfl, ht⟩) (fun _ h => by cases h) dX2_coracleOf_25
abbrev rmX2_netOf : Room := { frames := 0, cells := 0, slots := 0, locals := 0 }
set_option maxHeartbeats 4000000 in
set_option maxRecDepth 100000 in
/-- netOf(x) -/
theorem c_X2_netOf (l : Launch) (D : va_G) (y : Nat → ClassId) (ad : Nat → Nat) (V : Nat → Nat → Int32) (x : Int32) (hx0 : vp_in x 3) : RdR l D y yX2_netOf wsX2_netOf rmX2_netOf [.ref (ad 0), .int x] (rvW y ad V) (ad (ix x + 11)) := by
  refine mR (C := RX2) (cc := cX2_netOf) (maxL := 2) (ret := (some (.object "CoracleMakers$Net"))) (by decide) rfl rfl (Nat.le_of_ble_eq_true rfl) ?_
  intro p e s m a below meth c ls Q hQ hx hb hr hts hown hlocks hml hP hK hN hl
  have hl : lv_has ls 2 [(0, .ref (ad 0)), (1, .int x)] := hl
  refine lv_iload_n hx hb dX2_netOf_0 rfl (lv_at hl 1 rfl) ?_
  refine lv_if_lt (tgt := 18) hx hb dX2_netOf_1 (by decide) (fun c9 => absurd c9 (in_lt hx0)) (fun _ => ?_)
  refine lv_iload_n hx hb dX2_netOf_4 rfl (lv_at hl 1 rfl) ?_
  refine lv_iconst (v := 3) hx hb dX2_netOf_5 (by decide) ?_
  refine lv_icmp_ge (tgt := 18) hx hb dX2_netOf_6 (by decide) (fun c9 => absurd c9 (lt_in hx0 rfl)) (fun _ => ?_)
  refine lv_aload_n hx hb dX2_netOf_9 rfl (lv_at hl 0 rfl) ?_
  have hin2 : ∀ w ∈ u_ws RX2 TX2 10, w ∈ wsX2_netOf := by decide +kernel
  have hf19 := hts (.fieldLink RX2 19 "CoracleMakers$River" "nets" "[LCoracleMakers$Net;") (by decide +kernel)
  refine va_get (D := D) (ci := 2) (v := .ref (ad 2)) (C := RX2) (T := TX2) (N := 10) hx hb hts hin2 hown hK hP 0 (wf_at (by decide) rfl) rfl 1 (by decide) hf19 (fun _ h9 => h9) rfl dX2_netOf_10 ?_
  refine lv_iload_n hx hb dX2_netOf_13 rfl (lv_at hl 1 rfl) ?_
  refine va_aldq hx hb hK hP 2 4 (wf_at (by decide) rfl) rfl hx0 dX2_netOf_14 ?_
  refine W.eq (g2 := F0 m 15 ls (.ref (ad ((ix x) + 11)) :: [])) rfl ?_
  refine lv_goto (tgt := 24) hx hb dX2_netOf_15 (by decide) ?_
  subst hQ
  exact W.aret (v := .ref (ad (ix x + 11))) hx hb hr (Or.inl ⟨_, rfl⟩) (Or.inr ⟨_, rfl⟩) (fun t ht hW => ⟨_, rfl, rfl, ht⟩) (fun _ h => by cases h) dX2_netOf_24
abbrev rmX2_salmonAt : Room := { frames := 0, cells := 0, slots := 0, locals := 0 }
set_option maxHeartbeats 4000000 in
set_option maxRecDepth 100000 in
/-- salmonAt(x) -/
theorem c_X2_salmonAt (l : Launch) (D : va_G) (y : Nat → ClassId) (ad : Nat → Nat) (V : Nat → Nat → Int32) (x : Int32) (hx0 : vp_in x 16) : RdI l D y yX2_salmonAt wsX2_salmonAt rmX2_salmonAt [.ref (ad 0), .int x] (rvW y ad V) (V 3 (ix x)) := by
  refine mR (C := RX2) (cc := cX2_salmonAt) (maxL := 2) (ret := (some .int)) (by decide) rfl rfl (Nat.le_of_ble_eq_true rfl) ?_
  intro p e s m a below meth c ls Q hQ hx hb hr hts hown hlocks hml hP hK hN hl
  have hl : lv_has ls 2 [(0, .ref (ad 0)), (1, .int x)] := hl
  refine lv_iload_n hx hb dX2_salmonAt_0 rfl (lv_at hl 1 rfl) ?_
  refine lv_if_lt (tgt := 19) hx hb dX2_salmonAt_1 (by decide) (fun c9 => absurd c9 (in_lt hx0)) (fun _ => ?_)
  refine lv_iload_n hx hb dX2_salmonAt_4 rfl (lv_at hl 1 rfl) ?_
  refine lv_bipush (v := 16) hx hb dX2_salmonAt_5 (by decide) ?_
  refine lv_icmp_ge (tgt := 19) hx hb dX2_salmonAt_7 (by decide) (fun c9 => absurd c9 (lt_in hx0 rfl)) (fun _ => ?_)
  refine lv_aload_n hx hb dX2_salmonAt_10 rfl (lv_at hl 0 rfl) ?_
  have hin2 : ∀ w ∈ u_ws RX2 TX2 10, w ∈ wsX2_salmonAt := by decide +kernel
  have hf23 := hts (.fieldLink RX2 23 "CoracleMakers$River" "salmon" "[I") (by decide +kernel)
  refine va_get (D := D) (ci := 2) (v := .ref (ad 3)) (C := RX2) (T := TX2) (N := 10) hx hb hts hin2 hown hK hP 0 (wf_at (by decide) rfl) rfl 2 (by decide) hf23 (fun _ h9 => h9) rfl dX2_salmonAt_11 ?_
  refine lv_iload_n hx hb dX2_salmonAt_14 rfl (lv_at hl 1 rfl) ?_
  refine va_iald hx hb hK hP 3 0 (wf_at (by decide) rfl) rfl hx0 dX2_salmonAt_15 ?_
  refine lv_goto (tgt := 20) hx hb dX2_salmonAt_16 (by decide) ?_
  subst hQ
  exact W.iret (v := V 3 (ix x)) hx hb hr (fun t ht hW => ⟨_, rfl, rfl, ht⟩) (fun _ h => by cases h) dX2_salmonAt_20
abbrev rmX2_isTogether : Room := { frames := 1, cells := 0, slots := 0, locals := 21 }
set_option maxHeartbeats 4000000 in
set_option maxRecDepth 100000 in
/-- isTogether(net) -/
theorem c_X2_isTogether (l : Launch) (D : va_G) (y : Nat → ClassId) (ad : Nat → Nat) (V : Nat → Nat → Int32) (n : Nat) (hn : n < 3) (hI : rvI V) : RdI l D y yX2_isTogether wsX2_isTogether rmX2_isTogether [.ref (ad 0), .ref (ad (n + 11))] (rvW y ad V) (tgF V n) := by
  refine mR (C := RX2) (cc := cX2_isTogether) (maxL := 4) (ret := (some .boolean)) (by decide) rfl rfl (Nat.le_of_ble_eq_true rfl) ?_
  intro p e s m a below meth c ls Q hQ hx hb hr hts hown hlocks hml hP hK hN hl
  have hl : lv_has ls 4 [(0, .ref (ad 0)), (1, .ref (ad (n + 11)))] := hl
  have hA6 : nA V n < 6 := in_ix (hI.2 n hn).1
  have hB6 : nB V n < 6 := in_ix (hI.2 n hn).2
  refine lv_aload_n hx hb dX2_isTogether_0 rfl (lv_at hl 0 rfl) ?_
  refine lv_aload_n hx hb dX2_isTogether_1 rfl (lv_at hl 1 rfl) ?_
  have hin1 : ∀ w ∈ u_ws RX1 TX1 3, w ∈ wsX2_isTogether := by decide +kernel
  have hf76 := hts (.fieldLink RX2 76 "CoracleMakers$Net" "first" "I") (by decide +kernel)
  refine va_get (D := D) (ci := 1) (v := .int (V (n + 11) 0)) (C := RX1) (T := TX1) (N := 3) hx hb hts hin1 hown hK hP (n + 11) (rv_ne y ad V hn) rfl 0 (by decide) hf76 (fun _ h9 => h9) rfl dX2_isTogether_2 ?_
  refine cRR_V (As := [.int (V (n + 11) 0)]) (rest := []) ⟨hx, hb, hml, hown, hts⟩ (c_X2_coracleOf l D y ad V (V (n + 11) 0) (hI.2 n hn).1) (cwV 1 hts gX2_isTogether_X2_coracleOf rfl rfl rfl (by decide +kernel) ⟨Nat.le_of_ble_eq_true rfl, Nat.le_of_ble_eq_true rfl⟩) hK hN hP (va_recv hK hP (ci := 2) (q0 := 0) rfl (wf_at (by decide) rfl)) rfl hl.1 rfl (Nat.le_of_ble_eq_true rfl) dX2_isTogether_5 ⟨Nat.le_of_ble_eq_true rfl, Nat.le_of_ble_eq_true rfl⟩ ?_
  refine lv_astore_n (lv' := [(2, .ref (ad (nA V n + 5))), (0, .ref (ad 0)), (1, .ref (ad (n + 11)))]) hx hb dX2_isTogether_8 rfl hl (by decide) rfl (fun ls hl => ?_)
  refine lv_aload_n hx hb dX2_isTogether_9 rfl (lv_at hl 1 rfl) ?_
  refine lv_aload_n hx hb dX2_isTogether_10 rfl (lv_at hl 2 rfl) ?_
  have hf79 := hts (.fieldLink RX2 79 "CoracleMakers$Net" "second" "I") (by decide +kernel)
  refine va_get (D := D) (ci := 1) (v := .int (V (n + 11) 1)) (C := RX1) (T := TX1) (N := 3) hx hb hts hin1 hown hK hP (n + 11) (rv_ne y ad V hn) rfl 1 (by decide) hf79 (fun _ h9 => h9) rfl dX2_isTogether_11 ?_
  refine cRR_V (As := [.int (V (n + 11) 1)]) (rest := []) ⟨hx, hb, hml, hown, hts⟩ (c_X2_coracleOf l D y ad V (V (n + 11) 1) (hI.2 n hn).2) (cwV 1 hts gX2_isTogether_X2_coracleOf rfl rfl rfl (by decide +kernel) ⟨Nat.le_of_ble_eq_true rfl, Nat.le_of_ble_eq_true rfl⟩) hK hN hP (va_recv hK hP (ci := 2) (q0 := 0) rfl (wf_at (by decide) rfl)) rfl hl.1 rfl (Nat.le_of_ble_eq_true rfl) dX2_isTogether_14 ⟨Nat.le_of_ble_eq_true rfl, Nat.le_of_ble_eq_true rfl⟩ ?_
  refine lv_astore_n (lv' := [(3, .ref (ad (nB V n + 5))), (2, .ref (ad (nA V n + 5))), (0, .ref (ad 0)), (1, .ref (ad (n + 11)))]) hx hb dX2_isTogether_17 rfl hl (by decide) rfl (fun ls hl => ?_)
  refine lv_aload_n hx hb dX2_isTogether_18 rfl (lv_at hl 1 rfl) ?_
  have hin0 : ∀ w ∈ u_ws RX0 TX0 10, w ∈ wsX2_isTogether := by decide +kernel
  have hf108 := hts (.fieldLink RX2 108 "CoracleMakers$Coracle" "afloat" "Z") (by decide +kernel)
  refine va_get (D := D) (ci := 0) (v := .int (V (nA V n + 5) 8)) (C := RX0) (T := TX0) (N := 10) hx hb hts hin0 hown hK hP (nA V n + 5) (rv_co y ad V hA6) rfl 8 (by decide) hf108 (fun _ h9 => h9) rfl dX2_isTogether_19 ?_
  refine lv_if_eq (tgt := 40) hx hb dX2_isTogether_22 (by decide) (fun c_17 => ?_) (fun c_17 => ?_)
  · refine lv_iconst (v := 0) hx hb dX2_isTogether_40 (by decide) ?_
    subst hQ
    exact W.zret (v := 0) hx hb hr rfl (fun t ht hW => ⟨_, rfl, (by simp [tgF, c_17]), ht⟩) (fun _ h => by cases h) dX2_isTogether_41
  · refine lv_aload_n hx hb dX2_isTogether_25 rfl (lv_at hl 0 rfl) ?_
    refine lv_aload_n hx hb dX2_isTogether_26 rfl (lv_at hl 1 rfl) ?_
    have hf125 := hts (.fieldLink RX2 125 "CoracleMakers$Coracle" "reach" "I") (by decide +kernel)
    refine va_get (D := D) (ci := 0) (v := .int (V (nA V n + 5) 3)) (C := RX0) (T := TX0) (N := 10) hx hb hts hin0 hown hK hP (nA V n + 5) (rv_co y ad V hA6) rfl 3 (by decide) hf125 (fun _ h9 => h9) rfl dX2_isTogether_27 ?_
    refine cRI_V (As := [.int (V (nA V n + 5) 3)]) (rest := []) ⟨hx, hb, hml, hown, hts⟩ (c_X0_isAfloatAt l D y (ad (nB V n + 5)) (V (nB V n + 5)) (V (nA V n + 5) 3)) (cwV 1 hts gX2_isTogether_X0_isAfloatAt rfl rfl rfl (by decide +kernel) ⟨Nat.le_of_ble_eq_true rfl, Nat.le_of_ble_eq_true rfl⟩) hK hN (P_m hP (rv_co y ad V hB6)) (va_recv hK hP (ci := 0) (q0 := (nB V n + 5)) rfl (rv_co y ad V hB6)) rfl hl.1 rfl (Nat.le_of_ble_eq_true rfl) dX2_isTogether_30 ⟨Nat.le_of_ble_eq_true rfl, Nat.le_of_ble_eq_true rfl⟩ ?_
    refine lv_if_eq (tgt := 40) hx hb dX2_isTogether_33 (by decide) (fun c_18 => ?_) (fun c_18 => ?_)
    · refine lv_iconst (v := 0) hx hb dX2_isTogether_40 (by decide) ?_
      subst hQ
      exact W.zret (v := 0) hx hb hr rfl (fun t ht hW => ⟨_, rfl, (by simp [tgF, c_17, c_18]), ht⟩) (fun _ h => by cases h) dX2_isTogether_41
    · refine lv_iconst (v := 1) hx hb dX2_isTogether_36 (by decide) ?_
      refine lv_goto (tgt := 41) hx hb dX2_isTogether_37 (by decide) ?_
      subst hQ
      exact W.zret (v := 1) hx hb hr rfl (fun t ht hW => ⟨_, rfl, (by simp [tgF, c_17, c_18]), ht⟩) (fun _ h => by cases h) dX2_isTogether_41
abbrev rmX2_wouldCatch : Room := { frames := 2, cells := 0, slots := 0, locals := 44 }
set_option maxHeartbeats 4000000 in
set_option maxRecDepth 100000 in
/-- wouldCatch(net) -/
theorem c_X2_wouldCatch (l : Launch) (D : va_G) (y : Nat → ClassId) (ad : Nat → Nat) (V : Nat → Nat → Int32) (n : Nat) (hn : n < 3) (hI : rvI V) : RdI l D y yX2_wouldCatch wsX2_wouldCatch rmX2_wouldCatch [.ref (ad 0), .ref (ad (n + 11))] (rvW y ad V) (wcF V n) := by
  refine mR (C := RX2) (cc := cX2_wouldCatch) (maxL := 6) (ret := (some .int)) (by decide) rfl rfl (Nat.le_of_ble_eq_true rfl) ?_
  intro p e s m a below meth c ls Q hQ hx hb hr hts hown hlocks hml hP hK hN hl
  have hl : lv_has ls 6 [(0, .ref (ad 0)), (1, .ref (ad (n + 11)))] := hl
  have hA6 : nA V n < 6 := in_ix (hI.2 n hn).1
  have hB6 : nB V n < 6 := in_ix (hI.2 n hn).2
  refine lv_aload_n hx hb dX2_wouldCatch_0 rfl (lv_at hl 0 rfl) ?_
  refine lv_aload_n hx hb dX2_wouldCatch_1 rfl (lv_at hl 1 rfl) ?_
  refine cRI_V (As := [.ref (ad (n + 11))]) (rest := []) ⟨hx, hb, hml, hown, hts⟩ (c_X2_isTogether l D y ad V n hn hI) (cwV 1 hts gX2_wouldCatch_X2_isTogether rfl rfl rfl (by decide +kernel) ⟨Nat.le_of_ble_eq_true rfl, Nat.le_of_ble_eq_true rfl⟩) hK hN hP (va_recv hK hP (ci := 2) (q0 := 0) rfl (wf_at (by decide) rfl)) rfl hl.1 rfl (Nat.le_of_ble_eq_true rfl) dX2_wouldCatch_2 ⟨Nat.le_of_ble_eq_true rfl, Nat.le_of_ble_eq_true rfl⟩ ?_
  refine lv_if_ne (tgt := 10) hx hb dX2_wouldCatch_5 (by decide) (fun c_19 => ?_) (fun c_19 => ?_)
  · refine lv_aload_n hx hb dX2_wouldCatch_10 rfl (lv_at hl 0 rfl) ?_
    refine lv_aload_n hx hb dX2_wouldCatch_11 rfl (lv_at hl 1 rfl) ?_
    have hin1 : ∀ w ∈ u_ws RX1 TX1 3, w ∈ wsX2_wouldCatch := by decide +kernel
    have hf76 := hts (.fieldLink RX2 76 "CoracleMakers$Net" "first" "I") (by decide +kernel)
    refine va_get (D := D) (ci := 1) (v := .int (V (n + 11) 0)) (C := RX1) (T := TX1) (N := 3) hx hb hts hin1 hown hK hP (n + 11) (rv_ne y ad V hn) rfl 0 (by decide) hf76 (fun _ h9 => h9) rfl dX2_wouldCatch_12 ?_
    refine cRR_V (As := [.int (V (n + 11) 0)]) (rest := []) ⟨hx, hb, hml, hown, hts⟩ (c_X2_coracleOf l D y ad V (V (n + 11) 0) (hI.2 n hn).1) (cwV 1 hts gX2_wouldCatch_X2_coracleOf rfl rfl rfl (by decide +kernel) ⟨Nat.le_of_ble_eq_true rfl, Nat.le_of_ble_eq_true rfl⟩) hK hN hP (va_recv hK hP (ci := 2) (q0 := 0) rfl (wf_at (by decide) rfl)) rfl hl.1 rfl (Nat.le_of_ble_eq_true rfl) dX2_wouldCatch_15 ⟨Nat.le_of_ble_eq_true rfl, Nat.le_of_ble_eq_true rfl⟩ ?_
    refine lv_astore_n (lv' := [(2, .ref (ad (nA V n + 5))), (0, .ref (ad 0)), (1, .ref (ad (n + 11)))]) hx hb dX2_wouldCatch_18 rfl hl (by decide) rfl (fun ls hl => ?_)
    refine lv_aload_n hx hb dX2_wouldCatch_19 rfl (lv_at hl 1 rfl) ?_
    refine lv_aload_n hx hb dX2_wouldCatch_20 rfl (lv_at hl 2 rfl) ?_
    have hf79 := hts (.fieldLink RX2 79 "CoracleMakers$Net" "second" "I") (by decide +kernel)
    refine va_get (D := D) (ci := 1) (v := .int (V (n + 11) 1)) (C := RX1) (T := TX1) (N := 3) hx hb hts hin1 hown hK hP (n + 11) (rv_ne y ad V hn) rfl 1 (by decide) hf79 (fun _ h9 => h9) rfl dX2_wouldCatch_21 ?_
    refine cRR_V (As := [.int (V (n + 11) 1)]) (rest := []) ⟨hx, hb, hml, hown, hts⟩ (c_X2_coracleOf l D y ad V (V (n + 11) 1) (hI.2 n hn).2) (cwV 1 hts gX2_wouldCatch_X2_coracleOf rfl rfl rfl (by decide +kernel) ⟨Nat.le_of_ble_eq_true rfl, Nat.le_of_ble_eq_true rfl⟩) hK hN hP (va_recv hK hP (ci := 2) (q0 := 0) rfl (wf_at (by decide) rfl)) rfl hl.1 rfl (Nat.le_of_ble_eq_true rfl) dX2_wouldCatch_24 ⟨Nat.le_of_ble_eq_true rfl, Nat.le_of_ble_eq_true rfl⟩ ?_
    refine lv_astore_n (lv' := [(3, .ref (ad (nB V n + 5))), (2, .ref (ad (nA V n + 5))), (0, .ref (ad 0)), (1, .ref (ad (n + 11)))]) hx hb dX2_wouldCatch_27 rfl hl (by decide) rfl (fun ls hl => ?_)
    refine lv_iconst (v := 2) hx hb dX2_wouldCatch_28 (by decide) ?_
    refine lv_aload_n hx hb dX2_wouldCatch_29 rfl (lv_at hl 1 rfl) ?_
    have hin0 : ∀ w ∈ u_ws RX0 TX0 10, w ∈ wsX2_wouldCatch := by decide +kernel
    have hf149 := hts (.fieldLink RX2 149 "CoracleMakers$Coracle" "skill" "I") (by decide +kernel)
    refine va_get (D := D) (ci := 0) (v := .int (V (nA V n + 5) 2)) (C := RX0) (T := TX0) (N := 10) hx hb hts hin0 hown hK hP (nA V n + 5) (rv_co y ad V hA6) rfl 2 (by decide) hf149 (fun _ h9 => h9) rfl dX2_wouldCatch_30 ?_
    refine lv_aload_n hx hb dX2_wouldCatch_33 rfl (lv_at hl 0 rfl) ?_
    refine va_get (D := D) (ci := 0) (v := .int (V (nB V n + 5) 2)) (C := RX0) (T := TX0) (N := 10) hx hb hts hin0 hown hK hP (nB V n + 5) (rv_co y ad V hB6) rfl 2 (by decide) hf149 (fun _ h9 => h9) rfl dX2_wouldCatch_34 ?_
    refine va_mmin hx hb (hml.trans hl.1.symm) hown (hts (.methodLink RX2 105 Lib.Math.min.name) (by decide +kernel)) (hts (.static Lib.Math.min.name) (by decide +kernel)) (hts (.initialized "java/lang/Math") (by decide +kernel)) (hts (.code Lib.Math.min.name Lib.Math.min.code 2 (some .int)) (by decide +kernel)) (Nat.le_of_ble_eq_true rfl) (Nat.le_of_ble_eq_true rfl) (Nat.le_of_ble_eq_true rfl) (Nat.le_of_ble_eq_true rfl) dX2_wouldCatch_37 ?_
    refine W.eq (g2 := F0 m 40 ls (.int (mn (V (nA V n + 5) 2) (V (nB V n + 5) 2)) :: .int 2 :: [])) rfl ?_
    refine lv_iadd hx hb dX2_wouldCatch_40 ?_
    refine lv_istore (lv' := [(4, .int (2 + (mn (V (nA V n + 5) 2) (V (nB V n + 5) 2)))), (3, .ref (ad (nB V n + 5))), (2, .ref (ad (nA V n + 5))), (0, .ref (ad 0)), (1, .ref (ad (n + 11)))]) hx hb dX2_wouldCatch_41 hl (by decide) rfl (fun ls hl => ?_)
    refine lv_aload_n hx hb dX2_wouldCatch_43 rfl (lv_at hl 2 rfl) ?_
    refine cRI_V (As := []) (rest := []) ⟨hx, hb, hml, hown, hts⟩ (c_X0_room l D y (ad (nA V n + 5)) (V (nA V n + 5))) (cwV 0 hts gX2_wouldCatch_X0_room rfl rfl rfl (by decide +kernel) ⟨Nat.le_of_ble_eq_true rfl, Nat.le_of_ble_eq_true rfl⟩) hK hN (P_m hP (rv_co y ad V hA6)) (va_recv hK hP (ci := 0) (q0 := (nA V n + 5)) rfl (rv_co y ad V hA6)) rfl hl.1 rfl (Nat.le_of_ble_eq_true rfl) dX2_wouldCatch_44 ⟨Nat.le_of_ble_eq_true rfl, Nat.le_of_ble_eq_true rfl⟩ ?_
    refine lv_aload_n hx hb dX2_wouldCatch_47 rfl (lv_at hl 1 rfl) ?_
    refine cRI_V (As := []) (rest := [.int (V (nA V n + 5) 0 - V (nA V n + 5) 7)]) ⟨hx, hb, hml, hown, hts⟩ (c_X0_room l D y (ad (nB V n + 5)) (V (nB V n + 5))) (cwV 0 hts gX2_wouldCatch_X0_room rfl rfl rfl (by decide +kernel) ⟨Nat.le_of_ble_eq_true rfl, Nat.le_of_ble_eq_true rfl⟩) hK hN (P_m hP (rv_co y ad V hB6)) (va_recv hK hP (ci := 0) (q0 := (nB V n + 5)) rfl (rv_co y ad V hB6)) rfl hl.1 rfl (Nat.le_of_ble_eq_true rfl) dX2_wouldCatch_48 ⟨Nat.le_of_ble_eq_true rfl, Nat.le_of_ble_eq_true rfl⟩ ?_
    refine lv_iadd hx hb dX2_wouldCatch_51 ?_
    refine lv_istore (lv' := [(5, .int ((V (nA V n + 5) 0 - V (nA V n + 5) 7) + (V (nB V n + 5) 0 - V (nB V n + 5) 7))), (4, .int (2 + (mn (V (nA V n + 5) 2) (V (nB V n + 5) 2)))), (3, .ref (ad (nB V n + 5))), (2, .ref (ad (nA V n + 5))), (0, .ref (ad 0)), (1, .ref (ad (n + 11)))]) hx hb dX2_wouldCatch_52 hl (by decide) rfl (fun ls hl => ?_)
    refine lv_aload_n hx hb dX2_wouldCatch_54 rfl (lv_at hl 4 rfl) ?_
    refine lv_aload_n hx hb dX2_wouldCatch_55 rfl (lv_at hl 3 rfl) ?_
    have hf125 := hts (.fieldLink RX2 125 "CoracleMakers$Coracle" "reach" "I") (by decide +kernel)
    refine va_get (D := D) (ci := 0) (v := .int (V (nA V n + 5) 3)) (C := RX0) (T := TX0) (N := 10) hx hb hts hin0 hown hK hP (nA V n + 5) (rv_co y ad V hA6) rfl 3 (by decide) hf125 (fun _ h9 => h9) rfl dX2_wouldCatch_56 ?_
    refine cRI_V (As := [.int (V (nA V n + 5) 3)]) (rest := []) ⟨hx, hb, hml, hown, hts⟩ (c_X2_salmonAt l D y ad V (V (nA V n + 5) 3) (hI.1 _ hA6).1) (cwV 1 hts gX2_wouldCatch_X2_salmonAt rfl rfl rfl (by decide +kernel) ⟨Nat.le_of_ble_eq_true rfl, Nat.le_of_ble_eq_true rfl⟩) hK hN hP (va_recv hK hP (ci := 2) (q0 := 0) rfl (wf_at (by decide) rfl)) rfl hl.1 rfl (Nat.le_of_ble_eq_true rfl) dX2_wouldCatch_59 ⟨Nat.le_of_ble_eq_true rfl, Nat.le_of_ble_eq_true rfl⟩ ?_
    refine lv_iload hx hb dX2_wouldCatch_62 (lv_at hl 1 rfl) ?_
    refine lv_iload hx hb dX2_wouldCatch_64 (lv_at hl 0 rfl) ?_
    refine va_mmin hx hb (hml.trans hl.1.symm) hown (hts (.methodLink RX2 105 Lib.Math.min.name) (by decide +kernel)) (hts (.static Lib.Math.min.name) (by decide +kernel)) (hts (.initialized "java/lang/Math") (by decide +kernel)) (hts (.code Lib.Math.min.name Lib.Math.min.code 2 (some .int)) (by decide +kernel)) (Nat.le_of_ble_eq_true rfl) (Nat.le_of_ble_eq_true rfl) (Nat.le_of_ble_eq_true rfl) (Nat.le_of_ble_eq_true rfl) dX2_wouldCatch_66 ?_
    refine W.eq (g2 := F0 m 69 ls (.int (mn (2 + (mn (V (nA V n + 5) 2) (V (nB V n + 5) 2))) ((V (nA V n + 5) 0 - V (nA V n + 5) 7) + (V (nB V n + 5) 0 - V (nB V n + 5) 7))) :: .int (V 3 (ix (V (nA V n + 5) 3))) :: [])) rfl ?_
    refine va_mmin hx hb (hml.trans hl.1.symm) hown (hts (.methodLink RX2 105 Lib.Math.min.name) (by decide +kernel)) (hts (.static Lib.Math.min.name) (by decide +kernel)) (hts (.initialized "java/lang/Math") (by decide +kernel)) (hts (.code Lib.Math.min.name Lib.Math.min.code 2 (some .int)) (by decide +kernel)) (Nat.le_of_ble_eq_true rfl) (Nat.le_of_ble_eq_true rfl) (Nat.le_of_ble_eq_true rfl) (Nat.le_of_ble_eq_true rfl) dX2_wouldCatch_69 ?_
    refine W.eq (g2 := F0 m 72 ls (.int (mn (V 3 (ix (V (nA V n + 5) 3))) (mn (2 + (mn (V (nA V n + 5) 2) (V (nB V n + 5) 2))) ((V (nA V n + 5) 0 - V (nA V n + 5) 7) + (V (nB V n + 5) 0 - V (nB V n + 5) 7)))) :: [])) rfl ?_
    subst hQ
    exact W.iret (v := mn (V 3 (ix (V (nA V n + 5) 3))) (mn (2 + (mn (V (nA V n + 5) 2) (V (nB V n + 5) 2))) ((V (nA V n + 5) 0 - V (nA V n + 5) 7) + (V (nB V n + 5) 0 - V (nB V n + 5) 7)))) hx hb hr (fun t ht hW => ⟨_, rfl, (by unfold wcF; rw [if_pos c_19]), ht⟩) (fun _ h => by cases h) dX2_wouldCatch_72
  · refine lv_iconst (v := 0) hx hb dX2_wouldCatch_8 (by decide) ?_
    subst hQ
    exact W.iret (v := 0) hx hb hr (fun t ht hW => ⟨_, rfl, (by unfold wcF; rw [if_neg (fun z => z c_19)]), ht⟩) (fun _ h => by cases h) dX2_wouldCatch_9
/-- tellOfNet, tellOfReach, tellCount -/
def tnF (V : Nat → Nat → Int32) (n : Nat) (x : Int32) : Int32 := if x = 0 then V (n + 11) 0 else if x = 1 then V (n + 11) 1 else if x = 2 then V (n + 11) 2 else wcF V n
def smI (f : Nat → Int32) : Nat → Int32 | 0 => 0 | k + 1 => smI f k + f k
theorem smI_s (f : Nat → Int32) (k : Nat) {x : Int32} (h : x = f k) : smI f k + x = smI f (k + 1) := by rw [h]; rfl
abbrev afF (V : Nat → Nat → Int32) (x : Int32) (k : Nat) : Int32 := if atF (V (k + 5)) x = 0 then 0 else 1
abbrev flF (V : Nat → Nat → Int32) (k : Nat) : Int32 := if V (k + 5) 8 = 0 then 0 else 1
def tcF (V : Nat → Nat → Int32) (x : Int32) : Int32 := if x = 0 then V 0 0 else if x = 1 then V 0 1 else if x = 2 then V 4 3 else if x = 3 then V 0 2 else if x = 4 then smI (flF V) 6 else if x = 5 then V 0 3 else if x = 6 then smI (fun k => V (k + 5) 7) 6 else if x = 7 then smI (V 3) 16 else if x = 8 then V 0 4 else if x = 9 then V 0 5 else if x = 10 then V 4 0 else if x = 11 then V 4 1 else V 4 2
def trF (V : Nat → Nat → Int32) (x z : Int32) : Int32 := if z = 0 then V 3 (ix x) else smI (afF V x) 6
abbrev rmX2_loadOfAll : Room := { frames := 0, cells := 0, slots := 0, locals := 0 }
set_option maxHeartbeats 4000000 in
set_option maxRecDepth 100000 in
/-- loadOfAll() -/
theorem c_X2_loadOfAll (l : Launch) (D : va_G) (y : Nat → ClassId) (ad : Nat → Nat) (V : Nat → Nat → Int32) : RdI l D y yX2_loadOfAll wsX2_loadOfAll rmX2_loadOfAll [.ref (ad 0)] (rvW y ad V) (smI (fun k => V (k + 5) 7) 6) := by
  refine mR (C := RX2) (cc := cX2_loadOfAll) (maxL := 6) (ret := (some .int)) (by decide) rfl rfl (Nat.le_of_ble_eq_true rfl) ?_
  intro p e s m a below meth c ls Q hQ hx hb hr hts hown hlocks hml hP hK hN hl
  have hl : lv_has ls 6 [(0, .ref (ad 0))] := hl
  refine lv_iconst (v := 0) hx hb dX2_loadOfAll_0 (by decide) ?_
  refine lv_istore_n (lv' := [(1, .int 0), (0, .ref (ad 0))]) hx hb dX2_loadOfAll_1 rfl hl (by decide) rfl (fun ls hl => ?_)
  refine lv_aload_n hx hb dX2_loadOfAll_2 rfl (lv_at hl 1 rfl) ?_
  have hin2 : ∀ w ∈ u_ws RX2 TX2 10, w ∈ wsX2_loadOfAll := by decide +kernel
  have hf11 := hts (.fieldLink RX2 11 "CoracleMakers$River" "coracles" "[LCoracleMakers$Coracle;") (by decide +kernel)
  refine va_get (D := D) (ci := 2) (v := .ref (ad 1)) (C := RX2) (T := TX2) (N := 10) hx hb hts hin2 hown hK hP 0 (wf_at (by decide) rfl) rfl 0 (by decide) hf11 (fun _ h9 => h9) rfl dX2_loadOfAll_3 ?_
  refine lv_astore_n (lv' := [(2, .ref (ad 1)), (1, .int 0), (0, .ref (ad 0))]) hx hb dX2_loadOfAll_6 rfl hl (by decide) rfl (fun ls hl => ?_)
  refine lv_aload_n hx hb dX2_loadOfAll_7 rfl (lv_at hl 0 rfl) ?_
  refine va_alen (v := 6) hx hb hK hP 1 3 (wf_at (by decide) rfl) rfl rfl dX2_loadOfAll_8 ?_
  refine lv_istore_n (lv' := [(3, .int 6), (2, .ref (ad 1)), (1, .int 0), (0, .ref (ad 0))]) hx hb dX2_loadOfAll_9 rfl hl (by decide) rfl (fun ls hl => ?_)
  refine lv_iconst (v := 0) hx hb dX2_loadOfAll_10 (by decide) ?_
  refine lv_istore (lv' := [(4, .int 0), (3, .int 6), (2, .ref (ad 1)), (1, .int 0), (0, .ref (ad 0))]) hx hb dX2_loadOfAll_11 hl (by decide) rfl (fun ls hl => ?_)
  have hl : lv_has ls 6 [(4, .int (nI 0)), (3, .int 6), (2, .ref (ad 1)), (1, .int (smI (fun k => V (k + 5) 7) 0)), (0, .ref (ad 0))] := hl
  have lp1 : ∀ (n i : Nat) (ls : Array Slot), 6 - i < n → i ≤ 6 → lv_has ls 6 [(0, .ref (ad 0)), (1, .int (smI (fun k => V (k + 5) 7) i)), (2, .ref (ad 1)), (3, .int 6), (4, .int (nI i))] → W p l e rmX2_loadOfAll s m a below meth c s.heap [] 0 0 Q (F0 m 13 ls ([])) := by
    intro n
    induction n with
    | zero => intro i ls hn; exact absurd hn (Nat.not_lt_zero _)
    | succ n ih =>
      intro i ls hn hi hl
      rcases Nat.lt_or_ge i 6 with hiN | hiN
      · refine lv_iload hx hb dX2_loadOfAll_13 (lv_at hl 4 rfl) ?_
        refine lv_iload_n hx hb dX2_loadOfAll_15 rfl (lv_at hl 3 rfl) ?_
        refine lv_icmp_ge (tgt := 39) hx hb dX2_loadOfAll_16 (by decide) (fun c9 => absurd c9 (nI_ge hiN (by decide))) (fun _ => ?_)
        refine lv_aload_n hx hb dX2_loadOfAll_19 rfl (lv_at hl 2 rfl) ?_
        refine lv_iload hx hb dX2_loadOfAll_20 (lv_at hl 4 rfl) ?_
        refine va_aldq hx hb hK hP 1 3 (wf_at (by decide) rfl) rfl (vp_in_nI hiN (by decide)) dX2_loadOfAll_22 ?_
        rw [show (nI i).toNatClampNeg = i from (nI_clamp (by omega))]
        refine W.eq (g2 := F0 m 23 ls (.ref (ad (i + 5)) :: [])) rfl ?_
        refine lv_astore (lv' := [(5, .ref (ad (i + 5))), (0, .ref (ad 0)), (1, .int (smI (fun k => V (k + 5) 7) i)), (2, .ref (ad 1)), (3, .int 6), (4, .int (nI i))]) hx hb dX2_loadOfAll_23 hl (by decide) rfl (fun ls hl => ?_)
        refine lv_iload_n hx hb dX2_loadOfAll_25 rfl (lv_at hl 2 rfl) ?_
        refine lv_aload hx hb dX2_loadOfAll_26 (lv_at hl 0 rfl) ?_
        have hin0 : ∀ w ∈ u_ws RX0 TX0 10, w ∈ wsX2_loadOfAll := by decide +kernel
        have hf132 := hts (.fieldLink RX2 132 "CoracleMakers$Coracle" "load" "I") (by decide +kernel)
        refine va_get (D := D) (ci := 0) (v := .int (V (i + 5) 7)) (C := RX0) (T := TX0) (N := 10) hx hb hts hin0 hown hK hP (i + 5) (rv_co y ad V hiN) rfl 7 (by decide) hf132 (fun _ h9 => h9) rfl dX2_loadOfAll_28 ?_
        refine lv_iadd hx hb dX2_loadOfAll_31 ?_
        refine lv_istore_n (lv' := [(1, .int ((smI (fun k => V (k + 5) 7) i) + (V (i + 5) 7))), (5, .ref (ad (i + 5))), (0, .ref (ad 0)), (2, .ref (ad 1)), (3, .int 6), (4, .int (nI i))]) hx hb dX2_loadOfAll_32 rfl hl (by decide) rfl (fun ls hl => ?_)
        rw [show (smI (fun k => V (k + 5) 7) i) + (V (i + 5) 7) = smI (fun k => V (k + 5) 7) (i + 1) from smI_s _ i (rfl)] at hl
        refine lv_iinc (v := nI (i + 1)) (lv' := [(4, .int (nI (i + 1))), (1, .int (smI (fun k => V (k + 5) 7) (i + 1))), (5, .ref (ad (i + 5))), (0, .ref (ad 0)), (2, .ref (ad 1)), (3, .int 6)]) hx hb dX2_loadOfAll_33 hl (k := 5) rfl (by first | rfl | exact (nI_1 i)) (by decide) rfl (fun ls hl => ?_)
        refine lv_goto (tgt := 13) hx hb dX2_loadOfAll_36 (by decide) ?_
        exact ih (i + 1) _ (by omega) (by omega) (lv_sub hl [3, 1, 4, 5, 0] rfl)
      · have e9i : 6 = i := by omega
        subst e9i
        refine lv_iload hx hb dX2_loadOfAll_13 (lv_at hl 4 rfl) ?_
        refine lv_iload_n hx hb dX2_loadOfAll_15 rfl (lv_at hl 3 rfl) ?_
        refine lv_icmp_ge (tgt := 39) hx hb dX2_loadOfAll_16 (by decide) (fun _ => ?_) (fun c9 => absurd (show (6 : Int32) ≤ nI 6 by decide) c9)
        refine lv_iload_n hx hb dX2_loadOfAll_39 rfl (lv_at hl 1 rfl) ?_
        subst hQ
        exact W.iret (v := smI (fun k => V (k + 5) 7) 6) hx hb hr (fun t ht hW => ⟨_, rfl, rfl, ht⟩) (fun _ h => by cases h) dX2_loadOfAll_40
  exact lp1 7 0 ls (by omega) (by omega) (lv_sub hl [4, 3, 2, 1, 0] rfl)
abbrev rmX2_tarOfAll : Room := { frames := 0, cells := 0, slots := 0, locals := 0 }
set_option maxHeartbeats 4000000 in
set_option maxRecDepth 100000 in
/-- tarOfAll() -/
theorem c_X2_tarOfAll (l : Launch) (D : va_G) (y : Nat → ClassId) (ad : Nat → Nat) (V : Nat → Nat → Int32) : RdI l D y yX2_tarOfAll wsX2_tarOfAll rmX2_tarOfAll [.ref (ad 0)] (rvW y ad V) (smI (fun k => V (k + 5) 5) 6) := by
  refine mR (C := RX2) (cc := cX2_tarOfAll) (maxL := 6) (ret := (some .int)) (by decide) rfl rfl (Nat.le_of_ble_eq_true rfl) ?_
  intro p e s m a below meth c ls Q hQ hx hb hr hts hown hlocks hml hP hK hN hl
  have hl : lv_has ls 6 [(0, .ref (ad 0))] := hl
  refine lv_iconst (v := 0) hx hb dX2_tarOfAll_0 (by decide) ?_
  refine lv_istore_n (lv' := [(1, .int 0), (0, .ref (ad 0))]) hx hb dX2_tarOfAll_1 rfl hl (by decide) rfl (fun ls hl => ?_)
  refine lv_aload_n hx hb dX2_tarOfAll_2 rfl (lv_at hl 1 rfl) ?_
  have hin2 : ∀ w ∈ u_ws RX2 TX2 10, w ∈ wsX2_tarOfAll := by decide +kernel
  have hf11 := hts (.fieldLink RX2 11 "CoracleMakers$River" "coracles" "[LCoracleMakers$Coracle;") (by decide +kernel)
  refine va_get (D := D) (ci := 2) (v := .ref (ad 1)) (C := RX2) (T := TX2) (N := 10) hx hb hts hin2 hown hK hP 0 (wf_at (by decide) rfl) rfl 0 (by decide) hf11 (fun _ h9 => h9) rfl dX2_tarOfAll_3 ?_
  refine lv_astore_n (lv' := [(2, .ref (ad 1)), (1, .int 0), (0, .ref (ad 0))]) hx hb dX2_tarOfAll_6 rfl hl (by decide) rfl (fun ls hl => ?_)
  refine lv_aload_n hx hb dX2_tarOfAll_7 rfl (lv_at hl 0 rfl) ?_
  refine va_alen (v := 6) hx hb hK hP 1 3 (wf_at (by decide) rfl) rfl rfl dX2_tarOfAll_8 ?_
  refine lv_istore_n (lv' := [(3, .int 6), (2, .ref (ad 1)), (1, .int 0), (0, .ref (ad 0))]) hx hb dX2_tarOfAll_9 rfl hl (by decide) rfl (fun ls hl => ?_)
  refine lv_iconst (v := 0) hx hb dX2_tarOfAll_10 (by decide) ?_
  refine lv_istore (lv' := [(4, .int 0), (3, .int 6), (2, .ref (ad 1)), (1, .int 0), (0, .ref (ad 0))]) hx hb dX2_tarOfAll_11 hl (by decide) rfl (fun ls hl => ?_)
  have hl : lv_has ls 6 [(4, .int (nI 0)), (3, .int 6), (2, .ref (ad 1)), (1, .int (smI (fun k => V (k + 5) 5) 0)), (0, .ref (ad 0))] := hl
  have lp2 : ∀ (n i : Nat) (ls : Array Slot), 6 - i < n → i ≤ 6 → lv_has ls 6 [(0, .ref (ad 0)), (1, .int (smI (fun k => V (k + 5) 5) i)), (2, .ref (ad 1)), (3, .int 6), (4, .int (nI i))] → W p l e rmX2_tarOfAll s m a below meth c s.heap [] 0 0 Q (F0 m 13 ls ([])) := by
    intro n
    induction n with
    | zero => intro i ls hn; exact absurd hn (Nat.not_lt_zero _)
    | succ n ih =>
      intro i ls hn hi hl
      rcases Nat.lt_or_ge i 6 with hiN | hiN
      · refine lv_iload hx hb dX2_tarOfAll_13 (lv_at hl 4 rfl) ?_
        refine lv_iload_n hx hb dX2_tarOfAll_15 rfl (lv_at hl 3 rfl) ?_
        refine lv_icmp_ge (tgt := 39) hx hb dX2_tarOfAll_16 (by decide) (fun c9 => absurd c9 (nI_ge hiN (by decide))) (fun _ => ?_)
        refine lv_aload_n hx hb dX2_tarOfAll_19 rfl (lv_at hl 2 rfl) ?_
        refine lv_iload hx hb dX2_tarOfAll_20 (lv_at hl 4 rfl) ?_
        refine va_aldq hx hb hK hP 1 3 (wf_at (by decide) rfl) rfl (vp_in_nI hiN (by decide)) dX2_tarOfAll_22 ?_
        rw [show (nI i).toNatClampNeg = i from (nI_clamp (by omega))]
        refine W.eq (g2 := F0 m 23 ls (.ref (ad (i + 5)) :: [])) rfl ?_
        refine lv_astore (lv' := [(5, .ref (ad (i + 5))), (0, .ref (ad 0)), (1, .int (smI (fun k => V (k + 5) 5) i)), (2, .ref (ad 1)), (3, .int 6), (4, .int (nI i))]) hx hb dX2_tarOfAll_23 hl (by decide) rfl (fun ls hl => ?_)
        refine lv_iload_n hx hb dX2_tarOfAll_25 rfl (lv_at hl 2 rfl) ?_
        refine lv_aload hx hb dX2_tarOfAll_26 (lv_at hl 0 rfl) ?_
        have hin0 : ∀ w ∈ u_ws RX0 TX0 10, w ∈ wsX2_tarOfAll := by decide +kernel
        have hf168 := hts (.fieldLink RX2 168 "CoracleMakers$Coracle" "tar" "I") (by decide +kernel)
        refine va_get (D := D) (ci := 0) (v := .int (V (i + 5) 5)) (C := RX0) (T := TX0) (N := 10) hx hb hts hin0 hown hK hP (i + 5) (rv_co y ad V hiN) rfl 5 (by decide) hf168 (fun _ h9 => h9) rfl dX2_tarOfAll_28 ?_
        refine lv_iadd hx hb dX2_tarOfAll_31 ?_
        refine lv_istore_n (lv' := [(1, .int ((smI (fun k => V (k + 5) 5) i) + (V (i + 5) 5))), (5, .ref (ad (i + 5))), (0, .ref (ad 0)), (2, .ref (ad 1)), (3, .int 6), (4, .int (nI i))]) hx hb dX2_tarOfAll_32 rfl hl (by decide) rfl (fun ls hl => ?_)
        rw [show (smI (fun k => V (k + 5) 5) i) + (V (i + 5) 5) = smI (fun k => V (k + 5) 5) (i + 1) from smI_s _ i (rfl)] at hl
        refine lv_iinc (v := nI (i + 1)) (lv' := [(4, .int (nI (i + 1))), (1, .int (smI (fun k => V (k + 5) 5) (i + 1))), (5, .ref (ad (i + 5))), (0, .ref (ad 0)), (2, .ref (ad 1)), (3, .int 6)]) hx hb dX2_tarOfAll_33 hl (k := 5) rfl (by first | rfl | exact (nI_1 i)) (by decide) rfl (fun ls hl => ?_)
        refine lv_goto (tgt := 13) hx hb dX2_tarOfAll_36 (by decide) ?_
        exact ih (i + 1) _ (by omega) (by omega) (lv_sub hl [3, 1, 4, 5, 0] rfl)
      · have e9i : 6 = i := by omega
        subst e9i
        refine lv_iload hx hb dX2_tarOfAll_13 (lv_at hl 4 rfl) ?_
        refine lv_iload_n hx hb dX2_tarOfAll_15 rfl (lv_at hl 3 rfl) ?_
        refine lv_icmp_ge (tgt := 39) hx hb dX2_tarOfAll_16 (by decide) (fun _ => ?_) (fun c9 => absurd (show (6 : Int32) ≤ nI 6 by decide) c9)
        refine lv_iload_n hx hb dX2_tarOfAll_39 rfl (lv_at hl 1 rfl) ?_
        subst hQ
        exact W.iret (v := smI (fun k => V (k + 5) 5) 6) hx hb hr (fun t ht hW => ⟨_, rfl, rfl, ht⟩) (fun _ h => by cases h) dX2_tarOfAll_40
  exact lp2 7 0 ls (by omega) (by omega) (lv_sub hl [4, 3, 2, 1, 0] rfl)
abbrev rmX2_salmonOfAll : Room := { frames := 0, cells := 0, slots := 0, locals := 0 }
set_option maxHeartbeats 4000000 in
set_option maxRecDepth 100000 in
/-- salmonOfAll() -/
theorem c_X2_salmonOfAll (l : Launch) (D : va_G) (y : Nat → ClassId) (ad : Nat → Nat) (V : Nat → Nat → Int32) : RdI l D y yX2_salmonOfAll wsX2_salmonOfAll rmX2_salmonOfAll [.ref (ad 0)] (rvW y ad V) (smI (V 3) 16) := by
  refine mR (C := RX2) (cc := cX2_salmonOfAll) (maxL := 6) (ret := (some .int)) (by decide) rfl rfl (Nat.le_of_ble_eq_true rfl) ?_
  intro p e s m a below meth c ls Q hQ hx hb hr hts hown hlocks hml hP hK hN hl
  have hl : lv_has ls 6 [(0, .ref (ad 0))] := hl
  refine lv_iconst (v := 0) hx hb dX2_salmonOfAll_0 (by decide) ?_
  refine lv_istore_n (lv' := [(1, .int 0), (0, .ref (ad 0))]) hx hb dX2_salmonOfAll_1 rfl hl (by decide) rfl (fun ls hl => ?_)
  refine lv_aload_n hx hb dX2_salmonOfAll_2 rfl (lv_at hl 1 rfl) ?_
  have hin2 : ∀ w ∈ u_ws RX2 TX2 10, w ∈ wsX2_salmonOfAll := by decide +kernel
  have hf23 := hts (.fieldLink RX2 23 "CoracleMakers$River" "salmon" "[I") (by decide +kernel)
  refine va_get (D := D) (ci := 2) (v := .ref (ad 3)) (C := RX2) (T := TX2) (N := 10) hx hb hts hin2 hown hK hP 0 (wf_at (by decide) rfl) rfl 2 (by decide) hf23 (fun _ h9 => h9) rfl dX2_salmonOfAll_3 ?_
  refine lv_astore_n (lv' := [(2, .ref (ad 3)), (1, .int 0), (0, .ref (ad 0))]) hx hb dX2_salmonOfAll_6 rfl hl (by decide) rfl (fun ls hl => ?_)
  refine lv_aload_n hx hb dX2_salmonOfAll_7 rfl (lv_at hl 0 rfl) ?_
  refine va_alen (v := 16) hx hb hK hP 3 0 (wf_at (by decide) rfl) rfl rfl dX2_salmonOfAll_8 ?_
  refine lv_istore_n (lv' := [(3, .int 16), (2, .ref (ad 3)), (1, .int 0), (0, .ref (ad 0))]) hx hb dX2_salmonOfAll_9 rfl hl (by decide) rfl (fun ls hl => ?_)
  refine lv_iconst (v := 0) hx hb dX2_salmonOfAll_10 (by decide) ?_
  refine lv_istore (lv' := [(4, .int 0), (3, .int 16), (2, .ref (ad 3)), (1, .int 0), (0, .ref (ad 0))]) hx hb dX2_salmonOfAll_11 hl (by decide) rfl (fun ls hl => ?_)
  have hl : lv_has ls 6 [(4, .int (nI 0)), (3, .int 16), (2, .ref (ad 3)), (1, .int (smI (V 3) 0)), (0, .ref (ad 0))] := hl
  have lp3 : ∀ (n i : Nat) (ls : Array Slot), 16 - i < n → i ≤ 16 → lv_has ls 6 [(0, .ref (ad 0)), (1, .int (smI (V 3) i)), (2, .ref (ad 3)), (3, .int 16), (4, .int (nI i))] → W p l e rmX2_salmonOfAll s m a below meth c s.heap [] 0 0 Q (F0 m 13 ls ([])) := by
    intro n
    induction n with
    | zero => intro i ls hn; exact absurd hn (Nat.not_lt_zero _)
    | succ n ih =>
      intro i ls hn hi hl
      rcases Nat.lt_or_ge i 16 with hiN | hiN
      · refine lv_iload hx hb dX2_salmonOfAll_13 (lv_at hl 4 rfl) ?_
        refine lv_iload_n hx hb dX2_salmonOfAll_15 rfl (lv_at hl 3 rfl) ?_
        refine lv_icmp_ge (tgt := 36) hx hb dX2_salmonOfAll_16 (by decide) (fun c9 => absurd c9 (nI_ge hiN (by decide))) (fun _ => ?_)
        refine lv_aload_n hx hb dX2_salmonOfAll_19 rfl (lv_at hl 2 rfl) ?_
        refine lv_iload hx hb dX2_salmonOfAll_20 (lv_at hl 4 rfl) ?_
        refine va_iald hx hb hK hP 3 0 (wf_at (by decide) rfl) rfl (vp_in_nI hiN (by decide)) dX2_salmonOfAll_22 ?_
        refine lv_istore (lv' := [(5, .int (V 3 (ix (nI i)))), (0, .ref (ad 0)), (1, .int (smI (V 3) i)), (2, .ref (ad 3)), (3, .int 16), (4, .int (nI i))]) hx hb dX2_salmonOfAll_23 hl (by decide) rfl (fun ls hl => ?_)
        refine lv_iload_n hx hb dX2_salmonOfAll_25 rfl (lv_at hl 2 rfl) ?_
        refine lv_iload hx hb dX2_salmonOfAll_26 (lv_at hl 0 rfl) ?_
        refine lv_iadd hx hb dX2_salmonOfAll_28 ?_
        refine lv_istore_n (lv' := [(1, .int ((smI (V 3) i) + (V 3 (ix (nI i))))), (5, .int (V 3 (ix (nI i)))), (0, .ref (ad 0)), (2, .ref (ad 3)), (3, .int 16), (4, .int (nI i))]) hx hb dX2_salmonOfAll_29 rfl hl (by decide) rfl (fun ls hl => ?_)
        rw [show (smI (V 3) i) + (V 3 (ix (nI i))) = smI (V 3) (i + 1) from smI_s _ i ((congrArg (V 3) (nI_clamp (by omega))))] at hl
        refine lv_iinc (v := nI (i + 1)) (lv' := [(4, .int (nI (i + 1))), (1, .int (smI (V 3) (i + 1))), (5, .int (V 3 (ix (nI i)))), (0, .ref (ad 0)), (2, .ref (ad 3)), (3, .int 16)]) hx hb dX2_salmonOfAll_30 hl (k := 5) rfl (by first | rfl | exact (nI_1 i)) (by decide) rfl (fun ls hl => ?_)
        refine lv_goto (tgt := 13) hx hb dX2_salmonOfAll_33 (by decide) ?_
        exact ih (i + 1) _ (by omega) (by omega) (lv_sub hl [3, 1, 4, 5, 0] rfl)
      · have e9i : 16 = i := by omega
        subst e9i
        refine lv_iload hx hb dX2_salmonOfAll_13 (lv_at hl 4 rfl) ?_
        refine lv_iload_n hx hb dX2_salmonOfAll_15 rfl (lv_at hl 3 rfl) ?_
        refine lv_icmp_ge (tgt := 36) hx hb dX2_salmonOfAll_16 (by decide) (fun _ => ?_) (fun c9 => absurd (show (16 : Int32) ≤ nI 16 by decide) c9)
        refine lv_iload_n hx hb dX2_salmonOfAll_36 rfl (lv_at hl 1 rfl) ?_
        subst hQ
        exact W.iret (v := smI (V 3) 16) hx hb hr (fun t ht hW => ⟨_, rfl, rfl, ht⟩) (fun _ h => by cases h) dX2_salmonOfAll_37
  exact lp3 17 0 ls (by omega) (by omega) (lv_sub hl [4, 3, 2, 1, 0] rfl)
abbrev rmX2_afloatInAll : Room := { frames := 0, cells := 0, slots := 0, locals := 0 }
set_option maxHeartbeats 4000000 in
set_option maxRecDepth 100000 in
/-- afloatInAll() -/
theorem c_X2_afloatInAll (l : Launch) (D : va_G) (y : Nat → ClassId) (ad : Nat → Nat) (V : Nat → Nat → Int32) : RdI l D y yX2_afloatInAll wsX2_afloatInAll rmX2_afloatInAll [.ref (ad 0)] (rvW y ad V) (smI (flF V) 6) := by
  refine mR (C := RX2) (cc := cX2_afloatInAll) (maxL := 6) (ret := (some .int)) (by decide) rfl rfl (Nat.le_of_ble_eq_true rfl) ?_
  intro p e s m a below meth c ls Q hQ hx hb hr hts hown hlocks hml hP hK hN hl
  have hl : lv_has ls 6 [(0, .ref (ad 0))] := hl
  refine lv_iconst (v := 0) hx hb dX2_afloatInAll_0 (by decide) ?_
  refine lv_istore_n (lv' := [(1, .int 0), (0, .ref (ad 0))]) hx hb dX2_afloatInAll_1 rfl hl (by decide) rfl (fun ls hl => ?_)
  refine lv_aload_n hx hb dX2_afloatInAll_2 rfl (lv_at hl 1 rfl) ?_
  have hin2 : ∀ w ∈ u_ws RX2 TX2 10, w ∈ wsX2_afloatInAll := by decide +kernel
  have hf11 := hts (.fieldLink RX2 11 "CoracleMakers$River" "coracles" "[LCoracleMakers$Coracle;") (by decide +kernel)
  refine va_get (D := D) (ci := 2) (v := .ref (ad 1)) (C := RX2) (T := TX2) (N := 10) hx hb hts hin2 hown hK hP 0 (wf_at (by decide) rfl) rfl 0 (by decide) hf11 (fun _ h9 => h9) rfl dX2_afloatInAll_3 ?_
  refine lv_astore_n (lv' := [(2, .ref (ad 1)), (1, .int 0), (0, .ref (ad 0))]) hx hb dX2_afloatInAll_6 rfl hl (by decide) rfl (fun ls hl => ?_)
  refine lv_aload_n hx hb dX2_afloatInAll_7 rfl (lv_at hl 0 rfl) ?_
  refine va_alen (v := 6) hx hb hK hP 1 3 (wf_at (by decide) rfl) rfl rfl dX2_afloatInAll_8 ?_
  refine lv_istore_n (lv' := [(3, .int 6), (2, .ref (ad 1)), (1, .int 0), (0, .ref (ad 0))]) hx hb dX2_afloatInAll_9 rfl hl (by decide) rfl (fun ls hl => ?_)
  refine lv_iconst (v := 0) hx hb dX2_afloatInAll_10 (by decide) ?_
  refine lv_istore (lv' := [(4, .int 0), (3, .int 6), (2, .ref (ad 1)), (1, .int 0), (0, .ref (ad 0))]) hx hb dX2_afloatInAll_11 hl (by decide) rfl (fun ls hl => ?_)
  have hl : lv_has ls 6 [(4, .int (nI 0)), (3, .int 6), (2, .ref (ad 1)), (1, .int (smI (flF V) 0)), (0, .ref (ad 0))] := hl
  have lp4 : ∀ (n i : Nat) (ls : Array Slot), 6 - i < n → i ≤ 6 → lv_has ls 6 [(0, .ref (ad 0)), (1, .int (smI (flF V) i)), (2, .ref (ad 1)), (3, .int 6), (4, .int (nI i))] → W p l e rmX2_afloatInAll s m a below meth c s.heap [] 0 0 Q (F0 m 13 ls ([])) := by
    intro n
    induction n with
    | zero => intro i ls hn; exact absurd hn (Nat.not_lt_zero _)
    | succ n ih =>
      intro i ls hn hi hl
      rcases Nat.lt_or_ge i 6 with hiN | hiN
      · refine lv_iload hx hb dX2_afloatInAll_13 (lv_at hl 4 rfl) ?_
        refine lv_iload_n hx hb dX2_afloatInAll_15 rfl (lv_at hl 3 rfl) ?_
        refine lv_icmp_ge (tgt := 47) hx hb dX2_afloatInAll_16 (by decide) (fun c9 => absurd c9 (nI_ge hiN (by decide))) (fun _ => ?_)
        refine lv_aload_n hx hb dX2_afloatInAll_19 rfl (lv_at hl 2 rfl) ?_
        refine lv_iload hx hb dX2_afloatInAll_20 (lv_at hl 4 rfl) ?_
        refine va_aldq hx hb hK hP 1 3 (wf_at (by decide) rfl) rfl (vp_in_nI hiN (by decide)) dX2_afloatInAll_22 ?_
        rw [show (nI i).toNatClampNeg = i from (nI_clamp (by omega))]
        refine W.eq (g2 := F0 m 23 ls (.ref (ad (i + 5)) :: [])) rfl ?_
        refine lv_astore (lv' := [(5, .ref (ad (i + 5))), (0, .ref (ad 0)), (1, .int (smI (flF V) i)), (2, .ref (ad 1)), (3, .int 6), (4, .int (nI i))]) hx hb dX2_afloatInAll_23 hl (by decide) rfl (fun ls hl => ?_)
        refine lv_iload_n hx hb dX2_afloatInAll_25 rfl (lv_at hl 2 rfl) ?_
        refine lv_aload hx hb dX2_afloatInAll_26 (lv_at hl 0 rfl) ?_
        have hin0 : ∀ w ∈ u_ws RX0 TX0 10, w ∈ wsX2_afloatInAll := by decide +kernel
        have hf108 := hts (.fieldLink RX2 108 "CoracleMakers$Coracle" "afloat" "Z") (by decide +kernel)
        refine va_get (D := D) (ci := 0) (v := .int (V (i + 5) 8)) (C := RX0) (T := TX0) (N := 10) hx hb hts hin0 hown hK hP (i + 5) (rv_co y ad V hiN) rfl 8 (by decide) hf108 (fun _ h9 => h9) rfl dX2_afloatInAll_28 ?_
        refine lv_if_eq (tgt := 38) hx hb dX2_afloatInAll_31 (by decide) (fun c_20 => ?_) (fun c_20 => ?_)
        · refine lv_iconst (v := 0) hx hb dX2_afloatInAll_38 (by decide) ?_
          refine lv_iadd hx hb dX2_afloatInAll_39 ?_
          refine lv_istore_n (lv' := [(1, .int ((smI (flF V) i) + 0)), (5, .ref (ad (i + 5))), (0, .ref (ad 0)), (2, .ref (ad 1)), (3, .int 6), (4, .int (nI i))]) hx hb dX2_afloatInAll_40 rfl hl (by decide) rfl (fun ls hl => ?_)
          rw [show (smI (flF V) i) + 0 = smI (flF V) (i + 1) from smI_s _ i ((by simp [flF, c_20]))] at hl
          refine lv_iinc (v := nI (i + 1)) (lv' := [(4, .int (nI (i + 1))), (1, .int (smI (flF V) (i + 1))), (5, .ref (ad (i + 5))), (0, .ref (ad 0)), (2, .ref (ad 1)), (3, .int 6)]) hx hb dX2_afloatInAll_41 hl (k := 5) rfl (by first | rfl | exact (nI_1 i)) (by decide) rfl (fun ls hl => ?_)
          refine lv_goto (tgt := 13) hx hb dX2_afloatInAll_44 (by decide) ?_
          exact ih (i + 1) _ (by omega) (by omega) (lv_sub hl [3, 1, 4, 5, 0] rfl)
        · refine lv_iconst (v := 1) hx hb dX2_afloatInAll_34 (by decide) ?_
          refine lv_goto (tgt := 39) hx hb dX2_afloatInAll_35 (by decide) ?_
          refine lv_iadd hx hb dX2_afloatInAll_39 ?_
          refine lv_istore_n (lv' := [(1, .int ((smI (flF V) i) + 1)), (5, .ref (ad (i + 5))), (0, .ref (ad 0)), (2, .ref (ad 1)), (3, .int 6), (4, .int (nI i))]) hx hb dX2_afloatInAll_40 rfl hl (by decide) rfl (fun ls hl => ?_)
          rw [show (smI (flF V) i) + 1 = smI (flF V) (i + 1) from smI_s _ i ((by simp [flF, c_20]))] at hl
          refine lv_iinc (v := nI (i + 1)) (lv' := [(4, .int (nI (i + 1))), (1, .int (smI (flF V) (i + 1))), (5, .ref (ad (i + 5))), (0, .ref (ad 0)), (2, .ref (ad 1)), (3, .int 6)]) hx hb dX2_afloatInAll_41 hl (k := 5) rfl (by first | rfl | exact (nI_1 i)) (by decide) rfl (fun ls hl => ?_)
          refine lv_goto (tgt := 13) hx hb dX2_afloatInAll_44 (by decide) ?_
          exact ih (i + 1) _ (by omega) (by omega) (lv_sub hl [3, 1, 4, 5, 0] rfl)
      · have e9i : 6 = i := by omega
        subst e9i
        refine lv_iload hx hb dX2_afloatInAll_13 (lv_at hl 4 rfl) ?_
        refine lv_iload_n hx hb dX2_afloatInAll_15 rfl (lv_at hl 3 rfl) ?_
        refine lv_icmp_ge (tgt := 47) hx hb dX2_afloatInAll_16 (by decide) (fun _ => ?_) (fun c9 => absurd (show (6 : Int32) ≤ nI 6 by decide) c9)
        refine lv_iload_n hx hb dX2_afloatInAll_47 rfl (lv_at hl 1 rfl) ?_
        subst hQ
        exact W.iret (v := smI (flF V) 6) hx hb hr (fun t ht hW => ⟨_, rfl, rfl, ht⟩) (fun _ h => by cases h) dX2_afloatInAll_48
  exact lp4 7 0 ls (by omega) (by omega) (lv_sub hl [4, 3, 2, 1, 0] rfl)
abbrev rmX2_afloatAt : Room := { frames := 1, cells := 0, slots := 0, locals := 21 }
set_option maxHeartbeats 4000000 in
set_option maxRecDepth 100000 in
/-- afloatAt(x) -/
theorem c_X2_afloatAt (l : Launch) (D : va_G) (y : Nat → ClassId) (ad : Nat → Nat) (V : Nat → Nat → Int32) (x : Int32) : RdI l D y yX2_afloatAt wsX2_afloatAt rmX2_afloatAt [.ref (ad 0), .int x] (rvW y ad V) (smI (afF V x) 6) := by
  refine mR (C := RX2) (cc := cX2_afloatAt) (maxL := 7) (ret := (some .int)) (by decide) rfl rfl (Nat.le_of_ble_eq_true rfl) ?_
  intro p e s m a below meth c ls Q hQ hx hb hr hts hown hlocks hml hP hK hN hl
  have hl : lv_has ls 7 [(0, .ref (ad 0)), (1, .int x)] := hl
  refine lv_iconst (v := 0) hx hb dX2_afloatAt_0 (by decide) ?_
  refine lv_istore_n (lv' := [(2, .int 0), (0, .ref (ad 0)), (1, .int x)]) hx hb dX2_afloatAt_1 rfl hl (by decide) rfl (fun ls hl => ?_)
  refine lv_aload_n hx hb dX2_afloatAt_2 rfl (lv_at hl 1 rfl) ?_
  have hin2 : ∀ w ∈ u_ws RX2 TX2 10, w ∈ wsX2_afloatAt := by decide +kernel
  have hf11 := hts (.fieldLink RX2 11 "CoracleMakers$River" "coracles" "[LCoracleMakers$Coracle;") (by decide +kernel)
  refine va_get (D := D) (ci := 2) (v := .ref (ad 1)) (C := RX2) (T := TX2) (N := 10) hx hb hts hin2 hown hK hP 0 (wf_at (by decide) rfl) rfl 0 (by decide) hf11 (fun _ h9 => h9) rfl dX2_afloatAt_3 ?_
  refine lv_astore_n (lv' := [(3, .ref (ad 1)), (2, .int 0), (0, .ref (ad 0)), (1, .int x)]) hx hb dX2_afloatAt_6 rfl hl (by decide) rfl (fun ls hl => ?_)
  refine lv_aload_n hx hb dX2_afloatAt_7 rfl (lv_at hl 0 rfl) ?_
  refine va_alen (v := 6) hx hb hK hP 1 3 (wf_at (by decide) rfl) rfl rfl dX2_afloatAt_8 ?_
  refine lv_istore (lv' := [(4, .int 6), (3, .ref (ad 1)), (2, .int 0), (0, .ref (ad 0)), (1, .int x)]) hx hb dX2_afloatAt_9 hl (by decide) rfl (fun ls hl => ?_)
  refine lv_iconst (v := 0) hx hb dX2_afloatAt_11 (by decide) ?_
  refine lv_istore (lv' := [(5, .int 0), (4, .int 6), (3, .ref (ad 1)), (2, .int 0), (0, .ref (ad 0)), (1, .int x)]) hx hb dX2_afloatAt_12 hl (by decide) rfl (fun ls hl => ?_)
  have hl : lv_has ls 7 [(5, .int (nI 0)), (4, .int 6), (3, .ref (ad 1)), (2, .int (smI (afF V x) 0)), (0, .ref (ad 0)), (1, .int x)] := hl
  have lp5 : ∀ (n i : Nat) (ls : Array Slot), 6 - i < n → i ≤ 6 → lv_has ls 7 [(0, .ref (ad 0)), (1, .int x), (2, .int (smI (afF V x) i)), (3, .ref (ad 1)), (4, .int 6), (5, .int (nI i))] → W p l e rmX2_afloatAt s m a below meth c s.heap [] 0 0 Q (F0 m 14 ls ([])) := by
    intro n
    induction n with
    | zero => intro i ls hn; exact absurd hn (Nat.not_lt_zero _)
    | succ n ih =>
      intro i ls hn hi hl
      rcases Nat.lt_or_ge i 6 with hiN | hiN
      · refine lv_iload hx hb dX2_afloatAt_14 (lv_at hl 5 rfl) ?_
        refine lv_iload hx hb dX2_afloatAt_16 (lv_at hl 4 rfl) ?_
        refine lv_icmp_ge (tgt := 50) hx hb dX2_afloatAt_18 (by decide) (fun c9 => absurd c9 (nI_ge hiN (by decide))) (fun _ => ?_)
        refine lv_aload_n hx hb dX2_afloatAt_21 rfl (lv_at hl 3 rfl) ?_
        refine lv_iload hx hb dX2_afloatAt_22 (lv_at hl 5 rfl) ?_
        refine va_aldq hx hb hK hP 1 3 (wf_at (by decide) rfl) rfl (vp_in_nI hiN (by decide)) dX2_afloatAt_24 ?_
        rw [show (nI i).toNatClampNeg = i from (nI_clamp (by omega))]
        refine W.eq (g2 := F0 m 25 ls (.ref (ad (i + 5)) :: [])) rfl ?_
        refine lv_astore (lv' := [(6, .ref (ad (i + 5))), (0, .ref (ad 0)), (1, .int x), (2, .int (smI (afF V x) i)), (3, .ref (ad 1)), (4, .int 6), (5, .int (nI i))]) hx hb dX2_afloatAt_25 hl (by decide) rfl (fun ls hl => ?_)
        refine lv_iload_n hx hb dX2_afloatAt_27 rfl (lv_at hl 3 rfl) ?_
        refine lv_aload hx hb dX2_afloatAt_28 (lv_at hl 0 rfl) ?_
        refine lv_iload_n hx hb dX2_afloatAt_30 rfl (lv_at hl 2 rfl) ?_
        refine cRI_V (As := [.int x]) (rest := [.int (smI (afF V x) i)]) ⟨hx, hb, hml, hown, hts⟩ (c_X0_isAfloatAt l D y (ad (i + 5)) (V (i + 5)) x) (cwV 1 hts gX2_afloatAt_X0_isAfloatAt rfl rfl rfl (by decide +kernel) ⟨Nat.le_of_ble_eq_true rfl, Nat.le_of_ble_eq_true rfl⟩) hK hN (P_m hP (rv_co y ad V hiN)) (va_recv hK hP (ci := 0) (q0 := (i + 5)) rfl (rv_co y ad V hiN)) rfl hl.1 rfl (Nat.le_of_ble_eq_true rfl) dX2_afloatAt_31 ⟨Nat.le_of_ble_eq_true rfl, Nat.le_of_ble_eq_true rfl⟩ ?_
        refine lv_if_eq (tgt := 41) hx hb dX2_afloatAt_34 (by decide) (fun c_21 => ?_) (fun c_21 => ?_)
        · refine lv_iconst (v := 0) hx hb dX2_afloatAt_41 (by decide) ?_
          refine lv_iadd hx hb dX2_afloatAt_42 ?_
          refine lv_istore_n (lv' := [(2, .int ((smI (afF V x) i) + 0)), (6, .ref (ad (i + 5))), (0, .ref (ad 0)), (1, .int x), (3, .ref (ad 1)), (4, .int 6), (5, .int (nI i))]) hx hb dX2_afloatAt_43 rfl hl (by decide) rfl (fun ls hl => ?_)
          rw [show (smI (afF V x) i) + 0 = smI (afF V x) (i + 1) from smI_s _ i ((by simp [afF, c_21]))] at hl
          refine lv_iinc (v := nI (i + 1)) (lv' := [(5, .int (nI (i + 1))), (2, .int (smI (afF V x) (i + 1))), (6, .ref (ad (i + 5))), (0, .ref (ad 0)), (1, .int x), (3, .ref (ad 1)), (4, .int 6)]) hx hb dX2_afloatAt_44 hl (k := 6) rfl (by first | rfl | exact (nI_1 i)) (by decide) rfl (fun ls hl => ?_)
          refine lv_goto (tgt := 14) hx hb dX2_afloatAt_47 (by decide) ?_
          exact ih (i + 1) _ (by omega) (by omega) (lv_sub hl [3, 4, 1, 5, 6, 0] rfl)
        · refine lv_iconst (v := 1) hx hb dX2_afloatAt_37 (by decide) ?_
          refine lv_goto (tgt := 42) hx hb dX2_afloatAt_38 (by decide) ?_
          refine lv_iadd hx hb dX2_afloatAt_42 ?_
          refine lv_istore_n (lv' := [(2, .int ((smI (afF V x) i) + 1)), (6, .ref (ad (i + 5))), (0, .ref (ad 0)), (1, .int x), (3, .ref (ad 1)), (4, .int 6), (5, .int (nI i))]) hx hb dX2_afloatAt_43 rfl hl (by decide) rfl (fun ls hl => ?_)
          rw [show (smI (afF V x) i) + 1 = smI (afF V x) (i + 1) from smI_s _ i ((by simp [afF, c_21]))] at hl
          refine lv_iinc (v := nI (i + 1)) (lv' := [(5, .int (nI (i + 1))), (2, .int (smI (afF V x) (i + 1))), (6, .ref (ad (i + 5))), (0, .ref (ad 0)), (1, .int x), (3, .ref (ad 1)), (4, .int 6)]) hx hb dX2_afloatAt_44 hl (k := 6) rfl (by first | rfl | exact (nI_1 i)) (by decide) rfl (fun ls hl => ?_)
          refine lv_goto (tgt := 14) hx hb dX2_afloatAt_47 (by decide) ?_
          exact ih (i + 1) _ (by omega) (by omega) (lv_sub hl [3, 4, 1, 5, 6, 0] rfl)
      · have e9i : 6 = i := by omega
        subst e9i
        refine lv_iload hx hb dX2_afloatAt_14 (lv_at hl 5 rfl) ?_
        refine lv_iload hx hb dX2_afloatAt_16 (lv_at hl 4 rfl) ?_
        refine lv_icmp_ge (tgt := 50) hx hb dX2_afloatAt_18 (by decide) (fun _ => ?_) (fun c9 => absurd (show (6 : Int32) ≤ nI 6 by decide) c9)
        refine lv_iload_n hx hb dX2_afloatAt_50 rfl (lv_at hl 2 rfl) ?_
        subst hQ
        exact W.iret (v := smI (afF V x) 6) hx hb hr (fun t ht hW => ⟨_, rfl, rfl, ht⟩) (fun _ h => by cases h) dX2_afloatAt_51
  exact lp5 7 0 ls (by omega) (by omega) (lv_sub hl [4, 5, 3, 2, 1, 0] rfl)
abbrev rmX2_tellOfNet : Room := { frames := 3, cells := 0, slots := 0, locals := 69 }
set_option maxHeartbeats 4000000 in
set_option maxRecDepth 100000 in
/-- tellOfNet(number, x) -/
theorem c_X2_tellOfNet (l : Launch) (D : va_G) (y : Nat → ClassId) (ad : Nat → Nat) (V : Nat → Nat → Int32) (n : Int32) (x : Int32) (hn : vp_in n 3) (hI : rvI V) : RdI l D y yX2_tellOfNet wsX2_tellOfNet rmX2_tellOfNet [.ref (ad 0), .int n, .int x] (rvW y ad V) (tnF V (ix n) x) := by
  refine mR (C := RX2) (cc := cX2_tellOfNet) (maxL := 4) (ret := (some .int)) (by decide) rfl rfl (Nat.le_of_ble_eq_true rfl) ?_
  intro p e s m a below meth c ls Q hQ hx hb hr hts hown hlocks hml hP hK hN hl
  have hl : lv_has ls 4 [(0, .ref (ad 0)), (1, .int n), (2, .int x)] := hl
  refine lv_aload_n hx hb dX2_tellOfNet_0 rfl (lv_at hl 0 rfl) ?_
  refine lv_iload_n hx hb dX2_tellOfNet_1 rfl (lv_at hl 1 rfl) ?_
  refine cRR_V (As := [.int n]) (rest := []) ⟨hx, hb, hml, hown, hts⟩ (c_X2_netOf l D y ad V n hn) (cwV 1 hts gX2_tellOfNet_X2_netOf rfl rfl rfl (by decide +kernel) ⟨Nat.le_of_ble_eq_true rfl, Nat.le_of_ble_eq_true rfl⟩) hK hN hP (va_recv hK hP (ci := 2) (q0 := 0) rfl (wf_at (by decide) rfl)) rfl hl.1 rfl (Nat.le_of_ble_eq_true rfl) dX2_tellOfNet_2 ⟨Nat.le_of_ble_eq_true rfl, Nat.le_of_ble_eq_true rfl⟩ ?_
  refine lv_astore_n (lv' := [(3, .ref (ad (ix n + 11))), (0, .ref (ad 0)), (1, .int n), (2, .int x)]) hx hb dX2_tellOfNet_5 rfl hl (by decide) rfl (fun ls hl => ?_)
  refine lv_iload_n hx hb dX2_tellOfNet_6 rfl (lv_at hl 3 rfl) ?_
  by_cases c0 : x = 0
  · refine lv_tableIn (tgt := 32) hx hb dX2_tellOfNet_7 (by rw [c0]; decide) (by rw [c0]; decide) (by rw [c0]; rfl) (by decide) ?_
    refine lv_aload_n hx hb dX2_tellOfNet_32 rfl (lv_at hl 0 rfl) ?_
    have hin1 : ∀ w ∈ u_ws RX1 TX1 3, w ∈ wsX2_tellOfNet := by decide +kernel
    have hf76 := hts (.fieldLink RX2 76 "CoracleMakers$Net" "first" "I") (by decide +kernel)
    refine va_get (D := D) (ci := 1) (v := .int (V (ix n + 11) 0)) (C := RX1) (T := TX1) (N := 3) hx hb hts hin1 hown hK hP (ix n + 11) (rv_ne y ad V (in_ix hn)) rfl 0 (by decide) hf76 (fun _ h9 => h9) rfl dX2_tellOfNet_33 ?_
    subst hQ
    exact W.iret (v := V (ix n + 11) 0) hx hb hr (fun t ht hW => ⟨_, rfl, (by simp [tnF, c0]), ht⟩) (fun _ h => by cases h) dX2_tellOfNet_36
  by_cases c1 : x = 1
  · refine lv_tableIn (tgt := 37) hx hb dX2_tellOfNet_7 (by rw [c1]; decide) (by rw [c1]; decide) (by rw [c1]; rfl) (by decide) ?_
    refine lv_aload_n hx hb dX2_tellOfNet_37 rfl (lv_at hl 0 rfl) ?_
    have hin1 : ∀ w ∈ u_ws RX1 TX1 3, w ∈ wsX2_tellOfNet := by decide +kernel
    have hf79 := hts (.fieldLink RX2 79 "CoracleMakers$Net" "second" "I") (by decide +kernel)
    refine va_get (D := D) (ci := 1) (v := .int (V (ix n + 11) 1)) (C := RX1) (T := TX1) (N := 3) hx hb hts hin1 hown hK hP (ix n + 11) (rv_ne y ad V (in_ix hn)) rfl 1 (by decide) hf79 (fun _ h9 => h9) rfl dX2_tellOfNet_38 ?_
    subst hQ
    exact W.iret (v := V (ix n + 11) 1) hx hb hr (fun t ht hW => ⟨_, rfl, (by simp [tnF, c0, c1]), ht⟩) (fun _ h => by cases h) dX2_tellOfNet_41
  by_cases c2 : x = 2
  · refine lv_tableIn (tgt := 42) hx hb dX2_tellOfNet_7 (by rw [c2]; decide) (by rw [c2]; decide) (by rw [c2]; rfl) (by decide) ?_
    refine lv_aload_n hx hb dX2_tellOfNet_42 rfl (lv_at hl 0 rfl) ?_
    have hin1 : ∀ w ∈ u_ws RX1 TX1 3, w ∈ wsX2_tellOfNet := by decide +kernel
    have hf135 := hts (.fieldLink RX2 135 "CoracleMakers$Net" "caught" "I") (by decide +kernel)
    refine va_get (D := D) (ci := 1) (v := .int (V (ix n + 11) 2)) (C := RX1) (T := TX1) (N := 3) hx hb hts hin1 hown hK hP (ix n + 11) (rv_ne y ad V (in_ix hn)) rfl 2 (by decide) hf135 (fun _ h9 => h9) rfl dX2_tellOfNet_43 ?_
    subst hQ
    exact W.iret (v := V (ix n + 11) 2) hx hb hr (fun t ht hW => ⟨_, rfl, (by simp [tnF, c0, c1, c2]), ht⟩) (fun _ h => by cases h) dX2_tellOfNet_46
  refine lv_tableOut (tgt := 47) hx hb dX2_tellOfNet_7 (sw_out x (n := 3) (by decide) (by decide) (fun j hj e => match j, hj, e with | 0, _, e => c0 e | 1, _, e => c1 e | 2, _, e => c2 e | j + 3, hj, _ => absurd hj (by omega))) (by decide) ?_
  refine lv_aload_n hx hb dX2_tellOfNet_47 rfl (lv_at hl 1 rfl) ?_
  refine lv_aload_n hx hb dX2_tellOfNet_48 rfl (lv_at hl 0 rfl) ?_
  refine cRI_V (As := [.ref (ad (ix n + 11))]) (rest := []) ⟨hx, hb, hml, hown, hts⟩ (c_X2_wouldCatch l D y ad V (ix n) (in_ix hn) hI) (cwV 1 hts gX2_tellOfNet_X2_wouldCatch rfl rfl rfl (by decide +kernel) ⟨Nat.le_of_ble_eq_true rfl, Nat.le_of_ble_eq_true rfl⟩) hK hN hP (va_recv hK hP (ci := 2) (q0 := 0) rfl (wf_at (by decide) rfl)) rfl hl.1 rfl (Nat.le_of_ble_eq_true rfl) dX2_tellOfNet_49 ⟨Nat.le_of_ble_eq_true rfl, Nat.le_of_ble_eq_true rfl⟩ ?_
  subst hQ
  exact W.iret (v := wcF V (ix n)) hx hb hr (fun t ht hW => ⟨_, rfl, (by simp [tnF, c0, c1, c2]), ht⟩) (fun _ h => by cases h) dX2_tellOfNet_52
abbrev rmX2_tellOfReach : Room := { frames := 2, cells := 0, slots := 0, locals := 47 }
set_option maxHeartbeats 4000000 in
set_option maxRecDepth 100000 in
/-- tellOfReach(x, z) -/
theorem c_X2_tellOfReach (l : Launch) (D : va_G) (y : Nat → ClassId) (ad : Nat → Nat) (V : Nat → Nat → Int32) (x z : Int32) (hx0 : vp_in x 16) : RdI l D y yX2_tellOfReach wsX2_tellOfReach rmX2_tellOfReach [.ref (ad 0), .int x, .int z] (rvW y ad V) (trF V x z) := by
  refine mR (C := RX2) (cc := cX2_tellOfReach) (maxL := 3) (ret := (some .int)) (by decide) rfl rfl (Nat.le_of_ble_eq_true rfl) ?_
  intro p e s m a below meth c ls Q hQ hx hb hr hts hown hlocks hml hP hK hN hl
  have hl : lv_has ls 3 [(0, .ref (ad 0)), (1, .int x), (2, .int z)] := hl
  refine lv_iload_n hx hb dX2_tellOfReach_0 rfl (lv_at hl 2 rfl) ?_
  refine lv_if_ne (tgt := 12) hx hb dX2_tellOfReach_1 (by decide) (fun c_22 => ?_) (fun c_22 => ?_)
  · refine lv_aload_n hx hb dX2_tellOfReach_12 rfl (lv_at hl 0 rfl) ?_
    refine lv_iload_n hx hb dX2_tellOfReach_13 rfl (lv_at hl 1 rfl) ?_
    refine cRI_V (As := [.int x]) (rest := []) ⟨hx, hb, hml, hown, hts⟩ (c_X2_afloatAt l D y ad V x) (cwV 1 hts gX2_tellOfReach_X2_afloatAt rfl rfl rfl (by decide +kernel) ⟨Nat.le_of_ble_eq_true rfl, Nat.le_of_ble_eq_true rfl⟩) hK hN hP (va_recv hK hP (ci := 2) (q0 := 0) rfl (wf_at (by decide) rfl)) rfl hl.1 rfl (Nat.le_of_ble_eq_true rfl) dX2_tellOfReach_14 ⟨Nat.le_of_ble_eq_true rfl, Nat.le_of_ble_eq_true rfl⟩ ?_
    subst hQ
    exact W.iret (v := smI (afF V x) 6) hx hb hr (fun t ht hW => ⟨_, rfl, (by simp [trF, c_22]), ht⟩) (fun _ h => by cases h) dX2_tellOfReach_17
  · refine lv_aload_n hx hb dX2_tellOfReach_4 rfl (lv_at hl 0 rfl) ?_
    refine lv_iload_n hx hb dX2_tellOfReach_5 rfl (lv_at hl 1 rfl) ?_
    refine cRI_V (As := [.int x]) (rest := []) ⟨hx, hb, hml, hown, hts⟩ (c_X2_salmonAt l D y ad V x hx0) (cwV 1 hts gX2_tellOfReach_X2_salmonAt rfl rfl rfl (by decide +kernel) ⟨Nat.le_of_ble_eq_true rfl, Nat.le_of_ble_eq_true rfl⟩) hK hN hP (va_recv hK hP (ci := 2) (q0 := 0) rfl (wf_at (by decide) rfl)) rfl hl.1 rfl (Nat.le_of_ble_eq_true rfl) dX2_tellOfReach_6 ⟨Nat.le_of_ble_eq_true rfl, Nat.le_of_ble_eq_true rfl⟩ ?_
    refine lv_goto (tgt := 17) hx hb dX2_tellOfReach_9 (by decide) ?_
    subst hQ
    exact W.iret (v := V 3 (ix x)) hx hb hr (fun t ht hW => ⟨_, rfl, (by simp [trF, c_22]), ht⟩) (fun _ h => by cases h) dX2_tellOfReach_17
abbrev rmX2_tellCount : Room := { frames := 1, cells := 0, slots := 0, locals := 25 }
set_option maxHeartbeats 4000000 in
set_option maxRecDepth 100000 in
/-- tellCount(x) -/
theorem c_X2_tellCount (l : Launch) (D : va_G) (y : Nat → ClassId) (ad : Nat → Nat) (V : Nat → Nat → Int32) (x : Int32) : RdI l D y yX2_tellCount wsX2_tellCount rmX2_tellCount [.ref (ad 0), .int x] (rvW y ad V) (tcF V x) := by
  refine mR (C := RX2) (cc := cX2_tellCount) (maxL := 2) (ret := (some .int)) (by decide) rfl rfl (Nat.le_of_ble_eq_true rfl) ?_
  intro p e s m a below meth c ls Q hQ hx hb hr hts hown hlocks hml hP hK hN hl
  have hl : lv_has ls 2 [(0, .ref (ad 0)), (1, .int x)] := hl
  refine lv_iload_n hx hb dX2_tellCount_0 rfl (lv_at hl 1 rfl) ?_
  by_cases c0 : x = 0
  · refine lv_tableIn (tgt := 64) hx hb dX2_tellCount_1 (by rw [c0]; decide) (by rw [c0]; decide) (by rw [c0]; rfl) (by decide) ?_
    refine lv_aload_n hx hb dX2_tellCount_64 rfl (lv_at hl 0 rfl) ?_
    have hin2 : ∀ w ∈ u_ws RX2 TX2 10, w ∈ wsX2_tellCount := by decide +kernel
    have hf49 := hts (.fieldLink RX2 49 "CoracleMakers$River" "hour" "I") (by decide +kernel)
    refine va_get (D := D) (ci := 2) (v := .int (V 0 0)) (C := RX2) (T := TX2) (N := 10) hx hb hts hin2 hown hK hP 0 (wf_at (by decide) rfl) rfl 4 (by decide) hf49 (fun _ h9 => h9) rfl dX2_tellCount_65 ?_
    subst hQ
    exact W.iret (v := V 0 0) hx hb hr (fun t ht hW => ⟨_, rfl, (by simp [tcF, c0]), ht⟩) (fun _ h => by cases h) dX2_tellCount_68
  by_cases c1 : x = 1
  · refine lv_tableIn (tgt := 69) hx hb dX2_tellCount_1 (by rw [c1]; decide) (by rw [c1]; decide) (by rw [c1]; rfl) (by decide) ?_
    refine lv_aload_n hx hb dX2_tellCount_69 rfl (lv_at hl 0 rfl) ?_
    have hin2 : ∀ w ∈ u_ws RX2 TX2 10, w ∈ wsX2_tellCount := by decide +kernel
    have hf30 := hts (.fieldLink RX2 30 "CoracleMakers$River" "coins" "I") (by decide +kernel)
    refine va_get (D := D) (ci := 2) (v := .int (V 0 1)) (C := RX2) (T := TX2) (N := 10) hx hb hts hin2 hown hK hP 0 (wf_at (by decide) rfl) rfl 5 (by decide) hf30 (fun _ h9 => h9) rfl dX2_tellCount_70 ?_
    subst hQ
    exact W.iret (v := V 0 1) hx hb hr (fun t ht hW => ⟨_, rfl, (by simp [tcF, c0, c1]), ht⟩) (fun _ h => by cases h) dX2_tellCount_73
  by_cases c2 : x = 2
  · refine lv_tableIn (tgt := 74) hx hb dX2_tellCount_1 (by rw [c2]; decide) (by rw [c2]; decide) (by rw [c2]; rfl) (by decide) ?_
    refine lv_aload_n hx hb dX2_tellCount_74 rfl (lv_at hl 0 rfl) ?_
    have hin2 : ∀ w ∈ u_ws RX2 TX2 10, w ∈ wsX2_tellCount := by decide +kernel
    have hf27 := hts (.fieldLink RX2 27 "CoracleMakers$River" "stores" "[I") (by decide +kernel)
    refine va_get (D := D) (ci := 2) (v := .ref (ad 4)) (C := RX2) (T := TX2) (N := 10) hx hb hts hin2 hown hK hP 0 (wf_at (by decide) rfl) rfl 3 (by decide) hf27 (fun _ h9 => h9) rfl dX2_tellCount_75 ?_
    refine lv_iconst (v := 3) hx hb dX2_tellCount_78 (by decide) ?_
    refine va_iald hx hb hK hP 4 0 (wf_at (by decide) rfl) rfl (show vp_in (3 : Int32) 4 from vp_in_nI (n := 3) (by decide) (by decide)) dX2_tellCount_79 ?_
    refine W.eq (g2 := F0 m 80 ls (.int (V 4 3) :: [])) rfl ?_
    subst hQ
    exact W.iret (v := V 4 3) hx hb hr (fun t ht hW => ⟨_, rfl, (by simp [tcF, c0, c1, c2]), ht⟩) (fun _ h => by cases h) dX2_tellCount_80
  by_cases c3 : x = 3
  · refine lv_tableIn (tgt := 81) hx hb dX2_tellCount_1 (by rw [c3]; decide) (by rw [c3]; decide) (by rw [c3]; rfl) (by decide) ?_
    refine lv_aload_n hx hb dX2_tellCount_81 rfl (lv_at hl 0 rfl) ?_
    have hin2 : ∀ w ∈ u_ws RX2 TX2 10, w ∈ wsX2_tellCount := by decide +kernel
    have hf52 := hts (.fieldLink RX2 52 "CoracleMakers$River" "made" "I") (by decide +kernel)
    refine va_get (D := D) (ci := 2) (v := .int (V 0 2)) (C := RX2) (T := TX2) (N := 10) hx hb hts hin2 hown hK hP 0 (wf_at (by decide) rfl) rfl 6 (by decide) hf52 (fun _ h9 => h9) rfl dX2_tellCount_82 ?_
    subst hQ
    exact W.iret (v := V 0 2) hx hb hr (fun t ht hW => ⟨_, rfl, (by simp [tcF, c0, c1, c2, c3]), ht⟩) (fun _ h => by cases h) dX2_tellCount_85
  by_cases c4 : x = 4
  · refine lv_tableIn (tgt := 86) hx hb dX2_tellCount_1 (by rw [c4]; decide) (by rw [c4]; decide) (by rw [c4]; rfl) (by decide) ?_
    refine lv_aload_n hx hb dX2_tellCount_86 rfl (lv_at hl 0 rfl) ?_
    refine cRI_V (As := []) (rest := []) ⟨hx, hb, hml, hown, hts⟩ (c_X2_afloatInAll l D y ad V) (cwV 0 hts gX2_tellCount_X2_afloatInAll rfl rfl rfl (by decide +kernel) ⟨Nat.le_of_ble_eq_true rfl, Nat.le_of_ble_eq_true rfl⟩) hK hN hP (va_recv hK hP (ci := 2) (q0 := 0) rfl (wf_at (by decide) rfl)) rfl hl.1 rfl (Nat.le_of_ble_eq_true rfl) dX2_tellCount_87 ⟨Nat.le_of_ble_eq_true rfl, Nat.le_of_ble_eq_true rfl⟩ ?_
    subst hQ
    exact W.iret (v := smI (flF V) 6) hx hb hr (fun t ht hW => ⟨_, rfl, (by simp [tcF, c0, c1, c2, c3, c4]), ht⟩) (fun _ h => by cases h) dX2_tellCount_90
  by_cases c5 : x = 5
  · refine lv_tableIn (tgt := 91) hx hb dX2_tellCount_1 (by rw [c5]; decide) (by rw [c5]; decide) (by rw [c5]; rfl) (by decide) ?_
    refine lv_aload_n hx hb dX2_tellCount_91 rfl (lv_at hl 0 rfl) ?_
    have hin2 : ∀ w ∈ u_ws RX2 TX2 10, w ∈ wsX2_tellCount := by decide +kernel
    have hf55 := hts (.fieldLink RX2 55 "CoracleMakers$River" "tied" "I") (by decide +kernel)
    refine va_get (D := D) (ci := 2) (v := .int (V 0 3)) (C := RX2) (T := TX2) (N := 10) hx hb hts hin2 hown hK hP 0 (wf_at (by decide) rfl) rfl 7 (by decide) hf55 (fun _ h9 => h9) rfl dX2_tellCount_92 ?_
    subst hQ
    exact W.iret (v := V 0 3) hx hb hr (fun t ht hW => ⟨_, rfl, (by simp [tcF, c0, c1, c2, c3, c4, c5]), ht⟩) (fun _ h => by cases h) dX2_tellCount_95
  by_cases c6 : x = 6
  · refine lv_tableIn (tgt := 96) hx hb dX2_tellCount_1 (by rw [c6]; decide) (by rw [c6]; decide) (by rw [c6]; rfl) (by decide) ?_
    refine lv_aload_n hx hb dX2_tellCount_96 rfl (lv_at hl 0 rfl) ?_
    refine cRI_V (As := []) (rest := []) ⟨hx, hb, hml, hown, hts⟩ (c_X2_loadOfAll l D y ad V) (cwV 0 hts gX2_tellCount_X2_loadOfAll rfl rfl rfl (by decide +kernel) ⟨Nat.le_of_ble_eq_true rfl, Nat.le_of_ble_eq_true rfl⟩) hK hN hP (va_recv hK hP (ci := 2) (q0 := 0) rfl (wf_at (by decide) rfl)) rfl hl.1 rfl (Nat.le_of_ble_eq_true rfl) dX2_tellCount_97 ⟨Nat.le_of_ble_eq_true rfl, Nat.le_of_ble_eq_true rfl⟩ ?_
    subst hQ
    exact W.iret (v := smI (fun k => V (k + 5) 7) 6) hx hb hr (fun t ht hW => ⟨_, rfl, (by simp [tcF, c0, c1, c2, c3, c4, c5, c6]), ht⟩) (fun _ h => by cases h) dX2_tellCount_100
  by_cases c7 : x = 7
  · refine lv_tableIn (tgt := 101) hx hb dX2_tellCount_1 (by rw [c7]; decide) (by rw [c7]; decide) (by rw [c7]; rfl) (by decide) ?_
    refine lv_aload_n hx hb dX2_tellCount_101 rfl (lv_at hl 0 rfl) ?_
    refine cRI_V (As := []) (rest := []) ⟨hx, hb, hml, hown, hts⟩ (c_X2_salmonOfAll l D y ad V) (cwV 0 hts gX2_tellCount_X2_salmonOfAll rfl rfl rfl (by decide +kernel) ⟨Nat.le_of_ble_eq_true rfl, Nat.le_of_ble_eq_true rfl⟩) hK hN hP (va_recv hK hP (ci := 2) (q0 := 0) rfl (wf_at (by decide) rfl)) rfl hl.1 rfl (Nat.le_of_ble_eq_true rfl) dX2_tellCount_102 ⟨Nat.le_of_ble_eq_true rfl, Nat.le_of_ble_eq_true rfl⟩ ?_
    subst hQ
    exact W.iret (v := smI (V 3) 16) hx hb hr (fun t ht hW => ⟨_, rfl, (by simp [tcF, c0, c1, c2, c3, c4, c5, c6, c7]), ht⟩) (fun _ h => by cases h) dX2_tellCount_105
  by_cases c8 : x = 8
  · refine lv_tableIn (tgt := 106) hx hb dX2_tellCount_1 (by rw [c8]; decide) (by rw [c8]; decide) (by rw [c8]; rfl) (by decide) ?_
    refine lv_aload_n hx hb dX2_tellCount_106 rfl (lv_at hl 0 rfl) ?_
    have hin2 : ∀ w ∈ u_ws RX2 TX2 10, w ∈ wsX2_tellCount := by decide +kernel
    have hf58 := hts (.fieldLink RX2 58 "CoracleMakers$River" "sold" "I") (by decide +kernel)
    refine va_get (D := D) (ci := 2) (v := .int (V 0 4)) (C := RX2) (T := TX2) (N := 10) hx hb hts hin2 hown hK hP 0 (wf_at (by decide) rfl) rfl 8 (by decide) hf58 (fun _ h9 => h9) rfl dX2_tellCount_107 ?_
    subst hQ
    exact W.iret (v := V 0 4) hx hb hr (fun t ht hW => ⟨_, rfl, (by simp [tcF, c0, c1, c2, c3, c4, c5, c6, c7, c8]), ht⟩) (fun _ h => by cases h) dX2_tellCount_110
  by_cases c9 : x = 9
  · refine lv_tableIn (tgt := 111) hx hb dX2_tellCount_1 (by rw [c9]; decide) (by rw [c9]; decide) (by rw [c9]; rfl) (by decide) ?_
    refine lv_aload_n hx hb dX2_tellCount_111 rfl (lv_at hl 0 rfl) ?_
    have hin2 : ∀ w ∈ u_ws RX2 TX2 10, w ∈ wsX2_tellCount := by decide +kernel
    have hf61 := hts (.fieldLink RX2 61 "CoracleMakers$River" "spawned" "I") (by decide +kernel)
    refine va_get (D := D) (ci := 2) (v := .int (V 0 5)) (C := RX2) (T := TX2) (N := 10) hx hb hts hin2 hown hK hP 0 (wf_at (by decide) rfl) rfl 9 (by decide) hf61 (fun _ h9 => h9) rfl dX2_tellCount_112 ?_
    subst hQ
    exact W.iret (v := V 0 5) hx hb hr (fun t ht hW => ⟨_, rfl, (by simp [tcF, c0, c1, c2, c3, c4, c5, c6, c7, c8, c9]), ht⟩) (fun _ h => by cases h) dX2_tellCount_115
  by_cases c10 : x = 10
  · refine lv_tableIn (tgt := 116) hx hb dX2_tellCount_1 (by rw [c10]; decide) (by rw [c10]; decide) (by rw [c10]; rfl) (by decide) ?_
    refine lv_aload_n hx hb dX2_tellCount_116 rfl (lv_at hl 0 rfl) ?_
    have hin2 : ∀ w ∈ u_ws RX2 TX2 10, w ∈ wsX2_tellCount := by decide +kernel
    have hf27 := hts (.fieldLink RX2 27 "CoracleMakers$River" "stores" "[I") (by decide +kernel)
    refine va_get (D := D) (ci := 2) (v := .ref (ad 4)) (C := RX2) (T := TX2) (N := 10) hx hb hts hin2 hown hK hP 0 (wf_at (by decide) rfl) rfl 3 (by decide) hf27 (fun _ h9 => h9) rfl dX2_tellCount_117 ?_
    refine lv_iconst (v := 0) hx hb dX2_tellCount_120 (by decide) ?_
    refine va_iald hx hb hK hP 4 0 (wf_at (by decide) rfl) rfl (show vp_in (0 : Int32) 4 from vp_in_nI (n := 0) (by decide) (by decide)) dX2_tellCount_121 ?_
    refine W.eq (g2 := F0 m 122 ls (.int (V 4 0) :: [])) rfl ?_
    subst hQ
    exact W.iret (v := V 4 0) hx hb hr (fun t ht hW => ⟨_, rfl, (by simp [tcF, c0, c1, c2, c3, c4, c5, c6, c7, c8, c9, c10]), ht⟩) (fun _ h => by cases h) dX2_tellCount_122
  by_cases c11 : x = 11
  · refine lv_tableIn (tgt := 123) hx hb dX2_tellCount_1 (by rw [c11]; decide) (by rw [c11]; decide) (by rw [c11]; rfl) (by decide) ?_
    refine lv_aload_n hx hb dX2_tellCount_123 rfl (lv_at hl 0 rfl) ?_
    have hin2 : ∀ w ∈ u_ws RX2 TX2 10, w ∈ wsX2_tellCount := by decide +kernel
    have hf27 := hts (.fieldLink RX2 27 "CoracleMakers$River" "stores" "[I") (by decide +kernel)
    refine va_get (D := D) (ci := 2) (v := .ref (ad 4)) (C := RX2) (T := TX2) (N := 10) hx hb hts hin2 hown hK hP 0 (wf_at (by decide) rfl) rfl 3 (by decide) hf27 (fun _ h9 => h9) rfl dX2_tellCount_124 ?_
    refine lv_iconst (v := 1) hx hb dX2_tellCount_127 (by decide) ?_
    refine va_iald hx hb hK hP 4 0 (wf_at (by decide) rfl) rfl (show vp_in (1 : Int32) 4 from vp_in_nI (n := 1) (by decide) (by decide)) dX2_tellCount_128 ?_
    refine W.eq (g2 := F0 m 129 ls (.int (V 4 1) :: [])) rfl ?_
    subst hQ
    exact W.iret (v := V 4 1) hx hb hr (fun t ht hW => ⟨_, rfl, (by simp [tcF, c0, c1, c2, c3, c4, c5, c6, c7, c8, c9, c10, c11]), ht⟩) (fun _ h => by cases h) dX2_tellCount_129
  refine lv_tableOut (tgt := 130) hx hb dX2_tellCount_1 (sw_out x (n := 12) (by decide) (by decide) (fun j hj e => match j, hj, e with | 0, _, e => c0 e | 1, _, e => c1 e | 2, _, e => c2 e | 3, _, e => c3 e | 4, _, e => c4 e | 5, _, e => c5 e | 6, _, e => c6 e | 7, _, e => c7 e | 8, _, e => c8 e | 9, _, e => c9 e | 10, _, e => c10 e | 11, _, e => c11 e | j + 12, hj, _ => absurd hj (by omega))) (by decide) ?_
  refine lv_aload_n hx hb dX2_tellCount_130 rfl (lv_at hl 0 rfl) ?_
  have hin2 : ∀ w ∈ u_ws RX2 TX2 10, w ∈ wsX2_tellCount := by decide +kernel
  have hf27 := hts (.fieldLink RX2 27 "CoracleMakers$River" "stores" "[I") (by decide +kernel)
  refine va_get (D := D) (ci := 2) (v := .ref (ad 4)) (C := RX2) (T := TX2) (N := 10) hx hb hts hin2 hown hK hP 0 (wf_at (by decide) rfl) rfl 3 (by decide) hf27 (fun _ h9 => h9) rfl dX2_tellCount_131 ?_
  refine lv_iconst (v := 2) hx hb dX2_tellCount_134 (by decide) ?_
  refine va_iald hx hb hK hP 4 0 (wf_at (by decide) rfl) rfl (show vp_in (2 : Int32) 4 from vp_in_nI (n := 2) (by decide) (by decide)) dX2_tellCount_135 ?_
  refine W.eq (g2 := F0 m 136 ls (.int (V 4 2) :: [])) rfl ?_
  subst hQ
  exact W.iret (v := V 4 2) hx hb hr (fun t ht hW => ⟨_, rfl, (by simp [tcF, c0, c1, c2, c3, c4, c5, c6, c7, c8, c9, c10, c11]), ht⟩) (fun _ h => by cases h) dX2_tellCount_136
