theorem cm_tar (G : FV) (S : FV) (x1 : Int32) : taM G S x1 ≤ 3 := by
  unfold taM
  (repeat' split) <;> decide
set_option maxHeartbeats 4000000 in
set_option maxRecDepth 100000 in
/-- case tar -/
theorem lc_tar {p : Program} {l : Launch} {e : Env} {s : State} {m : MethodId} {below : List Frame} {meth : Method} {c : Code} {b L : Nat} {xs : Nat → Int32} {Q : State → Prop} {D : va_G} {y : Nat → ClassId} {ao ac an ar am bs ba : Nat → Nat} (C0 : LCx p l s m meth c b L xs D y ao ac an ar am bs ba) {i B cells slots : Nat} (hi : i + 4 ≤ L) (hL : L ≤ 2048) (hB : B + 200 < 2 ^ 31) (hcl : cells + 4 ≤ 667962) (hsl : slots + 24 ≤ 7092219) (next : LGo p l e s m below meth c b Q D y ao ac an ar am bs ba 1279 i (B + 40) (cells + 4) (slots + 24)) : LGo p l e s m below meth c b Q D y ao ac an ar am bs ba 548 i B cells slots := by
  obtain ⟨hx, hb, hr, hml, hown, hts, hXs, hbl, hlocks, hK, hN, hE, hX, hD, hst⟩ := C0
  intro v K V U F S X H locs ls R hP hS hl
  have hA : ∀ q : Nat, s.heap.size ≤ q → lwA s q := fun _ h => h
  have hbA : ¬ lwA s b := Nat.not_le.mpr hbl
  have a1 : vp_in (nI i + 1) L := by rw [nI_p1]; exact vp_in_nI (by omega) (by omega)
  obtain ⟨x1, hx1⟩ : ∃ z, z = xs (Int32.toNatClampNeg (nI i + 1)) := ⟨_, rfl⟩
  have hcl9 := op_tar R (th_0 F) x1
  refine lv_aload_n hx hb dL_law_548 rfl (lv_at hl 1 rfl) ?_
  refine lv_aload_n hx hb dL_law_549 rfl (lv_at hl 0 rfl) ?_
  refine lv_iload hx hb dL_law_550 (lv_at hl 4 rfl) ?_
  refine lv_iconst (v := 1) hx hb dL_law_552 (by decide) ?_
  refine lv_iadd hx hb dL_law_553 ?_
  refine va_sld hx hb hXs hbl hbA hS a1 dL_law_554 ?_
  rw [← hx1]
  refine lv_aload_n hx hb dL_law_555 rfl (lv_at hl 3 rfl) ?_
  refine cLW (As := [.ref (ac 0), .int x1, .ref (ao 0)]) (rest := []) ⟨hx, hb, hml, hown, hts⟩ (c_L_tar l D y _ hst ao ac an ar v K V U x1 R.1.2.2.2.2.2.2.2.1) (vx_cwSW 3 hts gL_law_L_tar rfl rfl rfl (by decide +kernel) ⟨Nat.le_of_ble_eq_true rfl, Nat.le_of_ble_eq_true rfl⟩) hK hN hE hX (P_l hP) (by rw [lwW_fst]; exact aD_l hD) hS hA rfl hl.1 rfl (Nat.le_of_ble_eq_true rfl) dL_law_556 ⟨show cells + 2 ≤ 667962 by omega, show slots + 12 ≤ 7092219 by omega⟩ (fun v2 K2 V2 U2 H locs q1 q2 hP9 hk9 hS => ?_)
  have hP : va_P D vwCl (lawW y ao ac an ar am bs ba v2 K2 V2 U2 F S X) H := fr_l hP (by rw [lwW_fst, moA_fst]; exact hD) hk9 hP9
  refine lv_istore (lv' := [(5, .int (nI (lkT (taC V x1)))), (0, .ref b), (1, .ref (ac 0)), (2, .ref (am 0)), (3, .ref (ao 0)), (4, .int (nI i))]) hx hb dL_law_559 hl (by decide) rfl (fun ls hl => ?_)
  refine lv_aload_n hx hb dL_law_561 rfl (lv_at hl 3 rfl) ?_
  refine lv_aload_n hx hb dL_law_562 rfl (lv_at hl 1 rfl) ?_
  refine lv_iload hx hb dL_law_563 (lv_at hl 5 rfl) ?_
  refine lv_iconst (v := 1) hx hb dL_law_565 (by decide) ?_
  refine lv_iadd hx hb dL_law_566 ?_
  refine va_sld hx hb hXs hbl hbA hS a1 dL_law_567 ?_
  rw [← hx1]
  refine cMd_V (S := FV) (As := [.int x1]) (rest := []) ⟨hx, hb, hml, hown, hts⟩ (c_X5_tar l D y _ am bs ba F S X x1 (by rw [R.1.1]; exact R.1.2.2.2.2.2.2.2.1)) (cwV 1 hts gL_law_X5_tar rfl rfl rfl (by decide +kernel) ⟨Nat.le_of_ble_eq_true rfl, Nat.le_of_ble_eq_true rfl⟩) hK hN (P_r hP) (by rw [moA_fst]; exact aD_r hD) hS hA (va_recv hK (P_r hP) (ci := 5) (q0 := 0) rfl (ap_l (wf_at (by decide) rfl))) rfl hl.1 rfl (Nat.le_of_ble_eq_true rfl) dL_law_568 ⟨show cells + 2 + 0 ≤ 667962 by omega, show slots + 12 + 0 ≤ 7092219 by omega⟩ (fun r9 u9 H locs w1 w2 w3 hk9 hS => ?_)
  obtain ⟨F2, S2, X2, hP9, f0, f1, f2⟩ := md_u (F1 := (th F)) (S1 := (taU S (ix x1))) (u := u9) w2 w3 (fun z => (hcl9.2.2 (hcl9.2.1.mpr z)).2.2)
  have hP : va_P D vwCl (lawW y ao ac an ar am bs ba v2 K2 V2 U2 F2 S2 X2) H := fr_r hP (by rw [lwW_fst, moA_fst]; exact hD) hk9 hP9
  refine lv_istore (lv' := [(6, .int r9), (5, .int (nI (lkT (taC V x1)))), (0, .ref b), (1, .ref (ac 0)), (2, .ref (am 0)), (3, .ref (ao 0)), (4, .int (nI i))]) hx hb dL_law_571 hl (by decide) rfl (fun ls hl => ?_)
  refine lv_aload_n hx hb dL_law_573 rfl (lv_at hl 4 rfl) ?_
  refine cRI_V (As := []) (rest := []) ⟨hx, hb, hml, hown, hts⟩ (c_X5_thrown l D y am (bs 0) (ba 0) F2) (cwV 0 hts gL_law_X5_thrown rfl rfl rfl (by decide +kernel) ⟨Nat.le_of_ble_eq_true rfl, Nat.le_of_ble_eq_true rfl⟩) hK hN (P_l (P_r hP)) (va_recv hK (P_r hP) (ci := 5) (q0 := 0) rfl (ap_l (wf_at (by decide) rfl))) rfl hl.1 rfl (Nat.le_of_ble_eq_true rfl) dL_law_574 ⟨show cells + 2 + 0 ≤ 667962 by omega, show slots + 12 + 0 ≤ 7092219 by omega⟩ ?_
  rw [f0]
  refine lv_iload hx hb dL_law_577 (lv_at hl 1 rfl) ?_
  refine lv_icmp_eq (tgt := 584) hx hb dL_law_579 (by decide) (fun _ => ?_) (fun c9 => absurd (by rw [hcl9.1]) c9)
  have fin : ∀ ls : Array Slot, lv_has ls 9 [(6, .int r9), (5, .int (nI (lkT (taC V x1)))), (0, .ref b), (1, .ref (ac 0)), (2, .ref (am 0)), (3, .ref (ao 0)), (4, .int (nI i))] → W p l e room_1 s m #[Value.ref b] below meth c H locs (cells + 2) (slots + 12) Q (F0 m 601 ls []) := fun ls hl => by
    refine lv_goto (tgt := 1279) hx hb dL_law_601 (by decide) ?_
    refine W.widen (k := cells + 4) (n := slots + 24) (by omega) (by omega) ?_
    exact next v2 K2 V2 U2 F2 S2 X2 H locs ls (cl_fin R hcl9 (fun z => (q1 z).2) q2 f1 f2) hP hS (lv_sub hl [2, 3, 4, 5, 6] rfl)
  refine lv_iload hx hb dL_law_584 (lv_at hl 1 rfl) ?_
  refine lv_if_ne (tgt := 601) hx hb dL_law_586 (by decide) (fun _ => fin ls hl) (fun c9 => ?_)
  obtain ⟨z1, z2⟩ := cl_z hcl9 (cm_tar (th F) S x1) c9
  have e9 : v2 (Int32.toNatClampNeg 0) = r9.toInt64 := by rw [w1 z2, ← (hcl9.2.2 z1).1]; exact (q1 z1).1
  refine lv_aload_n hx hb dL_law_589 rfl (lv_at hl 5 rfl) ?_
  refine lv_iconst (v := 0) hx hb dL_law_590 (by decide) ?_
  refine va_lald hx hb hK hP 0 2 (ap_l (ap_l (wf_at (by decide) rfl))) rfl (show vp_in (0 : Int32) 1 from vp_in_nI (n := 0) (by decide) (by decide)) dL_law_591 ?_
  rw [e9]
  refine lv_iload hx hb dL_law_592 (lv_at hl 0 rfl) ?_
  refine lv_i2l (v := r9.toInt64) hx hb dL_law_594 rfl ?_
  refine W.lcmp hx hb dL_law_595 ?_
  exact lv_if_eq (tgt := 601) hx hb dL_law_596 (by decide) (fun _ => fin ls hl) (fun c9 => absurd (lg_s _) c9)
theorem cm_land (G : FV) (S : FV) (x1 : Int32) : laM G S x1 ≤ 3 := by
  unfold laM
  (repeat' split) <;> decide
set_option maxHeartbeats 4000000 in
set_option maxRecDepth 100000 in
/-- case land -/
theorem lc_land {p : Program} {l : Launch} {e : Env} {s : State} {m : MethodId} {below : List Frame} {meth : Method} {c : Code} {b L : Nat} {xs : Nat → Int32} {Q : State → Prop} {D : va_G} {y : Nat → ClassId} {ao ac an ar am bs ba : Nat → Nat} (C0 : LCx p l s m meth c b L xs D y ao ac an ar am bs ba) {i B cells slots : Nat} (hi : i + 4 ≤ L) (hL : L ≤ 2048) (hB : B + 200 < 2 ^ 31) (hcl : cells + 4 ≤ 667962) (hsl : slots + 24 ≤ 7092219) (next : LGo p l e s m below meth c b Q D y ao ac an ar am bs ba 1279 i (B + 40) (cells + 4) (slots + 24)) : LGo p l e s m below meth c b Q D y ao ac an ar am bs ba 604 i B cells slots := by
  obtain ⟨hx, hb, hr, hml, hown, hts, hXs, hbl, hlocks, hK, hN, hE, hX, hD, hst⟩ := C0
  intro v K V U F S X H locs ls R hP hS hl
  have hA : ∀ q : Nat, s.heap.size ≤ q → lwA s q := fun _ h => h
  have hbA : ¬ lwA s b := Nat.not_le.mpr hbl
  have a1 : vp_in (nI i + 1) L := by rw [nI_p1]; exact vp_in_nI (by omega) (by omega)
  obtain ⟨x1, hx1⟩ : ∃ z, z = xs (Int32.toNatClampNeg (nI i + 1)) := ⟨_, rfl⟩
  have hcl9 := op_land R (th_0 F) x1
  refine lv_aload_n hx hb dL_law_604 rfl (lv_at hl 1 rfl) ?_
  refine lv_aload_n hx hb dL_law_605 rfl (lv_at hl 0 rfl) ?_
  refine lv_iload hx hb dL_law_606 (lv_at hl 4 rfl) ?_
  refine lv_iconst (v := 1) hx hb dL_law_608 (by decide) ?_
  refine lv_iadd hx hb dL_law_609 ?_
  refine va_sld hx hb hXs hbl hbA hS a1 dL_law_610 ?_
  rw [← hx1]
  refine lv_aload_n hx hb dL_law_611 rfl (lv_at hl 3 rfl) ?_
  refine cLW (As := [.ref (ac 0), .int x1, .ref (ao 0)]) (rest := []) ⟨hx, hb, hml, hown, hts⟩ (c_L_land l D y _ hst ao ac an ar v K V U x1 R.1.2.2.2.2.2.2.2.1) (vx_cwSW 3 hts gL_law_L_land rfl rfl rfl (by decide +kernel) ⟨Nat.le_of_ble_eq_true rfl, Nat.le_of_ble_eq_true rfl⟩) hK hN hE hX (P_l hP) (by rw [lwW_fst]; exact aD_l hD) hS hA rfl hl.1 rfl (Nat.le_of_ble_eq_true rfl) dL_law_612 ⟨show cells + 2 ≤ 667962 by omega, show slots + 12 ≤ 7092219 by omega⟩ (fun v2 K2 V2 U2 H locs q1 q2 hP9 hk9 hS => ?_)
  have hP : va_P D vwCl (lawW y ao ac an ar am bs ba v2 K2 V2 U2 F S X) H := fr_l hP (by rw [lwW_fst, moA_fst]; exact hD) hk9 hP9
  refine lv_istore (lv' := [(5, .int (nI (lkT (laC V x1)))), (0, .ref b), (1, .ref (ac 0)), (2, .ref (am 0)), (3, .ref (ao 0)), (4, .int (nI i))]) hx hb dL_law_615 hl (by decide) rfl (fun ls hl => ?_)
  refine lv_aload_n hx hb dL_law_617 rfl (lv_at hl 3 rfl) ?_
  refine lv_aload_n hx hb dL_law_618 rfl (lv_at hl 1 rfl) ?_
  refine lv_iload hx hb dL_law_619 (lv_at hl 5 rfl) ?_
  refine lv_iconst (v := 1) hx hb dL_law_621 (by decide) ?_
  refine lv_iadd hx hb dL_law_622 ?_
  refine va_sld hx hb hXs hbl hbA hS a1 dL_law_623 ?_
  rw [← hx1]
  refine cMd_V (S := FV) (As := [.int x1]) (rest := []) ⟨hx, hb, hml, hown, hts⟩ (c_X5_land l D y _ am bs ba F S X x1 (by rw [R.1.1]; exact R.1.2.2.2.2.2.2.2.1)) (cwV 1 hts gL_law_X5_land rfl rfl rfl (by decide +kernel) ⟨Nat.le_of_ble_eq_true rfl, Nat.le_of_ble_eq_true rfl⟩) hK hN (P_r hP) (by rw [moA_fst]; exact aD_r hD) hS hA (va_recv hK (P_r hP) (ci := 5) (q0 := 0) rfl (ap_l (wf_at (by decide) rfl))) rfl hl.1 rfl (Nat.le_of_ble_eq_true rfl) dL_law_624 ⟨show cells + 2 + 0 ≤ 667962 by omega, show slots + 12 + 0 ≤ 7092219 by omega⟩ (fun r9 u9 H locs w1 w2 w3 hk9 hS => ?_)
  obtain ⟨F2, S2, X2, hP9, f0, f1, f2⟩ := md_u (F1 := (th F)) (S1 := (laU S (ix x1))) (u := u9) w2 w3 (fun z => (hcl9.2.2 (hcl9.2.1.mpr z)).2.2)
  have hP : va_P D vwCl (lawW y ao ac an ar am bs ba v2 K2 V2 U2 F2 S2 X2) H := fr_r hP (by rw [lwW_fst, moA_fst]; exact hD) hk9 hP9
  refine lv_istore (lv' := [(6, .int r9), (5, .int (nI (lkT (laC V x1)))), (0, .ref b), (1, .ref (ac 0)), (2, .ref (am 0)), (3, .ref (ao 0)), (4, .int (nI i))]) hx hb dL_law_627 hl (by decide) rfl (fun ls hl => ?_)
  refine lv_aload_n hx hb dL_law_629 rfl (lv_at hl 4 rfl) ?_
  refine cRI_V (As := []) (rest := []) ⟨hx, hb, hml, hown, hts⟩ (c_X5_thrown l D y am (bs 0) (ba 0) F2) (cwV 0 hts gL_law_X5_thrown rfl rfl rfl (by decide +kernel) ⟨Nat.le_of_ble_eq_true rfl, Nat.le_of_ble_eq_true rfl⟩) hK hN (P_l (P_r hP)) (va_recv hK (P_r hP) (ci := 5) (q0 := 0) rfl (ap_l (wf_at (by decide) rfl))) rfl hl.1 rfl (Nat.le_of_ble_eq_true rfl) dL_law_630 ⟨show cells + 2 + 0 ≤ 667962 by omega, show slots + 12 + 0 ≤ 7092219 by omega⟩ ?_
  rw [f0]
  refine lv_iload hx hb dL_law_633 (lv_at hl 1 rfl) ?_
  refine lv_icmp_eq (tgt := 640) hx hb dL_law_635 (by decide) (fun _ => ?_) (fun c9 => absurd (by rw [hcl9.1]) c9)
  have fin : ∀ ls : Array Slot, lv_has ls 9 [(6, .int r9), (5, .int (nI (lkT (laC V x1)))), (0, .ref b), (1, .ref (ac 0)), (2, .ref (am 0)), (3, .ref (ao 0)), (4, .int (nI i))] → W p l e room_1 s m #[Value.ref b] below meth c H locs (cells + 2) (slots + 12) Q (F0 m 657 ls []) := fun ls hl => by
    refine lv_goto (tgt := 1279) hx hb dL_law_657 (by decide) ?_
    refine W.widen (k := cells + 4) (n := slots + 24) (by omega) (by omega) ?_
    exact next v2 K2 V2 U2 F2 S2 X2 H locs ls (cl_fin R hcl9 (fun z => (q1 z).2) q2 f1 f2) hP hS (lv_sub hl [2, 3, 4, 5, 6] rfl)
  refine lv_iload hx hb dL_law_640 (lv_at hl 1 rfl) ?_
  refine lv_if_ne (tgt := 657) hx hb dL_law_642 (by decide) (fun _ => fin ls hl) (fun c9 => ?_)
  obtain ⟨z1, z2⟩ := cl_z hcl9 (cm_land (th F) S x1) c9
  have e9 : v2 (Int32.toNatClampNeg 0) = r9.toInt64 := by rw [w1 z2, ← (hcl9.2.2 z1).1]; exact (q1 z1).1
  refine lv_aload_n hx hb dL_law_645 rfl (lv_at hl 5 rfl) ?_
  refine lv_iconst (v := 0) hx hb dL_law_646 (by decide) ?_
  refine va_lald hx hb hK hP 0 2 (ap_l (ap_l (wf_at (by decide) rfl))) rfl (show vp_in (0 : Int32) 1 from vp_in_nI (n := 0) (by decide) (by decide)) dL_law_647 ?_
  rw [e9]
  refine lv_iload hx hb dL_law_648 (lv_at hl 0 rfl) ?_
  refine lv_i2l (v := r9.toInt64) hx hb dL_law_650 rfl ?_
  refine W.lcmp hx hb dL_law_651 ?_
  exact lv_if_eq (tgt := 657) hx hb dL_law_652 (by decide) (fun _ => fin ls hl) (fun c9 => absurd (lg_s _) c9)
theorem cm_about (G : FV) (x1 x2 : Int32) : abM G x1 x2 ≤ 3 := by
  unfold abM
  (repeat' split) <;> decide
set_option maxHeartbeats 4000000 in
set_option maxRecDepth 100000 in
/-- case about -/
theorem lc_about {p : Program} {l : Launch} {e : Env} {s : State} {m : MethodId} {below : List Frame} {meth : Method} {c : Code} {b L : Nat} {xs : Nat → Int32} {Q : State → Prop} {D : va_G} {y : Nat → ClassId} {ao ac an ar am bs ba : Nat → Nat} (C0 : LCx p l s m meth c b L xs D y ao ac an ar am bs ba) {i B cells slots : Nat} (hi : i + 4 ≤ L) (hL : L ≤ 2048) (hB : B + 200 < 2 ^ 31) (hcl : cells + 4 ≤ 667962) (hsl : slots + 24 ≤ 7092219) (next : LGo p l e s m below meth c b Q D y ao ac an ar am bs ba 1279 i (B + 40) (cells + 4) (slots + 24)) : LGo p l e s m below meth c b Q D y ao ac an ar am bs ba 660 i B cells slots := by
  obtain ⟨hx, hb, hr, hml, hown, hts, hXs, hbl, hlocks, hK, hN, hE, hX, hD, hst⟩ := C0
  intro v K V U F S X H locs ls R hP hS hl
  have hA : ∀ q : Nat, s.heap.size ≤ q → lwA s q := fun _ h => h
  have hbA : ¬ lwA s b := Nat.not_le.mpr hbl
  have a1 : vp_in (nI i + 1) L := by rw [nI_p1]; exact vp_in_nI (by omega) (by omega)
  obtain ⟨x1, hx1⟩ : ∃ z, z = xs (Int32.toNatClampNeg (nI i + 1)) := ⟨_, rfl⟩
  have a2 : vp_in (nI i + 2) L := by rw [nI_p2]; exact vp_in_nI (by omega) (by omega)
  obtain ⟨x2, hx2⟩ : ∃ z, z = xs (Int32.toNatClampNeg (nI i + 2)) := ⟨_, rfl⟩
  have hcl9 := op_about R (th_0 F) x1 x2
  refine lv_aload_n hx hb dL_law_660 rfl (lv_at hl 1 rfl) ?_
  refine lv_aload_n hx hb dL_law_661 rfl (lv_at hl 0 rfl) ?_
  refine lv_iload hx hb dL_law_662 (lv_at hl 4 rfl) ?_
  refine lv_iconst (v := 1) hx hb dL_law_664 (by decide) ?_
  refine lv_iadd hx hb dL_law_665 ?_
  refine va_sld hx hb hXs hbl hbA hS a1 dL_law_666 ?_
  rw [← hx1]
  refine lv_aload_n hx hb dL_law_667 rfl (lv_at hl 0 rfl) ?_
  refine lv_iload hx hb dL_law_668 (lv_at hl 4 rfl) ?_
  refine lv_iconst (v := 2) hx hb dL_law_670 (by decide) ?_
  refine lv_iadd hx hb dL_law_671 ?_
  refine va_sld hx hb hXs hbl hbA hS a2 dL_law_672 ?_
  rw [← hx2]
  refine lv_aload_n hx hb dL_law_673 rfl (lv_at hl 3 rfl) ?_
  refine cLW (As := [.ref (ac 0), .int x1, .int x2, .ref (ao 0)]) (rest := []) ⟨hx, hb, hml, hown, hts⟩ (c_L_about l D y _ hst ao ac an ar v K V U x1 x2 R.1.2.2.2.2.2.2.2.1) (vx_cwSW 4 hts gL_law_L_about rfl rfl rfl (by decide +kernel) ⟨Nat.le_of_ble_eq_true rfl, Nat.le_of_ble_eq_true rfl⟩) hK hN hE hX (P_l hP) (by rw [lwW_fst]; exact aD_l hD) hS hA rfl hl.1 rfl (Nat.le_of_ble_eq_true rfl) dL_law_674 ⟨show cells + 2 ≤ 667962 by omega, show slots + 12 ≤ 7092219 by omega⟩ (fun v2 K2 V2 U2 H locs q1 q2 hP9 hk9 hS => ?_)
  have hP : va_P D vwCl (lawW y ao ac an ar am bs ba v2 K2 V2 U2 F S X) H := fr_l hP (by rw [lwW_fst, moA_fst]; exact hD) hk9 hP9
  refine lv_istore (lv' := [(5, .int (nI (abC V x1 x2))), (0, .ref b), (1, .ref (ac 0)), (2, .ref (am 0)), (3, .ref (ao 0)), (4, .int (nI i))]) hx hb dL_law_677 hl (by decide) rfl (fun ls hl => ?_)
  refine lv_aload_n hx hb dL_law_679 rfl (lv_at hl 3 rfl) ?_
  refine lv_aload_n hx hb dL_law_680 rfl (lv_at hl 1 rfl) ?_
  refine lv_iload hx hb dL_law_681 (lv_at hl 5 rfl) ?_
  refine lv_iconst (v := 1) hx hb dL_law_683 (by decide) ?_
  refine lv_iadd hx hb dL_law_684 ?_
  refine va_sld hx hb hXs hbl hbA hS a1 dL_law_685 ?_
  rw [← hx1]
  refine lv_aload_n hx hb dL_law_686 rfl (lv_at hl 1 rfl) ?_
  refine lv_iload hx hb dL_law_687 (lv_at hl 5 rfl) ?_
  refine lv_iconst (v := 2) hx hb dL_law_689 (by decide) ?_
  refine lv_iadd hx hb dL_law_690 ?_
  refine va_sld hx hb hXs hbl hbA hS a2 dL_law_691 ?_
  rw [← hx2]
  refine cMd_V (S := FV) (As := [.int x1, .int x2]) (rest := []) ⟨hx, hb, hml, hown, hts⟩ (c_X5_about l D y _ am bs ba F S X x1 x2 (by rw [R.1.1]; exact R.1.2.2.2.2.2.2.2.1) (by rw [R.1.2.1]; exact R.1.2.2.2.2.2.2.2.2.1)) (cwV 2 hts gL_law_X5_about rfl rfl rfl (by decide +kernel) ⟨Nat.le_of_ble_eq_true rfl, Nat.le_of_ble_eq_true rfl⟩) hK hN (P_r hP) (by rw [moA_fst]; exact aD_r hD) hS hA (va_recv hK (P_r hP) (ci := 5) (q0 := 0) rfl (ap_l (wf_at (by decide) rfl))) rfl hl.1 rfl (Nat.le_of_ble_eq_true rfl) dL_law_692 ⟨show cells + 2 + 0 ≤ 667962 by omega, show slots + 12 + 0 ≤ 7092219 by omega⟩ (fun r9 u9 H locs w1 w2 w3 hk9 hS => ?_)
  obtain ⟨F2, S2, X2, hP9, f0, f1, f2⟩ := md_u (F1 := (th F)) (S1 := S) (u := u9) w2 w3 (fun z => (hcl9.2.2 (hcl9.2.1.mpr z)).2.2)
  have hP : va_P D vwCl (lawW y ao ac an ar am bs ba v2 K2 V2 U2 F2 S2 X2) H := fr_r hP (by rw [lwW_fst, moA_fst]; exact hD) hk9 hP9
  refine lv_istore (lv' := [(6, .int r9), (5, .int (nI (abC V x1 x2))), (0, .ref b), (1, .ref (ac 0)), (2, .ref (am 0)), (3, .ref (ao 0)), (4, .int (nI i))]) hx hb dL_law_695 hl (by decide) rfl (fun ls hl => ?_)
  refine lv_aload_n hx hb dL_law_697 rfl (lv_at hl 4 rfl) ?_
  refine cRI_V (As := []) (rest := []) ⟨hx, hb, hml, hown, hts⟩ (c_X5_thrown l D y am (bs 0) (ba 0) F2) (cwV 0 hts gL_law_X5_thrown rfl rfl rfl (by decide +kernel) ⟨Nat.le_of_ble_eq_true rfl, Nat.le_of_ble_eq_true rfl⟩) hK hN (P_l (P_r hP)) (va_recv hK (P_r hP) (ci := 5) (q0 := 0) rfl (ap_l (wf_at (by decide) rfl))) rfl hl.1 rfl (Nat.le_of_ble_eq_true rfl) dL_law_698 ⟨show cells + 2 + 0 ≤ 667962 by omega, show slots + 12 + 0 ≤ 7092219 by omega⟩ ?_
  rw [f0]
  refine lv_iload hx hb dL_law_701 (lv_at hl 1 rfl) ?_
  refine lv_icmp_eq (tgt := 708) hx hb dL_law_703 (by decide) (fun _ => ?_) (fun c9 => absurd (by rw [hcl9.1]) c9)
  have fin : ∀ ls : Array Slot, lv_has ls 9 [(6, .int r9), (5, .int (nI (abC V x1 x2))), (0, .ref b), (1, .ref (ac 0)), (2, .ref (am 0)), (3, .ref (ao 0)), (4, .int (nI i))] → W p l e room_1 s m #[Value.ref b] below meth c H locs (cells + 2) (slots + 12) Q (F0 m 725 ls []) := fun ls hl => by
    refine lv_goto (tgt := 1279) hx hb dL_law_725 (by decide) ?_
    refine W.widen (k := cells + 4) (n := slots + 24) (by omega) (by omega) ?_
    exact next v2 K2 V2 U2 F2 S2 X2 H locs ls (cl_fin R hcl9 (fun z => (q1 z).2) q2 f1 f2) hP hS (lv_sub hl [2, 3, 4, 5, 6] rfl)
  refine lv_iload hx hb dL_law_708 (lv_at hl 1 rfl) ?_
  refine lv_if_ne (tgt := 725) hx hb dL_law_710 (by decide) (fun _ => fin ls hl) (fun c9 => ?_)
  obtain ⟨z1, z2⟩ := cl_z hcl9 (cm_about (th F) x1 x2) c9
  have e9 : v2 (Int32.toNatClampNeg 0) = r9.toInt64 := by rw [w1 z2, ← (hcl9.2.2 z1).1]; exact (q1 z1).1
  refine lv_aload_n hx hb dL_law_713 rfl (lv_at hl 5 rfl) ?_
  refine lv_iconst (v := 0) hx hb dL_law_714 (by decide) ?_
  refine va_lald hx hb hK hP 0 2 (ap_l (ap_l (wf_at (by decide) rfl))) rfl (show vp_in (0 : Int32) 1 from vp_in_nI (n := 0) (by decide) (by decide)) dL_law_715 ?_
  rw [e9]
  refine lv_iload hx hb dL_law_716 (lv_at hl 0 rfl) ?_
  refine lv_i2l (v := r9.toInt64) hx hb dL_law_718 rfl ?_
  refine W.lcmp hx hb dL_law_719 ?_
  exact lv_if_eq (tgt := 725) hx hb dL_law_720 (by decide) (fun _ => fin ls hl) (fun c9 => absurd (lg_s _) c9)
theorem cm_told (G : FV) (x1 x2 : Int32) : toM G x1 x2 ≤ 3 := by
  unfold toM
  (repeat' split) <;> decide
set_option maxHeartbeats 4000000 in
set_option maxRecDepth 100000 in
/-- case told -/
theorem lc_told {p : Program} {l : Launch} {e : Env} {s : State} {m : MethodId} {below : List Frame} {meth : Method} {c : Code} {b L : Nat} {xs : Nat → Int32} {Q : State → Prop} {D : va_G} {y : Nat → ClassId} {ao ac an ar am bs ba : Nat → Nat} (C0 : LCx p l s m meth c b L xs D y ao ac an ar am bs ba) {i B cells slots : Nat} (hi : i + 4 ≤ L) (hL : L ≤ 2048) (hB : B + 200 < 2 ^ 31) (hcl : cells + 4 ≤ 667962) (hsl : slots + 24 ≤ 7092219) (next : LGo p l e s m below meth c b Q D y ao ac an ar am bs ba 1279 i (B + 40) (cells + 4) (slots + 24)) : LGo p l e s m below meth c b Q D y ao ac an ar am bs ba 728 i B cells slots := by
  obtain ⟨hx, hb, hr, hml, hown, hts, hXs, hbl, hlocks, hK, hN, hE, hX, hD, hst⟩ := C0
  intro v K V U F S X H locs ls R hP hS hl
  have hA : ∀ q : Nat, s.heap.size ≤ q → lwA s q := fun _ h => h
  have hbA : ¬ lwA s b := Nat.not_le.mpr hbl
  have a1 : vp_in (nI i + 1) L := by rw [nI_p1]; exact vp_in_nI (by omega) (by omega)
  obtain ⟨x1, hx1⟩ : ∃ z, z = xs (Int32.toNatClampNeg (nI i + 1)) := ⟨_, rfl⟩
  have a2 : vp_in (nI i + 2) L := by rw [nI_p2]; exact vp_in_nI (by omega) (by omega)
  obtain ⟨x2, hx2⟩ : ∃ z, z = xs (Int32.toNatClampNeg (nI i + 2)) := ⟨_, rfl⟩
  have hcl9 := op_told R (th_0 F) x1 x2
  refine lv_aload_n hx hb dL_law_728 rfl (lv_at hl 1 rfl) ?_
  refine lv_aload_n hx hb dL_law_729 rfl (lv_at hl 0 rfl) ?_
  refine lv_iload hx hb dL_law_730 (lv_at hl 4 rfl) ?_
  refine lv_iconst (v := 1) hx hb dL_law_732 (by decide) ?_
  refine lv_iadd hx hb dL_law_733 ?_
  refine va_sld hx hb hXs hbl hbA hS a1 dL_law_734 ?_
  rw [← hx1]
  refine lv_aload_n hx hb dL_law_735 rfl (lv_at hl 0 rfl) ?_
  refine lv_iload hx hb dL_law_736 (lv_at hl 4 rfl) ?_
  refine lv_iconst (v := 2) hx hb dL_law_738 (by decide) ?_
  refine lv_iadd hx hb dL_law_739 ?_
  refine va_sld hx hb hXs hbl hbA hS a2 dL_law_740 ?_
  rw [← hx2]
  refine lv_aload_n hx hb dL_law_741 rfl (lv_at hl 3 rfl) ?_
  refine cLW (As := [.ref (ac 0), .int x1, .int x2, .ref (ao 0)]) (rest := []) ⟨hx, hb, hml, hown, hts⟩ (c_L_told l D y _ hst ao ac an ar v K V U x1 x2 R.1.2.2.2.2.2.2.2.2.1 R.rv) (vx_cwSW 4 hts gL_law_L_told rfl rfl rfl (by decide +kernel) ⟨Nat.le_of_ble_eq_true rfl, Nat.le_of_ble_eq_true rfl⟩) hK hN hE hX (P_l hP) (by rw [lwW_fst]; exact aD_l hD) hS hA rfl hl.1 rfl (Nat.le_of_ble_eq_true rfl) dL_law_742 ⟨show cells + 2 ≤ 667962 by omega, show slots + 12 ≤ 7092219 by omega⟩ (fun v2 K2 V2 U2 H locs q1 q2 hP9 hk9 hS => ?_)
  have hP : va_P D vwCl (lawW y ao ac an ar am bs ba v2 K2 V2 U2 F S X) H := fr_l hP (by rw [lwW_fst, moA_fst]; exact hD) hk9 hP9
  refine lv_istore (lv' := [(5, .int (nI (toC V x1 x2))), (0, .ref b), (1, .ref (ac 0)), (2, .ref (am 0)), (3, .ref (ao 0)), (4, .int (nI i))]) hx hb dL_law_745 hl (by decide) rfl (fun ls hl => ?_)
  refine lv_aload_n hx hb dL_law_747 rfl (lv_at hl 3 rfl) ?_
  refine lv_aload_n hx hb dL_law_748 rfl (lv_at hl 1 rfl) ?_
  refine lv_iload hx hb dL_law_749 (lv_at hl 5 rfl) ?_
  refine lv_iconst (v := 1) hx hb dL_law_751 (by decide) ?_
  refine lv_iadd hx hb dL_law_752 ?_
  refine va_sld hx hb hXs hbl hbA hS a1 dL_law_753 ?_
  rw [← hx1]
  refine lv_aload_n hx hb dL_law_754 rfl (lv_at hl 1 rfl) ?_
  refine lv_iload hx hb dL_law_755 (lv_at hl 5 rfl) ?_
  refine lv_iconst (v := 2) hx hb dL_law_757 (by decide) ?_
  refine lv_iadd hx hb dL_law_758 ?_
  refine va_sld hx hb hXs hbl hbA hS a2 dL_law_759 ?_
  rw [← hx2]
  refine cMd_V (S := FV) (As := [.int x1, .int x2]) (rest := []) ⟨hx, hb, hml, hown, hts⟩ (c_X5_told l D y _ am bs ba F S X x1 x2 (by rw [R.1.2.1]; exact R.1.2.2.2.2.2.2.2.2.1) R.nets R.at16) (cwV 2 hts gL_law_X5_told rfl rfl rfl (by decide +kernel) ⟨Nat.le_of_ble_eq_true rfl, Nat.le_of_ble_eq_true rfl⟩) hK hN (P_r hP) (by rw [moA_fst]; exact aD_r hD) hS hA (va_recv hK (P_r hP) (ci := 5) (q0 := 0) rfl (ap_l (wf_at (by decide) rfl))) rfl hl.1 rfl (Nat.le_of_ble_eq_true rfl) dL_law_760 ⟨show cells + 2 + 0 ≤ 667962 by omega, show slots + 12 + 0 ≤ 7092219 by omega⟩ (fun r9 u9 H locs w1 w2 w3 hk9 hS => ?_)
  obtain ⟨F2, S2, X2, hP9, f0, f1, f2⟩ := md_u (F1 := (th F)) (S1 := S) (u := u9) w2 w3 (fun z => (hcl9.2.2 (hcl9.2.1.mpr z)).2.2)
  have hP : va_P D vwCl (lawW y ao ac an ar am bs ba v2 K2 V2 U2 F2 S2 X2) H := fr_r hP (by rw [lwW_fst, moA_fst]; exact hD) hk9 hP9
  refine lv_istore (lv' := [(6, .int r9), (5, .int (nI (toC V x1 x2))), (0, .ref b), (1, .ref (ac 0)), (2, .ref (am 0)), (3, .ref (ao 0)), (4, .int (nI i))]) hx hb dL_law_763 hl (by decide) rfl (fun ls hl => ?_)
  refine lv_aload_n hx hb dL_law_765 rfl (lv_at hl 4 rfl) ?_
  refine cRI_V (As := []) (rest := []) ⟨hx, hb, hml, hown, hts⟩ (c_X5_thrown l D y am (bs 0) (ba 0) F2) (cwV 0 hts gL_law_X5_thrown rfl rfl rfl (by decide +kernel) ⟨Nat.le_of_ble_eq_true rfl, Nat.le_of_ble_eq_true rfl⟩) hK hN (P_l (P_r hP)) (va_recv hK (P_r hP) (ci := 5) (q0 := 0) rfl (ap_l (wf_at (by decide) rfl))) rfl hl.1 rfl (Nat.le_of_ble_eq_true rfl) dL_law_766 ⟨show cells + 2 + 0 ≤ 667962 by omega, show slots + 12 + 0 ≤ 7092219 by omega⟩ ?_
  rw [f0]
  refine lv_iload hx hb dL_law_769 (lv_at hl 1 rfl) ?_
  refine lv_icmp_eq (tgt := 776) hx hb dL_law_771 (by decide) (fun _ => ?_) (fun c9 => absurd (by rw [hcl9.1]) c9)
  have fin : ∀ ls : Array Slot, lv_has ls 9 [(6, .int r9), (5, .int (nI (toC V x1 x2))), (0, .ref b), (1, .ref (ac 0)), (2, .ref (am 0)), (3, .ref (ao 0)), (4, .int (nI i))] → W p l e room_1 s m #[Value.ref b] below meth c H locs (cells + 2) (slots + 12) Q (F0 m 793 ls []) := fun ls hl => by
    refine lv_goto (tgt := 1279) hx hb dL_law_793 (by decide) ?_
    refine W.widen (k := cells + 4) (n := slots + 24) (by omega) (by omega) ?_
    exact next v2 K2 V2 U2 F2 S2 X2 H locs ls (cl_fin R hcl9 (fun z => (q1 z).2) q2 f1 f2) hP hS (lv_sub hl [2, 3, 4, 5, 6] rfl)
  refine lv_iload hx hb dL_law_776 (lv_at hl 1 rfl) ?_
  refine lv_if_ne (tgt := 793) hx hb dL_law_778 (by decide) (fun _ => fin ls hl) (fun c9 => ?_)
  obtain ⟨z1, z2⟩ := cl_z hcl9 (cm_told (th F) x1 x2) c9
  have e9 : v2 (Int32.toNatClampNeg 0) = r9.toInt64 := by rw [w1 z2, ← (hcl9.2.2 z1).1]; exact (q1 z1).1
  refine lv_aload_n hx hb dL_law_781 rfl (lv_at hl 5 rfl) ?_
  refine lv_iconst (v := 0) hx hb dL_law_782 (by decide) ?_
  refine va_lald hx hb hK hP 0 2 (ap_l (ap_l (wf_at (by decide) rfl))) rfl (show vp_in (0 : Int32) 1 from vp_in_nI (n := 0) (by decide) (by decide)) dL_law_783 ?_
  rw [e9]
  refine lv_iload hx hb dL_law_784 (lv_at hl 0 rfl) ?_
  refine lv_i2l (v := r9.toInt64) hx hb dL_law_786 rfl ?_
  refine W.lcmp hx hb dL_law_787 ?_
  exact lv_if_eq (tgt := 793) hx hb dL_law_788 (by decide) (fun _ => fin ls hl) (fun c9 => absurd (lg_s _) c9)
theorem cm_reach (x1 x2 : Int32) : reM x1 x2 ≤ 3 := by
  unfold reM
  (repeat' split) <;> decide
set_option maxHeartbeats 4000000 in
set_option maxRecDepth 100000 in
/-- case reach -/
theorem lc_reach {p : Program} {l : Launch} {e : Env} {s : State} {m : MethodId} {below : List Frame} {meth : Method} {c : Code} {b L : Nat} {xs : Nat → Int32} {Q : State → Prop} {D : va_G} {y : Nat → ClassId} {ao ac an ar am bs ba : Nat → Nat} (C0 : LCx p l s m meth c b L xs D y ao ac an ar am bs ba) {i B cells slots : Nat} (hi : i + 4 ≤ L) (hL : L ≤ 2048) (hB : B + 200 < 2 ^ 31) (hcl : cells + 4 ≤ 667962) (hsl : slots + 24 ≤ 7092219) (next : LGo p l e s m below meth c b Q D y ao ac an ar am bs ba 1279 i (B + 40) (cells + 4) (slots + 24)) : LGo p l e s m below meth c b Q D y ao ac an ar am bs ba 796 i B cells slots := by
  obtain ⟨hx, hb, hr, hml, hown, hts, hXs, hbl, hlocks, hK, hN, hE, hX, hD, hst⟩ := C0
  intro v K V U F S X H locs ls R hP hS hl
  have hA : ∀ q : Nat, s.heap.size ≤ q → lwA s q := fun _ h => h
  have hbA : ¬ lwA s b := Nat.not_le.mpr hbl
  have a1 : vp_in (nI i + 1) L := by rw [nI_p1]; exact vp_in_nI (by omega) (by omega)
  obtain ⟨x1, hx1⟩ : ∃ z, z = xs (Int32.toNatClampNeg (nI i + 1)) := ⟨_, rfl⟩
  have a2 : vp_in (nI i + 2) L := by rw [nI_p2]; exact vp_in_nI (by omega) (by omega)
  obtain ⟨x2, hx2⟩ : ∃ z, z = xs (Int32.toNatClampNeg (nI i + 2)) := ⟨_, rfl⟩
  have hcl9 := op_reach R (th_0 F) x1 x2
  refine lv_aload_n hx hb dL_law_796 rfl (lv_at hl 1 rfl) ?_
  refine lv_aload_n hx hb dL_law_797 rfl (lv_at hl 0 rfl) ?_
  refine lv_iload hx hb dL_law_798 (lv_at hl 4 rfl) ?_
  refine lv_iconst (v := 1) hx hb dL_law_800 (by decide) ?_
  refine lv_iadd hx hb dL_law_801 ?_
  refine va_sld hx hb hXs hbl hbA hS a1 dL_law_802 ?_
  rw [← hx1]
  refine lv_aload_n hx hb dL_law_803 rfl (lv_at hl 0 rfl) ?_
  refine lv_iload hx hb dL_law_804 (lv_at hl 4 rfl) ?_
  refine lv_iconst (v := 2) hx hb dL_law_806 (by decide) ?_
  refine lv_iadd hx hb dL_law_807 ?_
  refine va_sld hx hb hXs hbl hbA hS a2 dL_law_808 ?_
  rw [← hx2]
  refine lv_aload_n hx hb dL_law_809 rfl (lv_at hl 3 rfl) ?_
  refine cLW (As := [.ref (ac 0), .int x1, .int x2, .ref (ao 0)]) (rest := []) ⟨hx, hb, hml, hown, hts⟩ (c_L_reach l D y _ hst ao ac an ar v K V U x1 x2) (vx_cwSW 4 hts gL_law_L_reach rfl rfl rfl (by decide +kernel) ⟨Nat.le_of_ble_eq_true rfl, Nat.le_of_ble_eq_true rfl⟩) hK hN hE hX (P_l hP) (by rw [lwW_fst]; exact aD_l hD) hS hA rfl hl.1 rfl (Nat.le_of_ble_eq_true rfl) dL_law_810 ⟨show cells + 2 ≤ 667962 by omega, show slots + 12 ≤ 7092219 by omega⟩ (fun v2 K2 V2 U2 H locs q1 q2 hP9 hk9 hS => ?_)
  have hP : va_P D vwCl (lawW y ao ac an ar am bs ba v2 K2 V2 U2 F S X) H := fr_l hP (by rw [lwW_fst, moA_fst]; exact hD) hk9 hP9
  refine lv_istore (lv' := [(5, .int (nI (reC x1 x2))), (0, .ref b), (1, .ref (ac 0)), (2, .ref (am 0)), (3, .ref (ao 0)), (4, .int (nI i))]) hx hb dL_law_813 hl (by decide) rfl (fun ls hl => ?_)
  refine lv_aload_n hx hb dL_law_815 rfl (lv_at hl 3 rfl) ?_
  refine lv_aload_n hx hb dL_law_816 rfl (lv_at hl 1 rfl) ?_
  refine lv_iload hx hb dL_law_817 (lv_at hl 5 rfl) ?_
  refine lv_iconst (v := 1) hx hb dL_law_819 (by decide) ?_
  refine lv_iadd hx hb dL_law_820 ?_
  refine va_sld hx hb hXs hbl hbA hS a1 dL_law_821 ?_
  rw [← hx1]
  refine lv_aload_n hx hb dL_law_822 rfl (lv_at hl 1 rfl) ?_
  refine lv_iload hx hb dL_law_823 (lv_at hl 5 rfl) ?_
  refine lv_iconst (v := 2) hx hb dL_law_825 (by decide) ?_
  refine lv_iadd hx hb dL_law_826 ?_
  refine va_sld hx hb hXs hbl hbA hS a2 dL_law_827 ?_
  rw [← hx2]
  refine cMd_V (S := FV) (As := [.int x1, .int x2]) (rest := []) ⟨hx, hb, hml, hown, hts⟩ (c_X5_reach l D y _ am bs ba F S X x1 x2 (by rw [R.1.1]; exact R.1.2.2.2.2.2.2.2.1)) (cwV 2 hts gL_law_X5_reach rfl rfl rfl (by decide +kernel) ⟨Nat.le_of_ble_eq_true rfl, Nat.le_of_ble_eq_true rfl⟩) hK hN (P_r hP) (by rw [moA_fst]; exact aD_r hD) hS hA (va_recv hK (P_r hP) (ci := 5) (q0 := 0) rfl (ap_l (wf_at (by decide) rfl))) rfl hl.1 rfl (Nat.le_of_ble_eq_true rfl) dL_law_828 ⟨show cells + 2 + 0 ≤ 667962 by omega, show slots + 12 + 0 ≤ 7092219 by omega⟩ (fun r9 u9 H locs w1 w2 w3 hk9 hS => ?_)
  obtain ⟨F2, S2, X2, hP9, f0, f1, f2⟩ := md_u (F1 := (th F)) (S1 := S) (u := u9) w2 w3 (fun z => (hcl9.2.2 (hcl9.2.1.mpr z)).2.2)
  have hP : va_P D vwCl (lawW y ao ac an ar am bs ba v2 K2 V2 U2 F2 S2 X2) H := fr_r hP (by rw [lwW_fst, moA_fst]; exact hD) hk9 hP9
  refine lv_istore (lv' := [(6, .int r9), (5, .int (nI (reC x1 x2))), (0, .ref b), (1, .ref (ac 0)), (2, .ref (am 0)), (3, .ref (ao 0)), (4, .int (nI i))]) hx hb dL_law_831 hl (by decide) rfl (fun ls hl => ?_)
  refine lv_aload_n hx hb dL_law_833 rfl (lv_at hl 4 rfl) ?_
  refine cRI_V (As := []) (rest := []) ⟨hx, hb, hml, hown, hts⟩ (c_X5_thrown l D y am (bs 0) (ba 0) F2) (cwV 0 hts gL_law_X5_thrown rfl rfl rfl (by decide +kernel) ⟨Nat.le_of_ble_eq_true rfl, Nat.le_of_ble_eq_true rfl⟩) hK hN (P_l (P_r hP)) (va_recv hK (P_r hP) (ci := 5) (q0 := 0) rfl (ap_l (wf_at (by decide) rfl))) rfl hl.1 rfl (Nat.le_of_ble_eq_true rfl) dL_law_834 ⟨show cells + 2 + 0 ≤ 667962 by omega, show slots + 12 + 0 ≤ 7092219 by omega⟩ ?_
  rw [f0]
  refine lv_iload hx hb dL_law_837 (lv_at hl 1 rfl) ?_
  refine lv_icmp_eq (tgt := 844) hx hb dL_law_839 (by decide) (fun _ => ?_) (fun c9 => absurd (by rw [hcl9.1]) c9)
  have fin : ∀ ls : Array Slot, lv_has ls 9 [(6, .int r9), (5, .int (nI (reC x1 x2))), (0, .ref b), (1, .ref (ac 0)), (2, .ref (am 0)), (3, .ref (ao 0)), (4, .int (nI i))] → W p l e room_1 s m #[Value.ref b] below meth c H locs (cells + 2) (slots + 12) Q (F0 m 861 ls []) := fun ls hl => by
    refine lv_goto (tgt := 1279) hx hb dL_law_861 (by decide) ?_
    refine W.widen (k := cells + 4) (n := slots + 24) (by omega) (by omega) ?_
    exact next v2 K2 V2 U2 F2 S2 X2 H locs ls (cl_fin R hcl9 (fun z => (q1 z).2) q2 f1 f2) hP hS (lv_sub hl [2, 3, 4, 5, 6] rfl)
  refine lv_iload hx hb dL_law_844 (lv_at hl 1 rfl) ?_
  refine lv_if_ne (tgt := 861) hx hb dL_law_846 (by decide) (fun _ => fin ls hl) (fun c9 => ?_)
  obtain ⟨z1, z2⟩ := cl_z hcl9 (cm_reach x1 x2) c9
  have e9 : v2 (Int32.toNatClampNeg 0) = r9.toInt64 := by rw [w1 z2, ← (hcl9.2.2 z1).1]; exact (q1 z1).1
  refine lv_aload_n hx hb dL_law_849 rfl (lv_at hl 5 rfl) ?_
  refine lv_iconst (v := 0) hx hb dL_law_850 (by decide) ?_
  refine va_lald hx hb hK hP 0 2 (ap_l (ap_l (wf_at (by decide) rfl))) rfl (show vp_in (0 : Int32) 1 from vp_in_nI (n := 0) (by decide) (by decide)) dL_law_851 ?_
  rw [e9]
  refine lv_iload hx hb dL_law_852 (lv_at hl 0 rfl) ?_
  refine lv_i2l (v := r9.toInt64) hx hb dL_law_854 rfl ?_
  refine W.lcmp hx hb dL_law_855 ?_
  exact lv_if_eq (tgt := 861) hx hb dL_law_856 (by decide) (fun _ => fin ls hl) (fun c9 => absurd (lg_s _) c9)
theorem cm_count (x1 : Int32) : coM x1 ≤ 3 := by
  unfold coM
  (repeat' split) <;> decide
set_option maxHeartbeats 4000000 in
set_option maxRecDepth 100000 in
/-- case count -/
theorem lc_count {p : Program} {l : Launch} {e : Env} {s : State} {m : MethodId} {below : List Frame} {meth : Method} {c : Code} {b L : Nat} {xs : Nat → Int32} {Q : State → Prop} {D : va_G} {y : Nat → ClassId} {ao ac an ar am bs ba : Nat → Nat} (C0 : LCx p l s m meth c b L xs D y ao ac an ar am bs ba) {i B cells slots : Nat} (hi : i + 4 ≤ L) (hL : L ≤ 2048) (hB : B + 200 < 2 ^ 31) (hcl : cells + 4 ≤ 667962) (hsl : slots + 24 ≤ 7092219) (next : LGo p l e s m below meth c b Q D y ao ac an ar am bs ba 1279 i (B + 40) (cells + 4) (slots + 24)) : LGo p l e s m below meth c b Q D y ao ac an ar am bs ba 864 i B cells slots := by
  obtain ⟨hx, hb, hr, hml, hown, hts, hXs, hbl, hlocks, hK, hN, hE, hX, hD, hst⟩ := C0
  intro v K V U F S X H locs ls R hP hS hl
  have hA : ∀ q : Nat, s.heap.size ≤ q → lwA s q := fun _ h => h
  have hbA : ¬ lwA s b := Nat.not_le.mpr hbl
  have a1 : vp_in (nI i + 1) L := by rw [nI_p1]; exact vp_in_nI (by omega) (by omega)
  obtain ⟨x1, hx1⟩ : ∃ z, z = xs (Int32.toNatClampNeg (nI i + 1)) := ⟨_, rfl⟩
  have hcl9 := op_count R (th_0 F) x1
  refine lv_aload_n hx hb dL_law_864 rfl (lv_at hl 1 rfl) ?_
  refine lv_aload_n hx hb dL_law_865 rfl (lv_at hl 0 rfl) ?_
  refine lv_iload hx hb dL_law_866 (lv_at hl 4 rfl) ?_
  refine lv_iconst (v := 1) hx hb dL_law_868 (by decide) ?_
  refine lv_iadd hx hb dL_law_869 ?_
  refine va_sld hx hb hXs hbl hbA hS a1 dL_law_870 ?_
  rw [← hx1]
  refine lv_aload_n hx hb dL_law_871 rfl (lv_at hl 3 rfl) ?_
  refine cLW (As := [.ref (ac 0), .int x1, .ref (ao 0)]) (rest := []) ⟨hx, hb, hml, hown, hts⟩ (c_L_count l D y _ hst ao ac an ar v K V U x1) (vx_cwSW 3 hts gL_law_L_count rfl rfl rfl (by decide +kernel) ⟨Nat.le_of_ble_eq_true rfl, Nat.le_of_ble_eq_true rfl⟩) hK hN hE hX (P_l hP) (by rw [lwW_fst]; exact aD_l hD) hS hA rfl hl.1 rfl (Nat.le_of_ble_eq_true rfl) dL_law_872 ⟨show cells + 1 ≤ 667962 by omega, show slots + 6 ≤ 7092219 by omega⟩ (fun v2 K2 V2 U2 H locs q1 q2 hP9 hk9 hS => ?_)
  have hP : va_P D vwCl (lawW y ao ac an ar am bs ba v2 K2 V2 U2 F S X) H := fr_l hP (by rw [lwW_fst, moA_fst]; exact hD) hk9 hP9
  refine lv_istore (lv' := [(5, .int (nI (coC x1))), (0, .ref b), (1, .ref (ac 0)), (2, .ref (am 0)), (3, .ref (ao 0)), (4, .int (nI i))]) hx hb dL_law_875 hl (by decide) rfl (fun ls hl => ?_)
  refine lv_aload_n hx hb dL_law_877 rfl (lv_at hl 3 rfl) ?_
  refine lv_aload_n hx hb dL_law_878 rfl (lv_at hl 1 rfl) ?_
  refine lv_iload hx hb dL_law_879 (lv_at hl 5 rfl) ?_
  refine lv_iconst (v := 1) hx hb dL_law_881 (by decide) ?_
  refine lv_iadd hx hb dL_law_882 ?_
  refine va_sld hx hb hXs hbl hbA hS a1 dL_law_883 ?_
  rw [← hx1]
  refine cMd_V (S := FV) (As := [.int x1]) (rest := []) ⟨hx, hb, hml, hown, hts⟩ (c_X5_count l D y _ am bs ba F S X x1 (by rw [R.1.1]; exact R.1.2.2.2.2.2.2.2.1)) (cwV 1 hts gL_law_X5_count rfl rfl rfl (by decide +kernel) ⟨Nat.le_of_ble_eq_true rfl, Nat.le_of_ble_eq_true rfl⟩) hK hN (P_r hP) (by rw [moA_fst]; exact aD_r hD) hS hA (va_recv hK (P_r hP) (ci := 5) (q0 := 0) rfl (ap_l (wf_at (by decide) rfl))) rfl hl.1 rfl (Nat.le_of_ble_eq_true rfl) dL_law_884 ⟨show cells + 1 + 0 ≤ 667962 by omega, show slots + 6 + 0 ≤ 7092219 by omega⟩ (fun r9 u9 H locs w1 w2 w3 hk9 hS => ?_)
  obtain ⟨F2, S2, X2, hP9, f0, f1, f2⟩ := md_u (F1 := (th F)) (S1 := S) (u := u9) w2 w3 (fun z => (hcl9.2.2 (hcl9.2.1.mpr z)).2.2)
  have hP : va_P D vwCl (lawW y ao ac an ar am bs ba v2 K2 V2 U2 F2 S2 X2) H := fr_r hP (by rw [lwW_fst, moA_fst]; exact hD) hk9 hP9
  refine lv_istore (lv' := [(6, .int r9), (5, .int (nI (coC x1))), (0, .ref b), (1, .ref (ac 0)), (2, .ref (am 0)), (3, .ref (ao 0)), (4, .int (nI i))]) hx hb dL_law_887 hl (by decide) rfl (fun ls hl => ?_)
  refine lv_aload_n hx hb dL_law_889 rfl (lv_at hl 4 rfl) ?_
  refine cRI_V (As := []) (rest := []) ⟨hx, hb, hml, hown, hts⟩ (c_X5_thrown l D y am (bs 0) (ba 0) F2) (cwV 0 hts gL_law_X5_thrown rfl rfl rfl (by decide +kernel) ⟨Nat.le_of_ble_eq_true rfl, Nat.le_of_ble_eq_true rfl⟩) hK hN (P_l (P_r hP)) (va_recv hK (P_r hP) (ci := 5) (q0 := 0) rfl (ap_l (wf_at (by decide) rfl))) rfl hl.1 rfl (Nat.le_of_ble_eq_true rfl) dL_law_890 ⟨show cells + 1 + 0 ≤ 667962 by omega, show slots + 6 + 0 ≤ 7092219 by omega⟩ ?_
  rw [f0]
  refine lv_iload hx hb dL_law_893 (lv_at hl 1 rfl) ?_
  refine lv_icmp_eq (tgt := 900) hx hb dL_law_895 (by decide) (fun _ => ?_) (fun c9 => absurd (by rw [hcl9.1]) c9)
  have fin : ∀ ls : Array Slot, lv_has ls 9 [(6, .int r9), (5, .int (nI (coC x1))), (0, .ref b), (1, .ref (ac 0)), (2, .ref (am 0)), (3, .ref (ao 0)), (4, .int (nI i))] → W p l e room_1 s m #[Value.ref b] below meth c H locs (cells + 1) (slots + 6) Q (F0 m 917 ls []) := fun ls hl => by
    refine lv_goto (tgt := 1279) hx hb dL_law_917 (by decide) ?_
    refine W.widen (k := cells + 4) (n := slots + 24) (by omega) (by omega) ?_
    exact next v2 K2 V2 U2 F2 S2 X2 H locs ls (cl_fin R hcl9 (fun z => (q1 z).2) q2 f1 f2) hP hS (lv_sub hl [2, 3, 4, 5, 6] rfl)
  refine lv_iload hx hb dL_law_900 (lv_at hl 1 rfl) ?_
  refine lv_if_ne (tgt := 917) hx hb dL_law_902 (by decide) (fun _ => fin ls hl) (fun c9 => ?_)
  obtain ⟨z1, z2⟩ := cl_z hcl9 (cm_count x1) c9
  have e9 : v2 (Int32.toNatClampNeg 0) = r9.toInt64 := by rw [w1 z2, ← (hcl9.2.2 z1).1]; exact (q1 z1).1
  refine lv_aload_n hx hb dL_law_905 rfl (lv_at hl 5 rfl) ?_
  refine lv_iconst (v := 0) hx hb dL_law_906 (by decide) ?_
  refine va_lald hx hb hK hP 0 2 (ap_l (ap_l (wf_at (by decide) rfl))) rfl (show vp_in (0 : Int32) 1 from vp_in_nI (n := 0) (by decide) (by decide)) dL_law_907 ?_
  rw [e9]
  refine lv_iload hx hb dL_law_908 (lv_at hl 0 rfl) ?_
  refine lv_i2l (v := r9.toInt64) hx hb dL_law_910 rfl ?_
  refine W.lcmp hx hb dL_law_911 ?_
  exact lv_if_eq (tgt := 917) hx hb dL_law_912 (by decide) (fun _ => fin ls hl) (fun c9 => absurd (lg_s _) c9)
