theorem cm_pass (x1 : Int32) : paC9 x1 ≤ 3 := by
  unfold paC9
  (repeat' split) <;> decide
set_option maxHeartbeats 4000000 in
set_option maxRecDepth 100000 in
/-- case pass -/
theorem lc_pass {p : Program} {l : Launch} {e : Env} {s : State} {m : MethodId} {below : List Frame} {meth : Method} {c : Code} {b L : Nat} {xs : Nat → Int32} {Q : State → Prop} {D : va_G} {y : Nat → ClassId} {ao ac an ar am bs ba : Nat → Nat} (C0 : LCx p l s m meth c b L xs D y ao ac an ar am bs ba) {i B cells slots : Nat} (hi : i + 4 ≤ L) (hL : L ≤ 2048) (hB : B + 200 < 2 ^ 31) (hcl : cells + 4 ≤ 667962) (hsl : slots + 24 ≤ 7092219) (next : LGo p l e s m below meth c b Q D y ao ac an ar am bs ba 1279 i (B + 40) (cells + 4) (slots + 24)) : LGo p l e s m below meth c b Q D y ao ac an ar am bs ba 920 i B cells slots := by
  obtain ⟨hx, hb, hr, hml, hown, hts, hXs, hbl, hlocks, hK, hN, hE, hX, hD, hst⟩ := C0
  intro v K V U F S X H locs ls R hP hS hl
  have hA : ∀ q : Nat, s.heap.size ≤ q → lwA s q := fun _ h => h
  have hbA : ¬ lwA s b := Nat.not_le.mpr hbl
  have a1 : vp_in (nI i + 1) L := by rw [nI_p1]; exact vp_in_nI (by omega) (by omega)
  obtain ⟨x1, hx1⟩ : ∃ z, z = xs (Int32.toNatClampNeg (nI i + 1)) := ⟨_, rfl⟩
  have hcl9 := op_pass R hB (th_0 F) x1
  refine lv_aload_n hx hb dL_law_920 rfl (lv_at hl 1 rfl) ?_
  refine lv_aload_n hx hb dL_law_921 rfl (lv_at hl 0 rfl) ?_
  refine lv_iload hx hb dL_law_922 (lv_at hl 4 rfl) ?_
  refine lv_iconst (v := 1) hx hb dL_law_924 (by decide) ?_
  refine lv_iadd hx hb dL_law_925 ?_
  refine va_sld hx hb hXs hbl hbA hS a1 dL_law_926 ?_
  rw [← hx1]
  refine lv_aload_n hx hb dL_law_927 rfl (lv_at hl 3 rfl) ?_
  refine cLW (As := [.ref (ac 0), .int x1, .ref (ao 0)]) (rest := []) ⟨hx, hb, hml, hown, hts⟩ (c_L_pass l D y _ hst ao ac an ar v K V U x1 (fun z i hi => okHs R hB i (by have := hr_in (n := 41) (ite_z (by decide) z).1 (by decide) (by decide) (by decide); omega))) (vx_cwSW 3 hts gL_law_L_pass rfl rfl rfl (by decide +kernel) ⟨Nat.le_of_ble_eq_true rfl, Nat.le_of_ble_eq_true rfl⟩) hK hN hE hX (P_l hP) (by rw [lwW_fst]; exact aD_l hD) hS hA rfl hl.1 rfl (Nat.le_of_ble_eq_true rfl) dL_law_928 ⟨show cells + 1 ≤ 667962 by omega, show slots + 6 ≤ 7092219 by omega⟩ (fun v2 K2 V2 U2 H locs q1 q2 hP9 hk9 hS => ?_)
  have hP : va_P D vwCl (lawW y ao ac an ar am bs ba v2 K2 V2 U2 F S X) H := fr_l hP (by rw [lwW_fst, moA_fst]; exact hD) hk9 hP9
  refine lv_istore (lv' := [(5, .int (nI (lkP (paC x1)))), (0, .ref b), (1, .ref (ac 0)), (2, .ref (am 0)), (3, .ref (ao 0)), (4, .int (nI i))]) hx hb dL_law_931 hl (by decide) rfl (fun ls hl => ?_)
  refine lv_aload_n hx hb dL_law_933 rfl (lv_at hl 3 rfl) ?_
  refine lv_aload_n hx hb dL_law_934 rfl (lv_at hl 1 rfl) ?_
  refine lv_iload hx hb dL_law_935 (lv_at hl 5 rfl) ?_
  refine lv_iconst (v := 1) hx hb dL_law_937 (by decide) ?_
  refine lv_iadd hx hb dL_law_938 ?_
  refine va_sld hx hb hXs hbl hbA hS a1 dL_law_939 ?_
  rw [← hx1]
  refine cMd_V (S := FV) (As := [.int x1]) (rest := []) ⟨hx, hb, hml, hown, hts⟩ (c_X5_pass l D y _ am bs ba F S X x1 (fun z i hi => okMs R hB i (by have := hr_in (n := 41) (fun q => absurd ((ii_0 x1 1 40).mpr q) (ite_z (by decide) z).1) (by decide) (by decide) (by decide); omega))) (cwV 1 hts gL_law_X5_pass rfl rfl rfl (by decide +kernel) ⟨Nat.le_of_ble_eq_true rfl, Nat.le_of_ble_eq_true rfl⟩) hK hN (P_r hP) (by rw [moA_fst]; exact aD_r hD) hS hA (va_recv hK (P_r hP) (ci := 5) (q0 := 0) rfl (ap_l (wf_at (by decide) rfl))) rfl hl.1 rfl (Nat.le_of_ble_eq_true rfl) dL_law_940 ⟨show cells + 1 + 0 ≤ 667962 by omega, show slots + 6 + 0 ≤ 7092219 by omega⟩ (fun r9 u9 H locs w1 w2 w3 hk9 hS => ?_)
  obtain ⟨F2, S2, X2, hP9, f0, f1, f2⟩ := md_u (F1 := (th F)) (S1 := (psM (th F) S (ix x1))) (u := u9) w2 w3 (fun z => (hcl9.2.2 (hcl9.2.1.mpr z)).2.2)
  have hP : va_P D vwCl (lawW y ao ac an ar am bs ba v2 K2 V2 U2 F2 S2 X2) H := fr_r hP (by rw [lwW_fst, moA_fst]; exact hD) hk9 hP9
  refine lv_istore (lv' := [(6, .int r9), (5, .int (nI (lkP (paC x1)))), (0, .ref b), (1, .ref (ac 0)), (2, .ref (am 0)), (3, .ref (ao 0)), (4, .int (nI i))]) hx hb dL_law_943 hl (by decide) rfl (fun ls hl => ?_)
  refine lv_aload_n hx hb dL_law_945 rfl (lv_at hl 4 rfl) ?_
  refine cRI_V (As := []) (rest := []) ⟨hx, hb, hml, hown, hts⟩ (c_X5_thrown l D y am (bs 0) (ba 0) F2) (cwV 0 hts gL_law_X5_thrown rfl rfl rfl (by decide +kernel) ⟨Nat.le_of_ble_eq_true rfl, Nat.le_of_ble_eq_true rfl⟩) hK hN (P_l (P_r hP)) (va_recv hK (P_r hP) (ci := 5) (q0 := 0) rfl (ap_l (wf_at (by decide) rfl))) rfl hl.1 rfl (Nat.le_of_ble_eq_true rfl) dL_law_946 ⟨show cells + 1 + 0 ≤ 667962 by omega, show slots + 6 + 0 ≤ 7092219 by omega⟩ ?_
  rw [f0]
  refine lv_iload hx hb dL_law_949 (lv_at hl 1 rfl) ?_
  refine lv_icmp_eq (tgt := 956) hx hb dL_law_951 (by decide) (fun _ => ?_) (fun c9 => absurd (by rw [hcl9.1]) c9)
  have fin : ∀ ls : Array Slot, lv_has ls 9 [(6, .int r9), (5, .int (nI (lkP (paC x1)))), (0, .ref b), (1, .ref (ac 0)), (2, .ref (am 0)), (3, .ref (ao 0)), (4, .int (nI i))] → W p l e room_1 s m #[Value.ref b] below meth c H locs (cells + 1) (slots + 6) Q (F0 m 973 ls []) := fun ls hl => by
    refine lv_goto (tgt := 1279) hx hb dL_law_973 (by decide) ?_
    refine W.widen (k := cells + 4) (n := slots + 24) (by omega) (by omega) ?_
    exact next v2 K2 V2 U2 F2 S2 X2 H locs ls (cl_fin R hcl9 (fun z => (q1 z).2) q2 f1 f2) hP hS (lv_sub hl [2, 3, 4, 5, 6] rfl)
  refine lv_iload hx hb dL_law_956 (lv_at hl 1 rfl) ?_
  refine lv_if_ne (tgt := 973) hx hb dL_law_958 (by decide) (fun _ => fin ls hl) (fun c9 => ?_)
  obtain ⟨z1, z2⟩ := cl_z hcl9 (cm_pass x1) c9
  have e9 : v2 (Int32.toNatClampNeg 0) = r9.toInt64 := by rw [w1 z2, ← (hcl9.2.2 z1).1]; exact (q1 z1).1
  refine lv_aload_n hx hb dL_law_961 rfl (lv_at hl 5 rfl) ?_
  refine lv_iconst (v := 0) hx hb dL_law_962 (by decide) ?_
  refine va_lald hx hb hK hP 0 2 (ap_l (ap_l (wf_at (by decide) rfl))) rfl (show vp_in (0 : Int32) 1 from vp_in_nI (n := 0) (by decide) (by decide)) dL_law_963 ?_
  rw [e9]
  refine lv_iload hx hb dL_law_964 (lv_at hl 0 rfl) ?_
  refine lv_i2l (v := r9.toInt64) hx hb dL_law_966 rfl ?_
  refine W.lcmp hx hb dL_law_967 ?_
  exact lv_if_eq (tgt := 973) hx hb dL_law_968 (by decide) (fun _ => fin ls hl) (fun c9 => absurd (lg_s _) c9)
theorem cm_meets (G : FV) (x1 : Int32) : meM G x1 ≤ 3 := by
  unfold meM
  (repeat' split) <;> decide
set_option maxHeartbeats 4000000 in
set_option maxRecDepth 100000 in
/-- case meets -/
theorem lc_meets {p : Program} {l : Launch} {e : Env} {s : State} {m : MethodId} {below : List Frame} {meth : Method} {c : Code} {b L : Nat} {xs : Nat → Int32} {Q : State → Prop} {D : va_G} {y : Nat → ClassId} {ao ac an ar am bs ba : Nat → Nat} (C0 : LCx p l s m meth c b L xs D y ao ac an ar am bs ba) {i B cells slots : Nat} (hi : i + 4 ≤ L) (hL : L ≤ 2048) (hB : B + 200 < 2 ^ 31) (hcl : cells + 4 ≤ 667962) (hsl : slots + 24 ≤ 7092219) (next : LGo p l e s m below meth c b Q D y ao ac an ar am bs ba 1279 i (B + 40) (cells + 4) (slots + 24)) : LGo p l e s m below meth c b Q D y ao ac an ar am bs ba 976 i B cells slots := by
  obtain ⟨hx, hb, hr, hml, hown, hts, hXs, hbl, hlocks, hK, hN, hE, hX, hD, hst⟩ := C0
  intro v K V U F S X H locs ls R hP hS hl
  have hA : ∀ q : Nat, s.heap.size ≤ q → lwA s q := fun _ h => h
  have hbA : ¬ lwA s b := Nat.not_le.mpr hbl
  have a1 : vp_in (nI i + 1) L := by rw [nI_p1]; exact vp_in_nI (by omega) (by omega)
  obtain ⟨x1, hx1⟩ : ∃ z, z = xs (Int32.toNatClampNeg (nI i + 1)) := ⟨_, rfl⟩
  have hcl9 := op_meets R hB (th_0 F) x1
  refine lv_aload_n hx hb dL_law_976 rfl (lv_at hl 1 rfl) ?_
  refine lv_aload_n hx hb dL_law_977 rfl (lv_at hl 0 rfl) ?_
  refine lv_iload hx hb dL_law_978 (lv_at hl 4 rfl) ?_
  refine lv_iconst (v := 1) hx hb dL_law_980 (by decide) ?_
  refine lv_iadd hx hb dL_law_981 ?_
  refine va_sld hx hb hXs hbl hbA hS a1 dL_law_982 ?_
  rw [← hx1]
  refine lv_aload_n hx hb dL_law_983 rfl (lv_at hl 3 rfl) ?_
  refine cLW (As := [.ref (ac 0), .int x1, .ref (ao 0)]) (rest := []) ⟨hx, hb, hml, hown, hts⟩ (c_L_meets l D y _ hst ao ac an ar v K V U x1 R.1.2.2.2.2.2.2.2.2.1 (okHs R hB) (rvIs R hB)) (vx_cwSW 3 hts gL_law_L_meets rfl rfl rfl (by decide +kernel) ⟨Nat.le_of_ble_eq_true rfl, Nat.le_of_ble_eq_true rfl⟩) hK hN hE hX (P_l hP) (by rw [lwW_fst]; exact aD_l hD) hS hA rfl hl.1 rfl (Nat.le_of_ble_eq_true rfl) dL_law_984 ⟨show cells + 1 ≤ 667962 by omega, show slots + 6 ≤ 7092219 by omega⟩ (fun v2 K2 V2 U2 H locs q1 q2 hP9 hk9 hS => ?_)
  have hP : va_P D vwCl (lawW y ao ac an ar am bs ba v2 K2 V2 U2 F S X) H := fr_l hP (by rw [lwW_fst, moA_fst]; exact hD) hk9 hP9
  refine lv_istore (lv' := [(5, .int (nI (meC V x1))), (0, .ref b), (1, .ref (ac 0)), (2, .ref (am 0)), (3, .ref (ao 0)), (4, .int (nI i))]) hx hb dL_law_987 hl (by decide) rfl (fun ls hl => ?_)
  refine lv_aload_n hx hb dL_law_989 rfl (lv_at hl 3 rfl) ?_
  refine lv_aload_n hx hb dL_law_990 rfl (lv_at hl 1 rfl) ?_
  refine lv_iload hx hb dL_law_991 (lv_at hl 5 rfl) ?_
  refine lv_iconst (v := 1) hx hb dL_law_993 (by decide) ?_
  refine lv_iadd hx hb dL_law_994 ?_
  refine va_sld hx hb hXs hbl hbA hS a1 dL_law_995 ?_
  rw [← hx1]
  refine cMd_V (S := FV) (As := [.int x1]) (rest := []) ⟨hx, hb, hml, hown, hts⟩ (c_X5_meets l D y _ am bs ba F S X x1 (okMs R hB) R.sunkB) (cwV 1 hts gL_law_X5_meets rfl rfl rfl (by decide +kernel) ⟨Nat.le_of_ble_eq_true rfl, Nat.le_of_ble_eq_true rfl⟩) hK hN (P_r hP) (by rw [moA_fst]; exact aD_r hD) hS hA (va_recv hK (P_r hP) (ci := 5) (q0 := 0) rfl (ap_l (wf_at (by decide) rfl))) rfl hl.1 rfl (Nat.le_of_ble_eq_true rfl) dL_law_996 ⟨show cells + 1 + 0 ≤ 667962 by omega, show slots + 6 + 0 ≤ 7092219 by omega⟩ (fun r9 u9 H locs w1 w2 w3 hk9 hS => ?_)
  obtain ⟨F2, S2, X2, hP9, f0, f1, f2⟩ := md_u (F1 := (th F)) (S1 := S) (u := u9) w2 w3 (fun z => (hcl9.2.2 (hcl9.2.1.mpr z)).2.2)
  have hP : va_P D vwCl (lawW y ao ac an ar am bs ba v2 K2 V2 U2 F2 S2 X2) H := fr_r hP (by rw [lwW_fst, moA_fst]; exact hD) hk9 hP9
  refine lv_istore (lv' := [(6, .int r9), (5, .int (nI (meC V x1))), (0, .ref b), (1, .ref (ac 0)), (2, .ref (am 0)), (3, .ref (ao 0)), (4, .int (nI i))]) hx hb dL_law_999 hl (by decide) rfl (fun ls hl => ?_)
  refine lv_aload_n hx hb dL_law_1001 rfl (lv_at hl 4 rfl) ?_
  refine cRI_V (As := []) (rest := []) ⟨hx, hb, hml, hown, hts⟩ (c_X5_thrown l D y am (bs 0) (ba 0) F2) (cwV 0 hts gL_law_X5_thrown rfl rfl rfl (by decide +kernel) ⟨Nat.le_of_ble_eq_true rfl, Nat.le_of_ble_eq_true rfl⟩) hK hN (P_l (P_r hP)) (va_recv hK (P_r hP) (ci := 5) (q0 := 0) rfl (ap_l (wf_at (by decide) rfl))) rfl hl.1 rfl (Nat.le_of_ble_eq_true rfl) dL_law_1002 ⟨show cells + 1 + 0 ≤ 667962 by omega, show slots + 6 + 0 ≤ 7092219 by omega⟩ ?_
  rw [f0]
  refine lv_iload hx hb dL_law_1005 (lv_at hl 1 rfl) ?_
  refine lv_icmp_eq (tgt := 1012) hx hb dL_law_1007 (by decide) (fun _ => ?_) (fun c9 => absurd (by rw [hcl9.1]) c9)
  have fin : ∀ ls : Array Slot, lv_has ls 9 [(6, .int r9), (5, .int (nI (meC V x1))), (0, .ref b), (1, .ref (ac 0)), (2, .ref (am 0)), (3, .ref (ao 0)), (4, .int (nI i))] → W p l e room_1 s m #[Value.ref b] below meth c H locs (cells + 1) (slots + 6) Q (F0 m 1029 ls []) := fun ls hl => by
    refine lv_goto (tgt := 1279) hx hb dL_law_1029 (by decide) ?_
    refine W.widen (k := cells + 4) (n := slots + 24) (by omega) (by omega) ?_
    exact next v2 K2 V2 U2 F2 S2 X2 H locs ls (cl_fin R hcl9 (fun z => (q1 z).2) q2 f1 f2) hP hS (lv_sub hl [2, 3, 4, 5, 6] rfl)
  refine lv_iload hx hb dL_law_1012 (lv_at hl 1 rfl) ?_
  refine lv_if_ne (tgt := 1029) hx hb dL_law_1014 (by decide) (fun _ => fin ls hl) (fun c9 => ?_)
  obtain ⟨z1, z2⟩ := cl_z hcl9 (cm_meets (th F) x1) c9
  have e9 : v2 (Int32.toNatClampNeg 0) = r9.toInt64 := by rw [w1 z2, ← (hcl9.2.2 z1).1]; exact (q1 z1).1
  refine lv_aload_n hx hb dL_law_1017 rfl (lv_at hl 5 rfl) ?_
  refine lv_iconst (v := 0) hx hb dL_law_1018 (by decide) ?_
  refine va_lald hx hb hK hP 0 2 (ap_l (ap_l (wf_at (by decide) rfl))) rfl (show vp_in (0 : Int32) 1 from vp_in_nI (n := 0) (by decide) (by decide)) dL_law_1019 ?_
  rw [e9]
  refine lv_iload hx hb dL_law_1020 (lv_at hl 0 rfl) ?_
  refine lv_i2l (v := r9.toInt64) hx hb dL_law_1022 rfl ?_
  refine W.lcmp hx hb dL_law_1023 ?_
  exact lv_if_eq (tgt := 1029) hx hb dL_law_1024 (by decide) (fun _ => fin ls hl) (fun c9 => absurd (lg_s _) c9)
theorem cm_sinks (G : FV) (x1 : Int32) : siM G x1 ≤ 3 := by
  unfold siM
  (repeat' split) <;> decide
set_option maxHeartbeats 4000000 in
set_option maxRecDepth 100000 in
/-- case sinks -/
theorem lc_sinks {p : Program} {l : Launch} {e : Env} {s : State} {m : MethodId} {below : List Frame} {meth : Method} {c : Code} {b L : Nat} {xs : Nat → Int32} {Q : State → Prop} {D : va_G} {y : Nat → ClassId} {ao ac an ar am bs ba : Nat → Nat} (C0 : LCx p l s m meth c b L xs D y ao ac an ar am bs ba) {i B cells slots : Nat} (hi : i + 4 ≤ L) (hL : L ≤ 2048) (hB : B + 200 < 2 ^ 31) (hcl : cells + 4 ≤ 667962) (hsl : slots + 24 ≤ 7092219) (next : LGo p l e s m below meth c b Q D y ao ac an ar am bs ba 1279 i (B + 40) (cells + 4) (slots + 24)) : LGo p l e s m below meth c b Q D y ao ac an ar am bs ba 1032 i B cells slots := by
  obtain ⟨hx, hb, hr, hml, hown, hts, hXs, hbl, hlocks, hK, hN, hE, hX, hD, hst⟩ := C0
  intro v K V U F S X H locs ls R hP hS hl
  have hA : ∀ q : Nat, s.heap.size ≤ q → lwA s q := fun _ h => h
  have hbA : ¬ lwA s b := Nat.not_le.mpr hbl
  have a1 : vp_in (nI i + 1) L := by rw [nI_p1]; exact vp_in_nI (by omega) (by omega)
  obtain ⟨x1, hx1⟩ : ∃ z, z = xs (Int32.toNatClampNeg (nI i + 1)) := ⟨_, rfl⟩
  have hcl9 := op_sinks R hB (th_0 F) x1
  refine lv_aload_n hx hb dL_law_1032 rfl (lv_at hl 1 rfl) ?_
  refine lv_aload_n hx hb dL_law_1033 rfl (lv_at hl 0 rfl) ?_
  refine lv_iload hx hb dL_law_1034 (lv_at hl 4 rfl) ?_
  refine lv_iconst (v := 1) hx hb dL_law_1036 (by decide) ?_
  refine lv_iadd hx hb dL_law_1037 ?_
  refine va_sld hx hb hXs hbl hbA hS a1 dL_law_1038 ?_
  rw [← hx1]
  refine lv_aload_n hx hb dL_law_1039 rfl (lv_at hl 3 rfl) ?_
  refine cLW (As := [.ref (ac 0), .int x1, .ref (ao 0)]) (rest := []) ⟨hx, hb, hml, hown, hts⟩ (c_L_sinks l D y _ hst ao ac an ar v K V U x1 R.1.2.2.2.2.2.2.2.1 (okHs R hB) (rvIs R hB)) (vx_cwSW 3 hts gL_law_L_sinks rfl rfl rfl (by decide +kernel) ⟨Nat.le_of_ble_eq_true rfl, Nat.le_of_ble_eq_true rfl⟩) hK hN hE hX (P_l hP) (by rw [lwW_fst]; exact aD_l hD) hS hA rfl hl.1 rfl (Nat.le_of_ble_eq_true rfl) dL_law_1040 ⟨show cells + 1 ≤ 667962 by omega, show slots + 6 ≤ 7092219 by omega⟩ (fun v2 K2 V2 U2 H locs q1 q2 hP9 hk9 hS => ?_)
  have hP : va_P D vwCl (lawW y ao ac an ar am bs ba v2 K2 V2 U2 F S X) H := fr_l hP (by rw [lwW_fst, moA_fst]; exact hD) hk9 hP9
  refine lv_istore (lv' := [(5, .int (nI (siC V x1))), (0, .ref b), (1, .ref (ac 0)), (2, .ref (am 0)), (3, .ref (ao 0)), (4, .int (nI i))]) hx hb dL_law_1043 hl (by decide) rfl (fun ls hl => ?_)
  refine lv_aload_n hx hb dL_law_1045 rfl (lv_at hl 3 rfl) ?_
  refine lv_aload_n hx hb dL_law_1046 rfl (lv_at hl 1 rfl) ?_
  refine lv_iload hx hb dL_law_1047 (lv_at hl 5 rfl) ?_
  refine lv_iconst (v := 1) hx hb dL_law_1049 (by decide) ?_
  refine lv_iadd hx hb dL_law_1050 ?_
  refine va_sld hx hb hXs hbl hbA hS a1 dL_law_1051 ?_
  rw [← hx1]
  refine cMd_V (S := FV) (As := [.int x1]) (rest := []) ⟨hx, hb, hml, hown, hts⟩ (c_X5_sinks l D y _ am bs ba F S X x1 (okMs R hB) R.sunkB) (cwV 1 hts gL_law_X5_sinks rfl rfl rfl (by decide +kernel) ⟨Nat.le_of_ble_eq_true rfl, Nat.le_of_ble_eq_true rfl⟩) hK hN (P_r hP) (by rw [moA_fst]; exact aD_r hD) hS hA (va_recv hK (P_r hP) (ci := 5) (q0 := 0) rfl (ap_l (wf_at (by decide) rfl))) rfl hl.1 rfl (Nat.le_of_ble_eq_true rfl) dL_law_1052 ⟨show cells + 1 + 0 ≤ 667962 by omega, show slots + 6 + 0 ≤ 7092219 by omega⟩ (fun r9 u9 H locs w1 w2 w3 hk9 hS => ?_)
  obtain ⟨F2, S2, X2, hP9, f0, f1, f2⟩ := md_u (F1 := (th F)) (S1 := S) (u := u9) w2 w3 (fun z => (hcl9.2.2 (hcl9.2.1.mpr z)).2.2)
  have hP : va_P D vwCl (lawW y ao ac an ar am bs ba v2 K2 V2 U2 F2 S2 X2) H := fr_r hP (by rw [lwW_fst, moA_fst]; exact hD) hk9 hP9
  refine lv_istore (lv' := [(6, .int r9), (5, .int (nI (siC V x1))), (0, .ref b), (1, .ref (ac 0)), (2, .ref (am 0)), (3, .ref (ao 0)), (4, .int (nI i))]) hx hb dL_law_1055 hl (by decide) rfl (fun ls hl => ?_)
  refine lv_aload_n hx hb dL_law_1057 rfl (lv_at hl 4 rfl) ?_
  refine cRI_V (As := []) (rest := []) ⟨hx, hb, hml, hown, hts⟩ (c_X5_thrown l D y am (bs 0) (ba 0) F2) (cwV 0 hts gL_law_X5_thrown rfl rfl rfl (by decide +kernel) ⟨Nat.le_of_ble_eq_true rfl, Nat.le_of_ble_eq_true rfl⟩) hK hN (P_l (P_r hP)) (va_recv hK (P_r hP) (ci := 5) (q0 := 0) rfl (ap_l (wf_at (by decide) rfl))) rfl hl.1 rfl (Nat.le_of_ble_eq_true rfl) dL_law_1058 ⟨show cells + 1 + 0 ≤ 667962 by omega, show slots + 6 + 0 ≤ 7092219 by omega⟩ ?_
  rw [f0]
  refine lv_iload hx hb dL_law_1061 (lv_at hl 1 rfl) ?_
  refine lv_icmp_eq (tgt := 1068) hx hb dL_law_1063 (by decide) (fun _ => ?_) (fun c9 => absurd (by rw [hcl9.1]) c9)
  have fin : ∀ ls : Array Slot, lv_has ls 9 [(6, .int r9), (5, .int (nI (siC V x1))), (0, .ref b), (1, .ref (ac 0)), (2, .ref (am 0)), (3, .ref (ao 0)), (4, .int (nI i))] → W p l e room_1 s m #[Value.ref b] below meth c H locs (cells + 1) (slots + 6) Q (F0 m 1085 ls []) := fun ls hl => by
    refine lv_goto (tgt := 1279) hx hb dL_law_1085 (by decide) ?_
    refine W.widen (k := cells + 4) (n := slots + 24) (by omega) (by omega) ?_
    exact next v2 K2 V2 U2 F2 S2 X2 H locs ls (cl_fin R hcl9 (fun z => (q1 z).2) q2 f1 f2) hP hS (lv_sub hl [2, 3, 4, 5, 6] rfl)
  refine lv_iload hx hb dL_law_1068 (lv_at hl 1 rfl) ?_
  refine lv_if_ne (tgt := 1085) hx hb dL_law_1070 (by decide) (fun _ => fin ls hl) (fun c9 => ?_)
  obtain ⟨z1, z2⟩ := cl_z hcl9 (cm_sinks (th F) x1) c9
  have e9 : v2 (Int32.toNatClampNeg 0) = r9.toInt64 := by rw [w1 z2, ← (hcl9.2.2 z1).1]; exact (q1 z1).1
  refine lv_aload_n hx hb dL_law_1073 rfl (lv_at hl 5 rfl) ?_
  refine lv_iconst (v := 0) hx hb dL_law_1074 (by decide) ?_
  refine va_lald hx hb hK hP 0 2 (ap_l (ap_l (wf_at (by decide) rfl))) rfl (show vp_in (0 : Int32) 1 from vp_in_nI (n := 0) (by decide) (by decide)) dL_law_1075 ?_
  rw [e9]
  refine lv_iload hx hb dL_law_1076 (lv_at hl 0 rfl) ?_
  refine lv_i2l (v := r9.toInt64) hx hb dL_law_1078 rfl ?_
  refine W.lcmp hx hb dL_law_1079 ?_
  exact lv_if_eq (tgt := 1085) hx hb dL_law_1080 (by decide) (fun _ => fin ls hl) (fun c9 => absurd (lg_s _) c9)
theorem cm_foresee (x1 x2 : Int32) : foM x1 x2 ≤ 3 := by
  unfold foM
  (repeat' split) <;> decide
set_option maxHeartbeats 4000000 in
set_option maxRecDepth 100000 in
/-- case foresee -/
theorem lc_foresee {p : Program} {l : Launch} {e : Env} {s : State} {m : MethodId} {below : List Frame} {meth : Method} {c : Code} {b L : Nat} {xs : Nat → Int32} {Q : State → Prop} {D : va_G} {y : Nat → ClassId} {ao ac an ar am bs ba : Nat → Nat} (C0 : LCx p l s m meth c b L xs D y ao ac an ar am bs ba) {i B cells slots : Nat} (hi : i + 4 ≤ L) (hL : L ≤ 2048) (hB : B + 200 < 2 ^ 31) (hcl : cells + 4 ≤ 667962) (hsl : slots + 24 ≤ 7092219) (next : LGo p l e s m below meth c b Q D y ao ac an ar am bs ba 1279 i (B + 40) (cells + 4) (slots + 24)) : LGo p l e s m below meth c b Q D y ao ac an ar am bs ba 1088 i B cells slots := by
  obtain ⟨hx, hb, hr, hml, hown, hts, hXs, hbl, hlocks, hK, hN, hE, hX, hD, hst⟩ := C0
  intro v K V U F S X H locs ls R hP hS hl
  have hA : ∀ q : Nat, s.heap.size ≤ q → lwA s q := fun _ h => h
  have hbA : ¬ lwA s b := Nat.not_le.mpr hbl
  have a1 : vp_in (nI i + 1) L := by rw [nI_p1]; exact vp_in_nI (by omega) (by omega)
  obtain ⟨x1, hx1⟩ : ∃ z, z = xs (Int32.toNatClampNeg (nI i + 1)) := ⟨_, rfl⟩
  have a2 : vp_in (nI i + 2) L := by rw [nI_p2]; exact vp_in_nI (by omega) (by omega)
  obtain ⟨x2, hx2⟩ : ∃ z, z = xs (Int32.toNatClampNeg (nI i + 2)) := ⟨_, rfl⟩
  have hcl9 := op_foresee R hB (th_0 F) x1 x2
  refine lv_aload_n hx hb dL_law_1088 rfl (lv_at hl 1 rfl) ?_
  refine lv_aload_n hx hb dL_law_1089 rfl (lv_at hl 0 rfl) ?_
  refine lv_iload hx hb dL_law_1090 (lv_at hl 4 rfl) ?_
  refine lv_iconst (v := 1) hx hb dL_law_1092 (by decide) ?_
  refine lv_iadd hx hb dL_law_1093 ?_
  refine va_sld hx hb hXs hbl hbA hS a1 dL_law_1094 ?_
  rw [← hx1]
  refine lv_aload_n hx hb dL_law_1095 rfl (lv_at hl 0 rfl) ?_
  refine lv_iload hx hb dL_law_1096 (lv_at hl 4 rfl) ?_
  refine lv_iconst (v := 2) hx hb dL_law_1098 (by decide) ?_
  refine lv_iadd hx hb dL_law_1099 ?_
  refine va_sld hx hb hXs hbl hbA hS a2 dL_law_1100 ?_
  rw [← hx2]
  refine lv_aload_n hx hb dL_law_1101 rfl (lv_at hl 3 rfl) ?_
  refine cLW (As := [.ref (ac 0), .int x1, .int x2, .ref (ao 0)]) (rest := []) ⟨hx, hb, hml, hown, hts⟩ (c_L_foresee l D y _ hst ao ac an ar v K V U x1 x2 R.rv (fun z i hi => okHs R hB i (by have := hr_in (n := 41) (ite_z (by decide) z).1 (by decide) (by decide) (by decide); omega))) (vx_cwSW 4 hts gL_law_L_foresee rfl rfl rfl (by decide +kernel) ⟨Nat.le_of_ble_eq_true rfl, Nat.le_of_ble_eq_true rfl⟩) hK hN hE hX (P_l hP) (by rw [lwW_fst]; exact aD_l hD) hS hA rfl hl.1 rfl (Nat.le_of_ble_eq_true rfl) dL_law_1102 ⟨show cells + 2 ≤ 667962 by omega, show slots + 12 ≤ 7092219 by omega⟩ (fun v2 K2 V2 U2 H locs q1 q2 hP9 hk9 hS => ?_)
  have hP : va_P D vwCl (lawW y ao ac an ar am bs ba v2 K2 V2 U2 F S X) H := fr_l hP (by rw [lwW_fst, moA_fst]; exact hD) hk9 hP9
  refine lv_istore (lv' := [(5, .int (nI (lkG (foC x1 x2)))), (0, .ref b), (1, .ref (ac 0)), (2, .ref (am 0)), (3, .ref (ao 0)), (4, .int (nI i))]) hx hb dL_law_1105 hl (by decide) rfl (fun ls hl => ?_)
  refine lv_aload_n hx hb dL_law_1107 rfl (lv_at hl 3 rfl) ?_
  refine lv_aload_n hx hb dL_law_1108 rfl (lv_at hl 1 rfl) ?_
  refine lv_iload hx hb dL_law_1109 (lv_at hl 5 rfl) ?_
  refine lv_iconst (v := 1) hx hb dL_law_1111 (by decide) ?_
  refine lv_iadd hx hb dL_law_1112 ?_
  refine va_sld hx hb hXs hbl hbA hS a1 dL_law_1113 ?_
  rw [← hx1]
  refine lv_aload_n hx hb dL_law_1114 rfl (lv_at hl 1 rfl) ?_
  refine lv_iload hx hb dL_law_1115 (lv_at hl 5 rfl) ?_
  refine lv_iconst (v := 2) hx hb dL_law_1117 (by decide) ?_
  refine lv_iadd hx hb dL_law_1118 ?_
  refine va_sld hx hb hXs hbl hbA hS a2 dL_law_1119 ?_
  rw [← hx2]
  refine cMd_V (S := FV) (As := [.int x1, .int x2]) (rest := []) ⟨hx, hb, hml, hown, hts⟩ (c_X5_foresee l D y _ am bs ba F S X x1 x2 (by rw [R.1.1]; exact R.1.2.2.2.2.2.2.2.1) R.sunkB (fun z i hi => okMs R hB i (by have := hr_in (n := 41) (fun q => absurd ((ii_0 x1 1 40).mpr q) (ite_z (by decide) z).1) (by decide) (by decide) (by decide); omega))) (cwV 2 hts gL_law_X5_foresee rfl rfl rfl (by decide +kernel) ⟨Nat.le_of_ble_eq_true rfl, Nat.le_of_ble_eq_true rfl⟩) hK hN (P_r hP) (by rw [moA_fst]; exact aD_r hD) hS hA (va_recv hK (P_r hP) (ci := 5) (q0 := 0) rfl (ap_l (wf_at (by decide) rfl))) rfl hl.1 rfl (Nat.le_of_ble_eq_true rfl) dL_law_1120 ⟨show cells + 2 + 0 ≤ 667962 by omega, show slots + 12 + 0 ≤ 7092219 by omega⟩ (fun r9 u9 H locs w1 w2 w3 hk9 hS => ?_)
  obtain ⟨F2, S2, X2, hP9, f0, f1, f2⟩ := md_u (F1 := (th F)) (S1 := S) (u := u9) w2 w3 (fun z => (hcl9.2.2 (hcl9.2.1.mpr z)).2.2)
  have hP : va_P D vwCl (lawW y ao ac an ar am bs ba v2 K2 V2 U2 F2 S2 X2) H := fr_r hP (by rw [lwW_fst, moA_fst]; exact hD) hk9 hP9
  refine lv_istore (lv' := [(6, .int r9), (5, .int (nI (lkG (foC x1 x2)))), (0, .ref b), (1, .ref (ac 0)), (2, .ref (am 0)), (3, .ref (ao 0)), (4, .int (nI i))]) hx hb dL_law_1123 hl (by decide) rfl (fun ls hl => ?_)
  refine lv_aload_n hx hb dL_law_1125 rfl (lv_at hl 4 rfl) ?_
  refine cRI_V (As := []) (rest := []) ⟨hx, hb, hml, hown, hts⟩ (c_X5_thrown l D y am (bs 0) (ba 0) F2) (cwV 0 hts gL_law_X5_thrown rfl rfl rfl (by decide +kernel) ⟨Nat.le_of_ble_eq_true rfl, Nat.le_of_ble_eq_true rfl⟩) hK hN (P_l (P_r hP)) (va_recv hK (P_r hP) (ci := 5) (q0 := 0) rfl (ap_l (wf_at (by decide) rfl))) rfl hl.1 rfl (Nat.le_of_ble_eq_true rfl) dL_law_1126 ⟨show cells + 2 + 0 ≤ 667962 by omega, show slots + 12 + 0 ≤ 7092219 by omega⟩ ?_
  rw [f0]
  refine lv_iload hx hb dL_law_1129 (lv_at hl 1 rfl) ?_
  refine lv_icmp_eq (tgt := 1136) hx hb dL_law_1131 (by decide) (fun _ => ?_) (fun c9 => absurd (by rw [hcl9.1]) c9)
  have fin : ∀ ls : Array Slot, lv_has ls 9 [(6, .int r9), (5, .int (nI (lkG (foC x1 x2)))), (0, .ref b), (1, .ref (ac 0)), (2, .ref (am 0)), (3, .ref (ao 0)), (4, .int (nI i))] → W p l e room_1 s m #[Value.ref b] below meth c H locs (cells + 2) (slots + 12) Q (F0 m 1153 ls []) := fun ls hl => by
    refine lv_goto (tgt := 1279) hx hb dL_law_1153 (by decide) ?_
    refine W.widen (k := cells + 4) (n := slots + 24) (by omega) (by omega) ?_
    exact next v2 K2 V2 U2 F2 S2 X2 H locs ls (cl_fin R hcl9 (fun z => (q1 z).2) q2 f1 f2) hP hS (lv_sub hl [2, 3, 4, 5, 6] rfl)
  refine lv_iload hx hb dL_law_1136 (lv_at hl 1 rfl) ?_
  refine lv_if_ne (tgt := 1153) hx hb dL_law_1138 (by decide) (fun _ => fin ls hl) (fun c9 => ?_)
  obtain ⟨z1, z2⟩ := cl_z hcl9 (cm_foresee x1 x2) c9
  have e9 : v2 (Int32.toNatClampNeg 0) = r9.toInt64 := by rw [w1 z2, ← (hcl9.2.2 z1).1]; exact (q1 z1).1
  refine lv_aload_n hx hb dL_law_1141 rfl (lv_at hl 5 rfl) ?_
  refine lv_iconst (v := 0) hx hb dL_law_1142 (by decide) ?_
  refine va_lald hx hb hK hP 0 2 (ap_l (ap_l (wf_at (by decide) rfl))) rfl (show vp_in (0 : Int32) 1 from vp_in_nI (n := 0) (by decide) (by decide)) dL_law_1143 ?_
  rw [e9]
  refine lv_iload hx hb dL_law_1144 (lv_at hl 0 rfl) ?_
  refine lv_i2l (v := r9.toInt64) hx hb dL_law_1146 rfl ?_
  refine W.lcmp hx hb dL_law_1147 ?_
  exact lv_if_eq (tgt := 1153) hx hb dL_law_1148 (by decide) (fun _ => fin ls hl) (fun c9 => absurd (lg_s _) c9)
theorem cm_advise (G : FV) (x1 x2 : Int32) : adM9 G x1 x2 ≤ 3 := by
  unfold adM9
  (repeat' split) <;> decide
set_option maxHeartbeats 4000000 in
set_option maxRecDepth 100000 in
/-- case advise -/
theorem lc_advise {p : Program} {l : Launch} {e : Env} {s : State} {m : MethodId} {below : List Frame} {meth : Method} {c : Code} {b L : Nat} {xs : Nat → Int32} {Q : State → Prop} {D : va_G} {y : Nat → ClassId} {ao ac an ar am bs ba : Nat → Nat} (C0 : LCx p l s m meth c b L xs D y ao ac an ar am bs ba) {i B cells slots : Nat} (hi : i + 4 ≤ L) (hL : L ≤ 2048) (hB : B + 200 < 2 ^ 31) (hcl : cells + 4 ≤ 667962) (hsl : slots + 24 ≤ 7092219) (next : LGo p l e s m below meth c b Q D y ao ac an ar am bs ba 1279 i (B + 40) (cells + 4) (slots + 24)) : LGo p l e s m below meth c b Q D y ao ac an ar am bs ba 1156 i B cells slots := by
  obtain ⟨hx, hb, hr, hml, hown, hts, hXs, hbl, hlocks, hK, hN, hE, hX, hD, hst⟩ := C0
  intro v K V U F S X H locs ls R hP hS hl
  have hA : ∀ q : Nat, s.heap.size ≤ q → lwA s q := fun _ h => h
  have hbA : ¬ lwA s b := Nat.not_le.mpr hbl
  have a1 : vp_in (nI i + 1) L := by rw [nI_p1]; exact vp_in_nI (by omega) (by omega)
  obtain ⟨x1, hx1⟩ : ∃ z, z = xs (Int32.toNatClampNeg (nI i + 1)) := ⟨_, rfl⟩
  have a2 : vp_in (nI i + 2) L := by rw [nI_p2]; exact vp_in_nI (by omega) (by omega)
  obtain ⟨x2, hx2⟩ : ∃ z, z = xs (Int32.toNatClampNeg (nI i + 2)) := ⟨_, rfl⟩
  have hcl9 := op_advise R hB (th_0 F) x1 x2
  refine lv_aload_n hx hb dL_law_1156 rfl (lv_at hl 1 rfl) ?_
  refine lv_aload_n hx hb dL_law_1157 rfl (lv_at hl 0 rfl) ?_
  refine lv_iload hx hb dL_law_1158 (lv_at hl 4 rfl) ?_
  refine lv_iconst (v := 1) hx hb dL_law_1160 (by decide) ?_
  refine lv_iadd hx hb dL_law_1161 ?_
  refine va_sld hx hb hXs hbl hbA hS a1 dL_law_1162 ?_
  rw [← hx1]
  refine lv_aload_n hx hb dL_law_1163 rfl (lv_at hl 0 rfl) ?_
  refine lv_iload hx hb dL_law_1164 (lv_at hl 4 rfl) ?_
  refine lv_iconst (v := 2) hx hb dL_law_1166 (by decide) ?_
  refine lv_iadd hx hb dL_law_1167 ?_
  refine va_sld hx hb hXs hbl hbA hS a2 dL_law_1168 ?_
  rw [← hx2]
  refine lv_aload_n hx hb dL_law_1169 rfl (lv_at hl 3 rfl) ?_
  refine cLW (As := [.ref (ac 0), .int x1, .int x2, .ref (ao 0)]) (rest := []) ⟨hx, hb, hml, hown, hts⟩ (c_L_advise l D y _ hst ao ac an ar v K V U x1 x2 R.1.2.2.2.2.2.2.2.2.1 R.rv (ad_okH R hB)) (vx_cwSW 4 hts gL_law_L_advise rfl rfl rfl (by decide +kernel) ⟨Nat.le_of_ble_eq_true rfl, Nat.le_of_ble_eq_true rfl⟩) hK hN hE hX (P_l hP) (by rw [lwW_fst]; exact aD_l hD) hS hA rfl hl.1 rfl (Nat.le_of_ble_eq_true rfl) dL_law_1170 ⟨show cells + 2 ≤ 667962 by omega, show slots + 12 ≤ 7092219 by omega⟩ (fun v2 K2 V2 U2 H locs q1 q2 hP9 hk9 hS => ?_)
  have hP : va_P D vwCl (lawW y ao ac an ar am bs ba v2 K2 V2 U2 F S X) H := fr_l hP (by rw [lwW_fst, moA_fst]; exact hD) hk9 hP9
  refine lv_istore (lv' := [(5, .int (nI (adC V x1 x2))), (0, .ref b), (1, .ref (ac 0)), (2, .ref (am 0)), (3, .ref (ao 0)), (4, .int (nI i))]) hx hb dL_law_1173 hl (by decide) rfl (fun ls hl => ?_)
  refine lv_aload_n hx hb dL_law_1175 rfl (lv_at hl 3 rfl) ?_
  refine lv_aload_n hx hb dL_law_1176 rfl (lv_at hl 1 rfl) ?_
  refine lv_iload hx hb dL_law_1177 (lv_at hl 5 rfl) ?_
  refine lv_iconst (v := 1) hx hb dL_law_1179 (by decide) ?_
  refine lv_iadd hx hb dL_law_1180 ?_
  refine va_sld hx hb hXs hbl hbA hS a1 dL_law_1181 ?_
  rw [← hx1]
  refine lv_aload_n hx hb dL_law_1182 rfl (lv_at hl 1 rfl) ?_
  refine lv_iload hx hb dL_law_1183 (lv_at hl 5 rfl) ?_
  refine lv_iconst (v := 2) hx hb dL_law_1185 (by decide) ?_
  refine lv_iadd hx hb dL_law_1186 ?_
  refine va_sld hx hb hXs hbl hbA hS a2 dL_law_1187 ?_
  rw [← hx2]
  refine cMd_V (S := FV) (As := [.int x1, .int x2]) (rest := []) ⟨hx, hb, hml, hown, hts⟩ (c_X5_advise l D y _ am bs ba F S X x1 x2 (by rw [R.1.2.1]; exact R.1.2.2.2.2.2.2.2.2.1) R.nets R.sunkB (ad_okM R hB)) (cwV 2 hts gL_law_X5_advise rfl rfl rfl (by decide +kernel) ⟨Nat.le_of_ble_eq_true rfl, Nat.le_of_ble_eq_true rfl⟩) hK hN (P_r hP) (by rw [moA_fst]; exact aD_r hD) hS hA (va_recv hK (P_r hP) (ci := 5) (q0 := 0) rfl (ap_l (wf_at (by decide) rfl))) rfl hl.1 rfl (Nat.le_of_ble_eq_true rfl) dL_law_1188 ⟨show cells + 2 + 0 ≤ 667962 by omega, show slots + 12 + 0 ≤ 7092219 by omega⟩ (fun r9 u9 H locs w1 w2 w3 hk9 hS => ?_)
  obtain ⟨F2, S2, X2, hP9, f0, f1, f2⟩ := md_u (F1 := (th F)) (S1 := S) (u := u9) w2 w3 (fun z => (hcl9.2.2 (hcl9.2.1.mpr z)).2.2)
  have hP : va_P D vwCl (lawW y ao ac an ar am bs ba v2 K2 V2 U2 F2 S2 X2) H := fr_r hP (by rw [lwW_fst, moA_fst]; exact hD) hk9 hP9
  refine lv_istore (lv' := [(6, .int r9), (5, .int (nI (adC V x1 x2))), (0, .ref b), (1, .ref (ac 0)), (2, .ref (am 0)), (3, .ref (ao 0)), (4, .int (nI i))]) hx hb dL_law_1191 hl (by decide) rfl (fun ls hl => ?_)
  refine lv_aload_n hx hb dL_law_1193 rfl (lv_at hl 4 rfl) ?_
  refine cRI_V (As := []) (rest := []) ⟨hx, hb, hml, hown, hts⟩ (c_X5_thrown l D y am (bs 0) (ba 0) F2) (cwV 0 hts gL_law_X5_thrown rfl rfl rfl (by decide +kernel) ⟨Nat.le_of_ble_eq_true rfl, Nat.le_of_ble_eq_true rfl⟩) hK hN (P_l (P_r hP)) (va_recv hK (P_r hP) (ci := 5) (q0 := 0) rfl (ap_l (wf_at (by decide) rfl))) rfl hl.1 rfl (Nat.le_of_ble_eq_true rfl) dL_law_1194 ⟨show cells + 2 + 0 ≤ 667962 by omega, show slots + 12 + 0 ≤ 7092219 by omega⟩ ?_
  rw [f0]
  refine lv_iload hx hb dL_law_1197 (lv_at hl 1 rfl) ?_
  refine lv_icmp_eq (tgt := 1204) hx hb dL_law_1199 (by decide) (fun _ => ?_) (fun c9 => absurd (by rw [hcl9.1]) c9)
  have fin : ∀ ls : Array Slot, lv_has ls 9 [(6, .int r9), (5, .int (nI (adC V x1 x2))), (0, .ref b), (1, .ref (ac 0)), (2, .ref (am 0)), (3, .ref (ao 0)), (4, .int (nI i))] → W p l e room_1 s m #[Value.ref b] below meth c H locs (cells + 2) (slots + 12) Q (F0 m 1221 ls []) := fun ls hl => by
    refine lv_goto (tgt := 1279) hx hb dL_law_1221 (by decide) ?_
    refine W.widen (k := cells + 4) (n := slots + 24) (by omega) (by omega) ?_
    exact next v2 K2 V2 U2 F2 S2 X2 H locs ls (cl_fin R hcl9 (fun z => (q1 z).2) q2 f1 f2) hP hS (lv_sub hl [2, 3, 4, 5, 6] rfl)
  refine lv_iload hx hb dL_law_1204 (lv_at hl 1 rfl) ?_
  refine lv_if_ne (tgt := 1221) hx hb dL_law_1206 (by decide) (fun _ => fin ls hl) (fun c9 => ?_)
  obtain ⟨z1, z2⟩ := cl_z hcl9 (cm_advise (th F) x1 x2) c9
  have e9 : v2 (Int32.toNatClampNeg 0) = r9.toInt64 := by rw [w1 z2, ← (hcl9.2.2 z1).1]; exact (q1 z1).1
  refine lv_aload_n hx hb dL_law_1209 rfl (lv_at hl 5 rfl) ?_
  refine lv_iconst (v := 0) hx hb dL_law_1210 (by decide) ?_
  refine va_lald hx hb hK hP 0 2 (ap_l (ap_l (wf_at (by decide) rfl))) rfl (show vp_in (0 : Int32) 1 from vp_in_nI (n := 0) (by decide) (by decide)) dL_law_1211 ?_
  rw [e9]
  refine lv_iload hx hb dL_law_1212 (lv_at hl 0 rfl) ?_
  refine lv_i2l (v := r9.toInt64) hx hb dL_law_1214 rfl ?_
  refine W.lcmp hx hb dL_law_1215 ?_
  exact lv_if_eq (tgt := 1221) hx hb dL_law_1216 (by decide) (fun _ => fin ls hl) (fun c9 => absurd (lg_s _) c9)
set_option maxHeartbeats 4000000 in
set_option maxRecDepth 100000 in
/-- case mean -/
theorem lc_mean {p : Program} {l : Launch} {e : Env} {s : State} {m : MethodId} {below : List Frame} {meth : Method} {c : Code} {b L : Nat} {xs : Nat → Int32} {Q : State → Prop} {D : va_G} {y : Nat → ClassId} {ao ac an ar am bs ba : Nat → Nat} (C0 : LCx p l s m meth c b L xs D y ao ac an ar am bs ba) {i B cells slots : Nat} (hi : i + 4 ≤ L) (hL : L ≤ 2048) (hB : B + 200 < 2 ^ 31) (hcl : cells + 4 ≤ 667962) (hsl : slots + 24 ≤ 7092219) (next : LGo p l e s m below meth c b Q D y ao ac an ar am bs ba 1279 i (B + 40) (cells + 4) (slots + 24)) : LGo p l e s m below meth c b Q D y ao ac an ar am bs ba 1224 i B cells slots := by
  obtain ⟨hx, hb, hr, hml, hown, hts, hXs, hbl, hlocks, hK, hN, hE, hX, hD, hst⟩ := C0
  intro v K V U F S X H locs ls R hP hS hl
  have hA : ∀ q : Nat, s.heap.size ≤ q → lwA s q := fun _ h => h
  have hbA : ¬ lwA s b := Nat.not_le.mpr hbl
  refine lv_aload_n hx hb dL_law_1224 rfl (lv_at hl 1 rfl) ?_
  refine cRD_V (As := []) (rest := []) ⟨hx, hb, hml, hown, hts⟩ (c_X3_mean l D y ac an (an 0) (ar 0) K V (me_n R) rfl) (cwV 0 hts gL_law_X3_mean rfl rfl rfl (by decide +kernel) ⟨Nat.le_of_ble_eq_true rfl, Nat.le_of_ble_eq_true rfl⟩) hK hN (P_xw (P_r (P_l hP))) (va_recv hK (P_r (P_l hP)) (ci := 3) (q0 := 0) rfl (ap_l (wf_at (by decide) rfl))) rfl hl.1 rfl (Nat.le_of_ble_eq_true rfl) dL_law_1225 ⟨show cells + 0 ≤ 667962 by omega, show slots + 0 ≤ 7092219 by omega⟩ ?_
  refine lv_dstore (lv' := [(5, .double (meF V)), (0, .ref b), (1, .ref (ac 0)), (2, .ref (am 0)), (3, .ref (ao 0)), (4, .int (nI i))]) hx hb dL_law_1228 hl (by decide) rfl (fun ls hl => ?_)
  refine lv_aload_n hx hb dL_law_1230 rfl (lv_at hl 3 rfl) ?_
  refine cWD_V (As := []) (rest := []) ⟨hx, hb, hml, hown, hts⟩ (c_X5_mean l D y _ am bs ba F S X (by rw [R.1.1]; exact R.1.2.2.2.2.2.2.2.1) (me_nM R)) (cwV 0 hts gL_law_X5_mean rfl rfl rfl (by decide +kernel) ⟨Nat.le_of_ble_eq_true rfl, Nat.le_of_ble_eq_true rfl⟩) hK hN (P_r hP) (by rw [moA_fst]; exact aD_r hD) hS hA (va_recv hK (P_r hP) (ci := 5) (q0 := 0) rfl (ap_l (wf_at (by decide) rfl))) rfl hl.1 rfl (Nat.le_of_ble_eq_true rfl) dL_law_1231 ⟨show cells + 0 ≤ 667962 by omega, show slots + 0 ≤ 7092219 by omega⟩ (fun H locs hP9 hk9 hS => ?_)
  have hP : va_P D vwCl (lawW y ao ac an ar am bs ba v K V U (th F) S X) H := fr_r hP (by rw [lwW_fst, moA_fst]; exact hD) hk9 hP9
  refine lv_dstore (lv' := [(7, .double (mnM (th F) S)), (5, .double (meF V)), (0, .ref b), (1, .ref (ac 0)), (2, .ref (am 0)), (3, .ref (ao 0)), (4, .int (nI i))]) hx hb dL_law_1234 hl (by decide) rfl (fun ls hl => ?_)
  refine lv_dload hx hb dL_law_1236 (lv_at hl 1 rfl) ?_
  refine lv_dload hx hb dL_law_1238 (lv_at hl 0 rfl) ?_
  refine lv_dcmp hx hb dL_law_1240 ?_
  rw [me_cmp R]
  refine lv_if_eq (tgt := 1262) hx hb dL_law_1241 (by decide) (fun _ => ?_) (fun c9 => absurd rfl c9)
  refine lv_goto (tgt := 1279) hx hb dL_law_1262 (by decide) ?_
  refine W.widen (k := cells + 4) (n := slots + 24) (by omega) (by omega) ?_
  exact next v K V U (th F) S X H locs ls (RI_th (RI_up R (by omega))) hP hS (lv_sub hl [2, 3, 4, 5, 6] rfl)
set_option maxHeartbeats 4000000 in
set_option maxRecDepth 100000 in
/-- case digest -/
theorem lc_digest {p : Program} {l : Launch} {e : Env} {s : State} {m : MethodId} {below : List Frame} {meth : Method} {c : Code} {b L : Nat} {xs : Nat → Int32} {Q : State → Prop} {D : va_G} {y : Nat → ClassId} {ao ac an ar am bs ba : Nat → Nat} (C0 : LCx p l s m meth c b L xs D y ao ac an ar am bs ba) {i B cells slots : Nat} (hi : i + 4 ≤ L) (hL : L ≤ 2048) (hB : B + 200 < 2 ^ 31) (hcl : cells + 4 ≤ 667962) (hsl : slots + 24 ≤ 7092219) (next : LGo p l e s m below meth c b Q D y ao ac an ar am bs ba 1279 i (B + 40) (cells + 4) (slots + 24)) : LGo p l e s m below meth c b Q D y ao ac an ar am bs ba 1265 i B cells slots := by
  obtain ⟨hx, hb, hr, hml, hown, hts, hXs, hbl, hlocks, hK, hN, hE, hX, hD, hst⟩ := C0
  intro v K V U F S X H locs ls R hP hS hl
  have hA : ∀ q : Nat, s.heap.size ≤ q → lwA s q := fun _ h => h
  have hbA : ¬ lwA s b := Nat.not_le.mpr hbl
  refine lv_aload_n hx hb dL_law_1265 rfl (lv_at hl 1 rfl) ?_
  refine cRL_V (As := []) (rest := []) ⟨hx, hb, hml, hown, hts⟩ (c_X3_digest l D y ac an (an 0) (ar 0) K V rfl R.1.2.2.2.2.2.2.2.1 R.1.2.2.2.2.2.2.2.2.1 R.rv) (cwV 0 hts gL_law_X3_digest rfl rfl rfl (by decide +kernel) ⟨Nat.le_of_ble_eq_true rfl, Nat.le_of_ble_eq_true rfl⟩) hK hN (P_xw (P_r (P_l hP))) (va_recv hK (P_r (P_l hP)) (ci := 3) (q0 := 0) rfl (ap_l (wf_at (by decide) rfl))) rfl hl.1 rfl (Nat.le_of_ble_eq_true rfl) dL_law_1266 ⟨show cells + 0 ≤ 667962 by omega, show slots + 0 ≤ 7092219 by omega⟩ ?_
  refine lv_aload_n hx hb dL_law_1269 rfl (lv_at hl 2 rfl) ?_
  refine cWL_V (As := []) (rest := [.long (dgF K V)]) ⟨hx, hb, hml, hown, hts⟩ (c_X5_digest l D y _ am bs ba F S X (by rw [R.1.1]; exact R.1.2.2.2.2.2.2.2.1) (by rw [R.1.2.1]; exact R.1.2.2.2.2.2.2.2.2.1) R.nets R.at16) (cwV 0 hts gL_law_X5_digest rfl rfl rfl (by decide +kernel) ⟨Nat.le_of_ble_eq_true rfl, Nat.le_of_ble_eq_true rfl⟩) hK hN (P_r hP) (by rw [moA_fst]; exact aD_r hD) hS hA (va_recv hK (P_r hP) (ci := 5) (q0 := 0) rfl (ap_l (wf_at (by decide) rfl))) rfl hl.1 rfl (Nat.le_of_ble_eq_true rfl) dL_law_1270 ⟨show cells + 0 ≤ 667962 by omega, show slots + 0 ≤ 7092219 by omega⟩ (fun H locs hP9 hk9 hS => ?_)
  have hP : va_P D vwCl (lawW y ao ac an ar am bs ba v K V U (th F) S X) H := fr_r hP (by rw [lwW_fst, moA_fst]; exact hD) hk9 hP9
  rw [dg_eq R]
  refine W.lcmp hx hb dL_law_1273 ?_
  refine lv_if_eq (tgt := 1279) hx hb dL_law_1274 (by decide) (fun _ => ?_) (fun c9 => absurd (lg_s _) c9)
  refine W.widen (k := cells + 4) (n := slots + 24) (by omega) (by omega) ?_
  exact next v K V U (th F) S X H locs ls (RI_th (RI_up R (by omega))) hP hS (lv_sub hl [0, 1, 2, 3, 4] rfl)
