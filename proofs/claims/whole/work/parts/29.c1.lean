theorem nt_in {B : Nat} {K V G U : FV} (R : RI B K V G U) {a b : Int32} (z : ntC V a b = 0) : vp_in (V 0 3) 3 := by
  obtain ⟨i, j, t, -, -, -, -, -, -, -, et, ht⟩ := nt_T R z
  rw [et]
  exact vp_in_nI ht (by decide)
theorem ad_okH {B : Nat} {K V G U : FV} (R : RI B K V G U) (hB : B + 200 < 2 ^ 31) {n h : Int32} (z : adC V n h = 0) : ∀ g, g < 16 → ∀ i, i < ix h → okH K (lsV K (glV V (ix n) (nI g)) i) := by
  obtain ⟨z1, z2⟩ := ite_z (by decide) z
  have h9 := hr_in (n := 11) (ite_z (by decide) z2).1 (by decide) (by decide) (by decide)
  intro g hg i hi
  exact okHs (ri_gl R (cT R z1).2 (vp_in_nI hg (by decide))) hB i (by omega)
theorem ad_okM {B : Nat} {K V G U : FV} (R : RI B K V G U) (hB : B + 200 < 2 ^ 31) {n h : Int32} (z : adM9 G n h = 0) : ∀ g, g < 16 → ∀ i, i < ix h → okM G (psM G (glM G U (ix n) (nI g)) i) := by
  obtain ⟨z1, z2⟩ := ite_z (by decide) z
  have h9 := hr_in (n := 11) (fun q => absurd ((ii_0 h 1 10).mpr q) (ite_z (by decide) z2).1) (by decide) (by decide) (by decide)
  intro g hg i hi
  exact okMs (ri_gl R (cT R (fun q => z1 ((iT R n).mpr q))).2 (vp_in_nI hg (by decide))) hB i (by omega)
theorem cm_setDrift (x1 x2 : Int32) : stM x1 x2 5 ≤ 3 := by
  unfold stM
  (repeat' split) <;> decide
set_option maxHeartbeats 4000000 in
set_option maxRecDepth 100000 in
/-- case setDrift -/
theorem lc_setDrift {p : Program} {l : Launch} {e : Env} {s : State} {m : MethodId} {below : List Frame} {meth : Method} {c : Code} {b L : Nat} {xs : Nat → Int32} {Q : State → Prop} {D : va_G} {y : Nat → ClassId} {ao ac an ar am bs ba : Nat → Nat} (C0 : LCx p l s m meth c b L xs D y ao ac an ar am bs ba) {i B cells slots : Nat} (hi : i + 4 ≤ L) (hL : L ≤ 2048) (hB : B + 200 < 2 ^ 31) (hcl : cells + 4 ≤ 667962) (hsl : slots + 24 ≤ 7092219) (next : LGo p l e s m below meth c b Q D y ao ac an ar am bs ba 1279 i (B + 40) (cells + 4) (slots + 24)) : LGo p l e s m below meth c b Q D y ao ac an ar am bs ba 128 i B cells slots := by
  obtain ⟨hx, hb, hr, hml, hown, hts, hXs, hbl, hlocks, hK, hN, hE, hX, hD, hst⟩ := C0
  intro v K V U F S X H locs ls R hP hS hl
  have hA : ∀ q : Nat, s.heap.size ≤ q → lwA s q := fun _ h => h
  have hbA : ¬ lwA s b := Nat.not_le.mpr hbl
  have a1 : vp_in (nI i + 1) L := by rw [nI_p1]; exact vp_in_nI (by omega) (by omega)
  obtain ⟨x1, hx1⟩ : ∃ z, z = xs (Int32.toNatClampNeg (nI i + 1)) := ⟨_, rfl⟩
  have a2 : vp_in (nI i + 2) L := by rw [nI_p2]; exact vp_in_nI (by omega) (by omega)
  obtain ⟨x2, hx2⟩ : ∃ z, z = xs (Int32.toNatClampNeg (nI i + 2)) := ⟨_, rfl⟩
  have hcl9 := op_setDrift R (th_0 F) x1 x2
  refine lv_aload_n hx hb dL_law_128 rfl (lv_at hl 1 rfl) ?_
  refine lv_aload_n hx hb dL_law_129 rfl (lv_at hl 0 rfl) ?_
  refine lv_iload hx hb dL_law_130 (lv_at hl 4 rfl) ?_
  refine lv_iconst (v := 1) hx hb dL_law_132 (by decide) ?_
  refine lv_iadd hx hb dL_law_133 ?_
  refine va_sld hx hb hXs hbl hbA hS a1 dL_law_134 ?_
  rw [← hx1]
  refine lv_aload_n hx hb dL_law_135 rfl (lv_at hl 0 rfl) ?_
  refine lv_iload hx hb dL_law_136 (lv_at hl 4 rfl) ?_
  refine lv_iconst (v := 2) hx hb dL_law_138 (by decide) ?_
  refine lv_iadd hx hb dL_law_139 ?_
  refine va_sld hx hb hXs hbl hbA hS a2 dL_law_140 ?_
  rw [← hx2]
  refine lv_aload_n hx hb dL_law_141 rfl (lv_at hl 3 rfl) ?_
  refine cLW (As := [.ref (ac 0), .int x1, .int x2, .ref (ao 0)]) (rest := []) ⟨hx, hb, hml, hown, hts⟩ (c_L_setDrift l D y _ hst ao ac an ar v K V U x1 x2) (vx_cwSW 4 hts gL_law_L_setDrift rfl rfl rfl (by decide +kernel) ⟨Nat.le_of_ble_eq_true rfl, Nat.le_of_ble_eq_true rfl⟩) hK hN hE hX (P_l hP) (by rw [lwW_fst]; exact aD_l hD) hS hA rfl hl.1 rfl (Nat.le_of_ble_eq_true rfl) dL_law_142 ⟨show cells + 2 ≤ 667962 by omega, show slots + 12 ≤ 7092219 by omega⟩ (fun v2 K2 V2 U2 H locs q1 q2 hP9 hk9 hS => ?_)
  have hP : va_P D vwCl (lawW y ao ac an ar am bs ba v2 K2 V2 U2 F S X) H := fr_l hP (by rw [lwW_fst, moA_fst]; exact hD) hk9 hP9
  refine lv_istore (lv' := [(5, .int (nI (stC x1 x2 5))), (0, .ref b), (1, .ref (ac 0)), (2, .ref (am 0)), (3, .ref (ao 0)), (4, .int (nI i))]) hx hb dL_law_145 hl (by decide) rfl (fun ls hl => ?_)
  refine lv_aload_n hx hb dL_law_147 rfl (lv_at hl 3 rfl) ?_
  refine lv_aload_n hx hb dL_law_148 rfl (lv_at hl 1 rfl) ?_
  refine lv_iload hx hb dL_law_149 (lv_at hl 5 rfl) ?_
  refine lv_iconst (v := 1) hx hb dL_law_151 (by decide) ?_
  refine lv_iadd hx hb dL_law_152 ?_
  refine va_sld hx hb hXs hbl hbA hS a1 dL_law_153 ?_
  rw [← hx1]
  refine lv_aload_n hx hb dL_law_154 rfl (lv_at hl 1 rfl) ?_
  refine lv_iload hx hb dL_law_155 (lv_at hl 5 rfl) ?_
  refine lv_iconst (v := 2) hx hb dL_law_157 (by decide) ?_
  refine lv_iadd hx hb dL_law_158 ?_
  refine va_sld hx hb hXs hbl hbA hS a2 dL_law_159 ?_
  rw [← hx2]
  refine cMd_V (S := FV) (As := [.int x1, .int x2]) (rest := []) ⟨hx, hb, hml, hown, hts⟩ (c_X5_setDrift l D y _ am bs ba F S X x1 x2) (cwV 2 hts gL_law_X5_setDrift rfl rfl rfl (by decide +kernel) ⟨Nat.le_of_ble_eq_true rfl, Nat.le_of_ble_eq_true rfl⟩) hK hN (P_r hP) (by rw [moA_fst]; exact aD_r hD) hS hA (va_recv hK (P_r hP) (ci := 5) (q0 := 0) rfl (ap_l (wf_at (by decide) rfl))) rfl hl.1 rfl (Nat.le_of_ble_eq_true rfl) dL_law_160 ⟨show cells + 2 + 0 ≤ 667962 by omega, show slots + 12 + 0 ≤ 7092219 by omega⟩ (fun r9 u9 H locs w1 w2 w3 hk9 hS => ?_)
  obtain ⟨F2, S2, X2, hP9, f0, f1, f2⟩ := md_u (F1 := (vU (th F) 1 (ix x1) x2)) (S1 := S) (u := u9) w2 w3 (fun z => (hcl9.2.2 (hcl9.2.1.mpr z)).2.2)
  have hP : va_P D vwCl (lawW y ao ac an ar am bs ba v2 K2 V2 U2 F2 S2 X2) H := fr_r hP (by rw [lwW_fst, moA_fst]; exact hD) hk9 hP9
  refine lv_istore (lv' := [(6, .int r9), (5, .int (nI (stC x1 x2 5))), (0, .ref b), (1, .ref (ac 0)), (2, .ref (am 0)), (3, .ref (ao 0)), (4, .int (nI i))]) hx hb dL_law_163 hl (by decide) rfl (fun ls hl => ?_)
  refine lv_aload_n hx hb dL_law_165 rfl (lv_at hl 4 rfl) ?_
  refine cRI_V (As := []) (rest := []) ⟨hx, hb, hml, hown, hts⟩ (c_X5_thrown l D y am (bs 0) (ba 0) F2) (cwV 0 hts gL_law_X5_thrown rfl rfl rfl (by decide +kernel) ⟨Nat.le_of_ble_eq_true rfl, Nat.le_of_ble_eq_true rfl⟩) hK hN (P_l (P_r hP)) (va_recv hK (P_r hP) (ci := 5) (q0 := 0) rfl (ap_l (wf_at (by decide) rfl))) rfl hl.1 rfl (Nat.le_of_ble_eq_true rfl) dL_law_166 ⟨show cells + 2 + 0 ≤ 667962 by omega, show slots + 12 + 0 ≤ 7092219 by omega⟩ ?_
  rw [f0]
  refine lv_iload hx hb dL_law_169 (lv_at hl 1 rfl) ?_
  refine lv_icmp_eq (tgt := 176) hx hb dL_law_171 (by decide) (fun _ => ?_) (fun c9 => absurd (by rw [hcl9.1]) c9)
  have fin : ∀ ls : Array Slot, lv_has ls 9 [(6, .int r9), (5, .int (nI (stC x1 x2 5))), (0, .ref b), (1, .ref (ac 0)), (2, .ref (am 0)), (3, .ref (ao 0)), (4, .int (nI i))] → W p l e room_1 s m #[Value.ref b] below meth c H locs (cells + 2) (slots + 12) Q (F0 m 193 ls []) := fun ls hl => by
    refine lv_goto (tgt := 1279) hx hb dL_law_193 (by decide) ?_
    refine W.widen (k := cells + 4) (n := slots + 24) (by omega) (by omega) ?_
    exact next v2 K2 V2 U2 F2 S2 X2 H locs ls (cl_fin R hcl9 (fun z => (q1 z).2) q2 f1 f2) hP hS (lv_sub hl [2, 3, 4, 5, 6] rfl)
  refine lv_iload hx hb dL_law_176 (lv_at hl 1 rfl) ?_
  refine lv_if_ne (tgt := 193) hx hb dL_law_178 (by decide) (fun _ => fin ls hl) (fun c9 => ?_)
  obtain ⟨z1, z2⟩ := cl_z hcl9 (cm_setDrift x1 x2) c9
  have e9 : v2 (Int32.toNatClampNeg 0) = r9.toInt64 := by rw [w1 z2, ← (hcl9.2.2 z1).1]; exact (q1 z1).1
  refine lv_aload_n hx hb dL_law_181 rfl (lv_at hl 5 rfl) ?_
  refine lv_iconst (v := 0) hx hb dL_law_182 (by decide) ?_
  refine va_lald hx hb hK hP 0 2 (ap_l (ap_l (wf_at (by decide) rfl))) rfl (show vp_in (0 : Int32) 1 from vp_in_nI (n := 0) (by decide) (by decide)) dL_law_183 ?_
  rw [e9]
  refine lv_iload hx hb dL_law_184 (lv_at hl 0 rfl) ?_
  refine lv_i2l (v := r9.toInt64) hx hb dL_law_186 rfl ?_
  refine W.lcmp hx hb dL_law_187 ?_
  exact lv_if_eq (tgt := 193) hx hb dL_law_188 (by decide) (fun _ => fin ls hl) (fun c9 => absurd (lg_s _) c9)
theorem cm_setRun (x1 x2 : Int32) : stM x1 x2 9 ≤ 3 := by
  unfold stM
  (repeat' split) <;> decide
set_option maxHeartbeats 4000000 in
set_option maxRecDepth 100000 in
/-- case setRun -/
theorem lc_setRun {p : Program} {l : Launch} {e : Env} {s : State} {m : MethodId} {below : List Frame} {meth : Method} {c : Code} {b L : Nat} {xs : Nat → Int32} {Q : State → Prop} {D : va_G} {y : Nat → ClassId} {ao ac an ar am bs ba : Nat → Nat} (C0 : LCx p l s m meth c b L xs D y ao ac an ar am bs ba) {i B cells slots : Nat} (hi : i + 4 ≤ L) (hL : L ≤ 2048) (hB : B + 200 < 2 ^ 31) (hcl : cells + 4 ≤ 667962) (hsl : slots + 24 ≤ 7092219) (next : LGo p l e s m below meth c b Q D y ao ac an ar am bs ba 1279 i (B + 40) (cells + 4) (slots + 24)) : LGo p l e s m below meth c b Q D y ao ac an ar am bs ba 196 i B cells slots := by
  obtain ⟨hx, hb, hr, hml, hown, hts, hXs, hbl, hlocks, hK, hN, hE, hX, hD, hst⟩ := C0
  intro v K V U F S X H locs ls R hP hS hl
  have hA : ∀ q : Nat, s.heap.size ≤ q → lwA s q := fun _ h => h
  have hbA : ¬ lwA s b := Nat.not_le.mpr hbl
  have a1 : vp_in (nI i + 1) L := by rw [nI_p1]; exact vp_in_nI (by omega) (by omega)
  obtain ⟨x1, hx1⟩ : ∃ z, z = xs (Int32.toNatClampNeg (nI i + 1)) := ⟨_, rfl⟩
  have a2 : vp_in (nI i + 2) L := by rw [nI_p2]; exact vp_in_nI (by omega) (by omega)
  obtain ⟨x2, hx2⟩ : ∃ z, z = xs (Int32.toNatClampNeg (nI i + 2)) := ⟨_, rfl⟩
  have hcl9 := op_setRun R (th_0 F) x1 x2
  refine lv_aload_n hx hb dL_law_196 rfl (lv_at hl 1 rfl) ?_
  refine lv_aload_n hx hb dL_law_197 rfl (lv_at hl 0 rfl) ?_
  refine lv_iload hx hb dL_law_198 (lv_at hl 4 rfl) ?_
  refine lv_iconst (v := 1) hx hb dL_law_200 (by decide) ?_
  refine lv_iadd hx hb dL_law_201 ?_
  refine va_sld hx hb hXs hbl hbA hS a1 dL_law_202 ?_
  rw [← hx1]
  refine lv_aload_n hx hb dL_law_203 rfl (lv_at hl 0 rfl) ?_
  refine lv_iload hx hb dL_law_204 (lv_at hl 4 rfl) ?_
  refine lv_iconst (v := 2) hx hb dL_law_206 (by decide) ?_
  refine lv_iadd hx hb dL_law_207 ?_
  refine va_sld hx hb hXs hbl hbA hS a2 dL_law_208 ?_
  rw [← hx2]
  refine lv_aload_n hx hb dL_law_209 rfl (lv_at hl 3 rfl) ?_
  refine cLW (As := [.ref (ac 0), .int x1, .int x2, .ref (ao 0)]) (rest := []) ⟨hx, hb, hml, hown, hts⟩ (c_L_setRun l D y _ hst ao ac an ar v K V U x1 x2) (vx_cwSW 4 hts gL_law_L_setRun rfl rfl rfl (by decide +kernel) ⟨Nat.le_of_ble_eq_true rfl, Nat.le_of_ble_eq_true rfl⟩) hK hN hE hX (P_l hP) (by rw [lwW_fst]; exact aD_l hD) hS hA rfl hl.1 rfl (Nat.le_of_ble_eq_true rfl) dL_law_210 ⟨show cells + 2 ≤ 667962 by omega, show slots + 12 ≤ 7092219 by omega⟩ (fun v2 K2 V2 U2 H locs q1 q2 hP9 hk9 hS => ?_)
  have hP : va_P D vwCl (lawW y ao ac an ar am bs ba v2 K2 V2 U2 F S X) H := fr_l hP (by rw [lwW_fst, moA_fst]; exact hD) hk9 hP9
  refine lv_istore (lv' := [(5, .int (nI (stC x1 x2 9))), (0, .ref b), (1, .ref (ac 0)), (2, .ref (am 0)), (3, .ref (ao 0)), (4, .int (nI i))]) hx hb dL_law_213 hl (by decide) rfl (fun ls hl => ?_)
  refine lv_aload_n hx hb dL_law_215 rfl (lv_at hl 3 rfl) ?_
  refine lv_aload_n hx hb dL_law_216 rfl (lv_at hl 1 rfl) ?_
  refine lv_iload hx hb dL_law_217 (lv_at hl 5 rfl) ?_
  refine lv_iconst (v := 1) hx hb dL_law_219 (by decide) ?_
  refine lv_iadd hx hb dL_law_220 ?_
  refine va_sld hx hb hXs hbl hbA hS a1 dL_law_221 ?_
  rw [← hx1]
  refine lv_aload_n hx hb dL_law_222 rfl (lv_at hl 1 rfl) ?_
  refine lv_iload hx hb dL_law_223 (lv_at hl 5 rfl) ?_
  refine lv_iconst (v := 2) hx hb dL_law_225 (by decide) ?_
  refine lv_iadd hx hb dL_law_226 ?_
  refine va_sld hx hb hXs hbl hbA hS a2 dL_law_227 ?_
  rw [← hx2]
  refine cMd_V (S := FV) (As := [.int x1, .int x2]) (rest := []) ⟨hx, hb, hml, hown, hts⟩ (c_X5_setRun l D y _ am bs ba F S X x1 x2) (cwV 2 hts gL_law_X5_setRun rfl rfl rfl (by decide +kernel) ⟨Nat.le_of_ble_eq_true rfl, Nat.le_of_ble_eq_true rfl⟩) hK hN (P_r hP) (by rw [moA_fst]; exact aD_r hD) hS hA (va_recv hK (P_r hP) (ci := 5) (q0 := 0) rfl (ap_l (wf_at (by decide) rfl))) rfl hl.1 rfl (Nat.le_of_ble_eq_true rfl) dL_law_228 ⟨show cells + 2 + 0 ≤ 667962 by omega, show slots + 12 + 0 ≤ 7092219 by omega⟩ (fun r9 u9 H locs w1 w2 w3 hk9 hS => ?_)
  obtain ⟨F2, S2, X2, hP9, f0, f1, f2⟩ := md_u (F1 := (vU (th F) 2 (ix x1) x2)) (S1 := S) (u := u9) w2 w3 (fun z => (hcl9.2.2 (hcl9.2.1.mpr z)).2.2)
  have hP : va_P D vwCl (lawW y ao ac an ar am bs ba v2 K2 V2 U2 F2 S2 X2) H := fr_r hP (by rw [lwW_fst, moA_fst]; exact hD) hk9 hP9
  refine lv_istore (lv' := [(6, .int r9), (5, .int (nI (stC x1 x2 9))), (0, .ref b), (1, .ref (ac 0)), (2, .ref (am 0)), (3, .ref (ao 0)), (4, .int (nI i))]) hx hb dL_law_231 hl (by decide) rfl (fun ls hl => ?_)
  refine lv_aload_n hx hb dL_law_233 rfl (lv_at hl 4 rfl) ?_
  refine cRI_V (As := []) (rest := []) ⟨hx, hb, hml, hown, hts⟩ (c_X5_thrown l D y am (bs 0) (ba 0) F2) (cwV 0 hts gL_law_X5_thrown rfl rfl rfl (by decide +kernel) ⟨Nat.le_of_ble_eq_true rfl, Nat.le_of_ble_eq_true rfl⟩) hK hN (P_l (P_r hP)) (va_recv hK (P_r hP) (ci := 5) (q0 := 0) rfl (ap_l (wf_at (by decide) rfl))) rfl hl.1 rfl (Nat.le_of_ble_eq_true rfl) dL_law_234 ⟨show cells + 2 + 0 ≤ 667962 by omega, show slots + 12 + 0 ≤ 7092219 by omega⟩ ?_
  rw [f0]
  refine lv_iload hx hb dL_law_237 (lv_at hl 1 rfl) ?_
  refine lv_icmp_eq (tgt := 244) hx hb dL_law_239 (by decide) (fun _ => ?_) (fun c9 => absurd (by rw [hcl9.1]) c9)
  have fin : ∀ ls : Array Slot, lv_has ls 9 [(6, .int r9), (5, .int (nI (stC x1 x2 9))), (0, .ref b), (1, .ref (ac 0)), (2, .ref (am 0)), (3, .ref (ao 0)), (4, .int (nI i))] → W p l e room_1 s m #[Value.ref b] below meth c H locs (cells + 2) (slots + 12) Q (F0 m 261 ls []) := fun ls hl => by
    refine lv_goto (tgt := 1279) hx hb dL_law_261 (by decide) ?_
    refine W.widen (k := cells + 4) (n := slots + 24) (by omega) (by omega) ?_
    exact next v2 K2 V2 U2 F2 S2 X2 H locs ls (cl_fin R hcl9 (fun z => (q1 z).2) q2 f1 f2) hP hS (lv_sub hl [2, 3, 4, 5, 6] rfl)
  refine lv_iload hx hb dL_law_244 (lv_at hl 1 rfl) ?_
  refine lv_if_ne (tgt := 261) hx hb dL_law_246 (by decide) (fun _ => fin ls hl) (fun c9 => ?_)
  obtain ⟨z1, z2⟩ := cl_z hcl9 (cm_setRun x1 x2) c9
  have e9 : v2 (Int32.toNatClampNeg 0) = r9.toInt64 := by rw [w1 z2, ← (hcl9.2.2 z1).1]; exact (q1 z1).1
  refine lv_aload_n hx hb dL_law_249 rfl (lv_at hl 5 rfl) ?_
  refine lv_iconst (v := 0) hx hb dL_law_250 (by decide) ?_
  refine va_lald hx hb hK hP 0 2 (ap_l (ap_l (wf_at (by decide) rfl))) rfl (show vp_in (0 : Int32) 1 from vp_in_nI (n := 0) (by decide) (by decide)) dL_law_251 ?_
  rw [e9]
  refine lv_iload hx hb dL_law_252 (lv_at hl 0 rfl) ?_
  refine lv_i2l (v := r9.toInt64) hx hb dL_law_254 rfl ?_
  refine W.lcmp hx hb dL_law_255 ?_
  exact lv_if_eq (tgt := 261) hx hb dL_law_256 (by decide) (fun _ => fin ls hl) (fun c9 => absurd (lg_s _) c9)
theorem cm_buy (S : FV) (x1 x2 : Int32) : buM S x1 x2 ≤ 3 := by
  unfold buM
  (repeat' split) <;> decide
set_option maxHeartbeats 4000000 in
set_option maxRecDepth 100000 in
/-- case buy -/
theorem lc_buy {p : Program} {l : Launch} {e : Env} {s : State} {m : MethodId} {below : List Frame} {meth : Method} {c : Code} {b L : Nat} {xs : Nat → Int32} {Q : State → Prop} {D : va_G} {y : Nat → ClassId} {ao ac an ar am bs ba : Nat → Nat} (C0 : LCx p l s m meth c b L xs D y ao ac an ar am bs ba) {i B cells slots : Nat} (hi : i + 4 ≤ L) (hL : L ≤ 2048) (hB : B + 200 < 2 ^ 31) (hcl : cells + 4 ≤ 667962) (hsl : slots + 24 ≤ 7092219) (next : LGo p l e s m below meth c b Q D y ao ac an ar am bs ba 1279 i (B + 40) (cells + 4) (slots + 24)) : LGo p l e s m below meth c b Q D y ao ac an ar am bs ba 264 i B cells slots := by
  obtain ⟨hx, hb, hr, hml, hown, hts, hXs, hbl, hlocks, hK, hN, hE, hX, hD, hst⟩ := C0
  intro v K V U F S X H locs ls R hP hS hl
  have hA : ∀ q : Nat, s.heap.size ≤ q → lwA s q := fun _ h => h
  have hbA : ¬ lwA s b := Nat.not_le.mpr hbl
  have a1 : vp_in (nI i + 1) L := by rw [nI_p1]; exact vp_in_nI (by omega) (by omega)
  obtain ⟨x1, hx1⟩ : ∃ z, z = xs (Int32.toNatClampNeg (nI i + 1)) := ⟨_, rfl⟩
  have a2 : vp_in (nI i + 2) L := by rw [nI_p2]; exact vp_in_nI (by omega) (by omega)
  obtain ⟨x2, hx2⟩ : ∃ z, z = xs (Int32.toNatClampNeg (nI i + 2)) := ⟨_, rfl⟩
  have hcl9 := op_buy R hB (th_0 F) x1 x2
  refine lv_aload_n hx hb dL_law_264 rfl (lv_at hl 1 rfl) ?_
  refine lv_aload_n hx hb dL_law_265 rfl (lv_at hl 0 rfl) ?_
  refine lv_iload hx hb dL_law_266 (lv_at hl 4 rfl) ?_
  refine lv_iconst (v := 1) hx hb dL_law_268 (by decide) ?_
  refine lv_iadd hx hb dL_law_269 ?_
  refine va_sld hx hb hXs hbl hbA hS a1 dL_law_270 ?_
  rw [← hx1]
  refine lv_aload_n hx hb dL_law_271 rfl (lv_at hl 0 rfl) ?_
  refine lv_iload hx hb dL_law_272 (lv_at hl 4 rfl) ?_
  refine lv_iconst (v := 2) hx hb dL_law_274 (by decide) ?_
  refine lv_iadd hx hb dL_law_275 ?_
  refine va_sld hx hb hXs hbl hbA hS a2 dL_law_276 ?_
  rw [← hx2]
  refine lv_aload_n hx hb dL_law_277 rfl (lv_at hl 3 rfl) ?_
  refine cLW (As := [.ref (ac 0), .int x1, .int x2, .ref (ao 0)]) (rest := []) ⟨hx, hb, hml, hown, hts⟩ (c_L_buy l D y _ hst ao ac an ar v K V U x1 x2) (vx_cwSW 4 hts gL_law_L_buy rfl rfl rfl (by decide +kernel) ⟨Nat.le_of_ble_eq_true rfl, Nat.le_of_ble_eq_true rfl⟩) hK hN hE hX (P_l hP) (by rw [lwW_fst]; exact aD_l hD) hS hA rfl hl.1 rfl (Nat.le_of_ble_eq_true rfl) dL_law_278 ⟨show cells + 3 ≤ 667962 by omega, show slots + 18 ≤ 7092219 by omega⟩ (fun v2 K2 V2 U2 H locs q1 q2 hP9 hk9 hS => ?_)
  have hP : va_P D vwCl (lawW y ao ac an ar am bs ba v2 K2 V2 U2 F S X) H := fr_l hP (by rw [lwW_fst, moA_fst]; exact hD) hk9 hP9
  refine lv_istore (lv' := [(5, .int (nI (buC V x1 x2))), (0, .ref b), (1, .ref (ac 0)), (2, .ref (am 0)), (3, .ref (ao 0)), (4, .int (nI i))]) hx hb dL_law_281 hl (by decide) rfl (fun ls hl => ?_)
  refine lv_aload_n hx hb dL_law_283 rfl (lv_at hl 3 rfl) ?_
  refine lv_aload_n hx hb dL_law_284 rfl (lv_at hl 1 rfl) ?_
  refine lv_iload hx hb dL_law_285 (lv_at hl 5 rfl) ?_
  refine lv_iconst (v := 1) hx hb dL_law_287 (by decide) ?_
  refine lv_iadd hx hb dL_law_288 ?_
  refine va_sld hx hb hXs hbl hbA hS a1 dL_law_289 ?_
  rw [← hx1]
  refine lv_aload_n hx hb dL_law_290 rfl (lv_at hl 1 rfl) ?_
  refine lv_iload hx hb dL_law_291 (lv_at hl 5 rfl) ?_
  refine lv_iconst (v := 2) hx hb dL_law_293 (by decide) ?_
  refine lv_iadd hx hb dL_law_294 ?_
  refine va_sld hx hb hXs hbl hbA hS a2 dL_law_295 ?_
  rw [← hx2]
  refine cMd_V (S := FV) (As := [.int x1, .int x2]) (rest := []) ⟨hx, hb, hml, hown, hts⟩ (c_X5_buy l D y _ am bs ba F S X x1 x2) (cwV 2 hts gL_law_X5_buy rfl rfl rfl (by decide +kernel) ⟨Nat.le_of_ble_eq_true rfl, Nat.le_of_ble_eq_true rfl⟩) hK hN (P_r hP) (by rw [moA_fst]; exact aD_r hD) hS hA (va_recv hK (P_r hP) (ci := 5) (q0 := 0) rfl (ap_l (wf_at (by decide) rfl))) rfl hl.1 rfl (Nat.le_of_ble_eq_true rfl) dL_law_296 ⟨show cells + 3 + 0 ≤ 667962 by omega, show slots + 18 + 0 ≤ 7092219 by omega⟩ (fun r9 u9 H locs w1 w2 w3 hk9 hS => ?_)
  obtain ⟨F2, S2, X2, hP9, f0, f1, f2⟩ := md_u (F1 := (buF (th F) x1 x2)) (S1 := (vU S 0 1 (S 0 1 - x2 * prM x1))) (u := u9) w2 w3 (fun z => (hcl9.2.2 (hcl9.2.1.mpr z)).2.2)
  have hP : va_P D vwCl (lawW y ao ac an ar am bs ba v2 K2 V2 U2 F2 S2 X2) H := fr_r hP (by rw [lwW_fst, moA_fst]; exact hD) hk9 hP9
  refine lv_istore (lv' := [(6, .int r9), (5, .int (nI (buC V x1 x2))), (0, .ref b), (1, .ref (ac 0)), (2, .ref (am 0)), (3, .ref (ao 0)), (4, .int (nI i))]) hx hb dL_law_299 hl (by decide) rfl (fun ls hl => ?_)
  refine lv_aload_n hx hb dL_law_301 rfl (lv_at hl 4 rfl) ?_
  refine cRI_V (As := []) (rest := []) ⟨hx, hb, hml, hown, hts⟩ (c_X5_thrown l D y am (bs 0) (ba 0) F2) (cwV 0 hts gL_law_X5_thrown rfl rfl rfl (by decide +kernel) ⟨Nat.le_of_ble_eq_true rfl, Nat.le_of_ble_eq_true rfl⟩) hK hN (P_l (P_r hP)) (va_recv hK (P_r hP) (ci := 5) (q0 := 0) rfl (ap_l (wf_at (by decide) rfl))) rfl hl.1 rfl (Nat.le_of_ble_eq_true rfl) dL_law_302 ⟨show cells + 3 + 0 ≤ 667962 by omega, show slots + 18 + 0 ≤ 7092219 by omega⟩ ?_
  rw [f0]
  refine lv_iload hx hb dL_law_305 (lv_at hl 1 rfl) ?_
  refine lv_icmp_eq (tgt := 312) hx hb dL_law_307 (by decide) (fun _ => ?_) (fun c9 => absurd (by rw [hcl9.1]) c9)
  have fin : ∀ ls : Array Slot, lv_has ls 9 [(6, .int r9), (5, .int (nI (buC V x1 x2))), (0, .ref b), (1, .ref (ac 0)), (2, .ref (am 0)), (3, .ref (ao 0)), (4, .int (nI i))] → W p l e room_1 s m #[Value.ref b] below meth c H locs (cells + 3) (slots + 18) Q (F0 m 329 ls []) := fun ls hl => by
    refine lv_goto (tgt := 1279) hx hb dL_law_329 (by decide) ?_
    refine W.widen (k := cells + 4) (n := slots + 24) (by omega) (by omega) ?_
    exact next v2 K2 V2 U2 F2 S2 X2 H locs ls (cl_fin R hcl9 (fun z => (q1 z).2) q2 f1 f2) hP hS (lv_sub hl [2, 3, 4, 5, 6] rfl)
  refine lv_iload hx hb dL_law_312 (lv_at hl 1 rfl) ?_
  refine lv_if_ne (tgt := 329) hx hb dL_law_314 (by decide) (fun _ => fin ls hl) (fun c9 => ?_)
  obtain ⟨z1, z2⟩ := cl_z hcl9 (cm_buy S x1 x2) c9
  have e9 : v2 (Int32.toNatClampNeg 0) = r9.toInt64 := by rw [w1 z2, ← (hcl9.2.2 z1).1]; exact (q1 z1).1
  refine lv_aload_n hx hb dL_law_317 rfl (lv_at hl 5 rfl) ?_
  refine lv_iconst (v := 0) hx hb dL_law_318 (by decide) ?_
  refine va_lald hx hb hK hP 0 2 (ap_l (ap_l (wf_at (by decide) rfl))) rfl (show vp_in (0 : Int32) 1 from vp_in_nI (n := 0) (by decide) (by decide)) dL_law_319 ?_
  rw [e9]
  refine lv_iload hx hb dL_law_320 (lv_at hl 0 rfl) ?_
  refine lv_i2l (v := r9.toInt64) hx hb dL_law_322 rfl ?_
  refine W.lcmp hx hb dL_law_323 ?_
  exact lv_if_eq (tgt := 329) hx hb dL_law_324 (by decide) (fun _ => fin ls hl) (fun c9 => absurd (lg_s _) c9)
theorem cm_make (G : FV) (x1 x2 x3 : Int32) : mkC9 G x1 x2 x3 ≤ 3 := by
  unfold mkC9
  (repeat' split) <;> decide
set_option maxHeartbeats 4000000 in
set_option maxRecDepth 100000 in
/-- case make -/
theorem lc_make {p : Program} {l : Launch} {e : Env} {s : State} {m : MethodId} {below : List Frame} {meth : Method} {c : Code} {b L : Nat} {xs : Nat → Int32} {Q : State → Prop} {D : va_G} {y : Nat → ClassId} {ao ac an ar am bs ba : Nat → Nat} (C0 : LCx p l s m meth c b L xs D y ao ac an ar am bs ba) {i B cells slots : Nat} (hi : i + 4 ≤ L) (hL : L ≤ 2048) (hB : B + 200 < 2 ^ 31) (hcl : cells + 4 ≤ 667962) (hsl : slots + 24 ≤ 7092219) (next : LGo p l e s m below meth c b Q D y ao ac an ar am bs ba 1279 i (B + 40) (cells + 4) (slots + 24)) : LGo p l e s m below meth c b Q D y ao ac an ar am bs ba 332 i B cells slots := by
  obtain ⟨hx, hb, hr, hml, hown, hts, hXs, hbl, hlocks, hK, hN, hE, hX, hD, hst⟩ := C0
  intro v K V U F S X H locs ls R hP hS hl
  have hA : ∀ q : Nat, s.heap.size ≤ q → lwA s q := fun _ h => h
  have hbA : ¬ lwA s b := Nat.not_le.mpr hbl
  have a1 : vp_in (nI i + 1) L := by rw [nI_p1]; exact vp_in_nI (by omega) (by omega)
  obtain ⟨x1, hx1⟩ : ∃ z, z = xs (Int32.toNatClampNeg (nI i + 1)) := ⟨_, rfl⟩
  have a2 : vp_in (nI i + 2) L := by rw [nI_p2]; exact vp_in_nI (by omega) (by omega)
  obtain ⟨x2, hx2⟩ : ∃ z, z = xs (Int32.toNatClampNeg (nI i + 2)) := ⟨_, rfl⟩
  have a3 : vp_in (nI i + 3) L := by rw [nI_p3]; exact vp_in_nI (by omega) (by omega)
  obtain ⟨x3, hx3⟩ : ∃ z, z = xs (Int32.toNatClampNeg (nI i + 3)) := ⟨_, rfl⟩
  have hcl9 := op_make R hB (th_0 F) x1 x2 x3
  refine lv_aload_n hx hb dL_law_332 rfl (lv_at hl 1 rfl) ?_
  refine lv_aload_n hx hb dL_law_333 rfl (lv_at hl 0 rfl) ?_
  refine lv_iload hx hb dL_law_334 (lv_at hl 4 rfl) ?_
  refine lv_iconst (v := 1) hx hb dL_law_336 (by decide) ?_
  refine lv_iadd hx hb dL_law_337 ?_
  refine va_sld hx hb hXs hbl hbA hS a1 dL_law_338 ?_
  rw [← hx1]
  refine lv_aload_n hx hb dL_law_339 rfl (lv_at hl 0 rfl) ?_
  refine lv_iload hx hb dL_law_340 (lv_at hl 4 rfl) ?_
  refine lv_iconst (v := 2) hx hb dL_law_342 (by decide) ?_
  refine lv_iadd hx hb dL_law_343 ?_
  refine va_sld hx hb hXs hbl hbA hS a2 dL_law_344 ?_
  rw [← hx2]
  refine lv_aload_n hx hb dL_law_345 rfl (lv_at hl 0 rfl) ?_
  refine lv_iload hx hb dL_law_346 (lv_at hl 4 rfl) ?_
  refine lv_iconst (v := 3) hx hb dL_law_348 (by decide) ?_
  refine lv_iadd hx hb dL_law_349 ?_
  refine va_sld hx hb hXs hbl hbA hS a3 dL_law_350 ?_
  rw [← hx3]
  refine lv_aload_n hx hb dL_law_351 rfl (lv_at hl 3 rfl) ?_
  refine cLW (As := [.ref (ac 0), .int x1, .int x2, .int x3, .ref (ao 0)]) (rest := []) ⟨hx, hb, hml, hown, hts⟩ (c_L_make l D y _ hst ao ac an ar v K V U x1 x2 x3 R.1.2.2.2.2.2.2.2.1) (vx_cwSW 5 hts gL_law_L_make rfl rfl rfl (by decide +kernel) ⟨Nat.le_of_ble_eq_true rfl, Nat.le_of_ble_eq_true rfl⟩) hK hN hE hX (P_l hP) (by rw [lwW_fst]; exact aD_l hD) hS hA rfl hl.1 rfl (Nat.le_of_ble_eq_true rfl) dL_law_352 ⟨show cells + 4 ≤ 667962 by omega, show slots + 24 ≤ 7092219 by omega⟩ (fun v2 K2 V2 U2 H locs q1 q2 hP9 hk9 hS => ?_)
  have hP : va_P D vwCl (lawW y ao ac an ar am bs ba v2 K2 V2 U2 F S X) H := fr_l hP (by rw [lwW_fst, moA_fst]; exact hD) hk9 hP9
  refine lv_istore (lv' := [(5, .int (nI (mkC V x1 x2 x3))), (0, .ref b), (1, .ref (ac 0)), (2, .ref (am 0)), (3, .ref (ao 0)), (4, .int (nI i))]) hx hb dL_law_355 hl (by decide) rfl (fun ls hl => ?_)
  refine lv_aload_n hx hb dL_law_357 rfl (lv_at hl 3 rfl) ?_
  refine lv_aload_n hx hb dL_law_358 rfl (lv_at hl 1 rfl) ?_
  refine lv_iload hx hb dL_law_359 (lv_at hl 5 rfl) ?_
  refine lv_iconst (v := 1) hx hb dL_law_361 (by decide) ?_
  refine lv_iadd hx hb dL_law_362 ?_
  refine va_sld hx hb hXs hbl hbA hS a1 dL_law_363 ?_
  rw [← hx1]
  refine lv_aload_n hx hb dL_law_364 rfl (lv_at hl 1 rfl) ?_
  refine lv_iload hx hb dL_law_365 (lv_at hl 5 rfl) ?_
  refine lv_iconst (v := 2) hx hb dL_law_367 (by decide) ?_
  refine lv_iadd hx hb dL_law_368 ?_
  refine va_sld hx hb hXs hbl hbA hS a2 dL_law_369 ?_
  rw [← hx2]
  refine lv_aload_n hx hb dL_law_370 rfl (lv_at hl 1 rfl) ?_
  refine lv_iload hx hb dL_law_371 (lv_at hl 5 rfl) ?_
  refine lv_iconst (v := 3) hx hb dL_law_373 (by decide) ?_
  refine lv_iadd hx hb dL_law_374 ?_
  refine va_sld hx hb hXs hbl hbA hS a3 dL_law_375 ?_
  rw [← hx3]
  refine cMd_V (S := FV) (As := [.int x1, .int x2, .int x3]) (rest := []) ⟨hx, hb, hml, hown, hts⟩ (c_X5_make l D y _ am bs ba F S X x1 x2 x3 (by rw [R.1.1]; exact R.1.2.2.2.2.2.2.2.1)) (cwV 3 hts gL_law_X5_make rfl rfl rfl (by decide +kernel) ⟨Nat.le_of_ble_eq_true rfl, Nat.le_of_ble_eq_true rfl⟩) hK hN (P_r hP) (by rw [moA_fst]; exact aD_r hD) hS hA (va_recv hK (P_r hP) (ci := 5) (q0 := 0) rfl (ap_l (wf_at (by decide) rfl))) rfl hl.1 rfl (Nat.le_of_ble_eq_true rfl) dL_law_376 ⟨show cells + 4 + 0 ≤ 667962 by omega, show slots + 24 + 0 ≤ 7092219 by omega⟩ (fun r9 u9 H locs w1 w2 w3 hk9 hS => ?_)
  obtain ⟨F2, S2, X2, hP9, f0, f1, f2⟩ := md_u (F1 := (mkF9 (th F) x1 x2 x3)) (S1 := (vU S 4 (ix (th F 0 1)) 30)) (u := u9) w2 w3 (fun z => (hcl9.2.2 (hcl9.2.1.mpr z)).2.2)
  have hP : va_P D vwCl (lawW y ao ac an ar am bs ba v2 K2 V2 U2 F2 S2 X2) H := fr_r hP (by rw [lwW_fst, moA_fst]; exact hD) hk9 hP9
  refine lv_istore (lv' := [(6, .int r9), (5, .int (nI (mkC V x1 x2 x3))), (0, .ref b), (1, .ref (ac 0)), (2, .ref (am 0)), (3, .ref (ao 0)), (4, .int (nI i))]) hx hb dL_law_379 hl (by decide) rfl (fun ls hl => ?_)
  refine lv_aload_n hx hb dL_law_381 rfl (lv_at hl 4 rfl) ?_
  refine cRI_V (As := []) (rest := []) ⟨hx, hb, hml, hown, hts⟩ (c_X5_thrown l D y am (bs 0) (ba 0) F2) (cwV 0 hts gL_law_X5_thrown rfl rfl rfl (by decide +kernel) ⟨Nat.le_of_ble_eq_true rfl, Nat.le_of_ble_eq_true rfl⟩) hK hN (P_l (P_r hP)) (va_recv hK (P_r hP) (ci := 5) (q0 := 0) rfl (ap_l (wf_at (by decide) rfl))) rfl hl.1 rfl (Nat.le_of_ble_eq_true rfl) dL_law_382 ⟨show cells + 4 + 0 ≤ 667962 by omega, show slots + 24 + 0 ≤ 7092219 by omega⟩ ?_
  rw [f0]
  refine lv_iload hx hb dL_law_385 (lv_at hl 1 rfl) ?_
  refine lv_icmp_eq (tgt := 392) hx hb dL_law_387 (by decide) (fun _ => ?_) (fun c9 => absurd (by rw [hcl9.1]) c9)
  have fin : ∀ ls : Array Slot, lv_has ls 9 [(6, .int r9), (5, .int (nI (mkC V x1 x2 x3))), (0, .ref b), (1, .ref (ac 0)), (2, .ref (am 0)), (3, .ref (ao 0)), (4, .int (nI i))] → W p l e room_1 s m #[Value.ref b] below meth c H locs (cells + 4) (slots + 24) Q (F0 m 409 ls []) := fun ls hl => by
    refine lv_goto (tgt := 1279) hx hb dL_law_409 (by decide) ?_
    refine W.widen (k := cells + 4) (n := slots + 24) (by omega) (by omega) ?_
    exact next v2 K2 V2 U2 F2 S2 X2 H locs ls (cl_fin R hcl9 (fun z => (q1 z).2) q2 f1 f2) hP hS (lv_sub hl [2, 3, 4, 5, 6] rfl)
  refine lv_iload hx hb dL_law_392 (lv_at hl 1 rfl) ?_
  refine lv_if_ne (tgt := 409) hx hb dL_law_394 (by decide) (fun _ => fin ls hl) (fun c9 => ?_)
  obtain ⟨z1, z2⟩ := cl_z hcl9 (cm_make (th F) x1 x2 x3) c9
  have e9 : v2 (Int32.toNatClampNeg 0) = r9.toInt64 := by rw [w1 z2, ← (hcl9.2.2 z1).1]; exact (q1 z1).1
  refine lv_aload_n hx hb dL_law_397 rfl (lv_at hl 5 rfl) ?_
  refine lv_iconst (v := 0) hx hb dL_law_398 (by decide) ?_
  refine va_lald hx hb hK hP 0 2 (ap_l (ap_l (wf_at (by decide) rfl))) rfl (show vp_in (0 : Int32) 1 from vp_in_nI (n := 0) (by decide) (by decide)) dL_law_399 ?_
  rw [e9]
  refine lv_iload hx hb dL_law_400 (lv_at hl 0 rfl) ?_
  refine lv_i2l (v := r9.toInt64) hx hb dL_law_402 rfl ?_
  refine W.lcmp hx hb dL_law_403 ?_
  exact lv_if_eq (tgt := 409) hx hb dL_law_404 (by decide) (fun _ => fin ls hl) (fun c9 => absurd (lg_s _) c9)
theorem cm_net (G : FV) (x1 x2 : Int32) : ntM G x1 x2 ≤ 3 := by
  unfold ntM
  (repeat' split) <;> decide
set_option maxHeartbeats 4000000 in
set_option maxRecDepth 100000 in
/-- case net -/
theorem lc_net {p : Program} {l : Launch} {e : Env} {s : State} {m : MethodId} {below : List Frame} {meth : Method} {c : Code} {b L : Nat} {xs : Nat → Int32} {Q : State → Prop} {D : va_G} {y : Nat → ClassId} {ao ac an ar am bs ba : Nat → Nat} (C0 : LCx p l s m meth c b L xs D y ao ac an ar am bs ba) {i B cells slots : Nat} (hi : i + 4 ≤ L) (hL : L ≤ 2048) (hB : B + 200 < 2 ^ 31) (hcl : cells + 4 ≤ 667962) (hsl : slots + 24 ≤ 7092219) (next : LGo p l e s m below meth c b Q D y ao ac an ar am bs ba 1279 i (B + 40) (cells + 4) (slots + 24)) : LGo p l e s m below meth c b Q D y ao ac an ar am bs ba 412 i B cells slots := by
  obtain ⟨hx, hb, hr, hml, hown, hts, hXs, hbl, hlocks, hK, hN, hE, hX, hD, hst⟩ := C0
  intro v K V U F S X H locs ls R hP hS hl
  have hA : ∀ q : Nat, s.heap.size ≤ q → lwA s q := fun _ h => h
  have hbA : ¬ lwA s b := Nat.not_le.mpr hbl
  have a1 : vp_in (nI i + 1) L := by rw [nI_p1]; exact vp_in_nI (by omega) (by omega)
  obtain ⟨x1, hx1⟩ : ∃ z, z = xs (Int32.toNatClampNeg (nI i + 1)) := ⟨_, rfl⟩
  have a2 : vp_in (nI i + 2) L := by rw [nI_p2]; exact vp_in_nI (by omega) (by omega)
  obtain ⟨x2, hx2⟩ : ∃ z, z = xs (Int32.toNatClampNeg (nI i + 2)) := ⟨_, rfl⟩
  have hcl9 := op_net R (th_0 F) x1 x2
  refine lv_aload_n hx hb dL_law_412 rfl (lv_at hl 1 rfl) ?_
  refine lv_aload_n hx hb dL_law_413 rfl (lv_at hl 0 rfl) ?_
  refine lv_iload hx hb dL_law_414 (lv_at hl 4 rfl) ?_
  refine lv_iconst (v := 1) hx hb dL_law_416 (by decide) ?_
  refine lv_iadd hx hb dL_law_417 ?_
  refine va_sld hx hb hXs hbl hbA hS a1 dL_law_418 ?_
  rw [← hx1]
  refine lv_aload_n hx hb dL_law_419 rfl (lv_at hl 0 rfl) ?_
  refine lv_iload hx hb dL_law_420 (lv_at hl 4 rfl) ?_
  refine lv_iconst (v := 2) hx hb dL_law_422 (by decide) ?_
  refine lv_iadd hx hb dL_law_423 ?_
  refine va_sld hx hb hXs hbl hbA hS a2 dL_law_424 ?_
  rw [← hx2]
  refine lv_aload_n hx hb dL_law_425 rfl (lv_at hl 3 rfl) ?_
  refine cLW (As := [.ref (ac 0), .int x1, .int x2, .ref (ao 0)]) (rest := []) ⟨hx, hb, hml, hown, hts⟩ (c_L_net l D y _ hst ao ac an ar v K V U x1 x2 R.1.2.2.2.2.2.2.2.1 (nt_in R)) (vx_cwSW 4 hts gL_law_L_net rfl rfl rfl (by decide +kernel) ⟨Nat.le_of_ble_eq_true rfl, Nat.le_of_ble_eq_true rfl⟩) hK hN hE hX (P_l hP) (by rw [lwW_fst]; exact aD_l hD) hS hA rfl hl.1 rfl (Nat.le_of_ble_eq_true rfl) dL_law_426 ⟨show cells + 4 ≤ 667962 by omega, show slots + 24 ≤ 7092219 by omega⟩ (fun v2 K2 V2 U2 H locs q1 q2 hP9 hk9 hS => ?_)
  have hP : va_P D vwCl (lawW y ao ac an ar am bs ba v2 K2 V2 U2 F S X) H := fr_l hP (by rw [lwW_fst, moA_fst]; exact hD) hk9 hP9
  refine lv_istore (lv' := [(5, .int (nI (ntC V x1 x2))), (0, .ref b), (1, .ref (ac 0)), (2, .ref (am 0)), (3, .ref (ao 0)), (4, .int (nI i))]) hx hb dL_law_429 hl (by decide) rfl (fun ls hl => ?_)
  refine lv_aload_n hx hb dL_law_431 rfl (lv_at hl 3 rfl) ?_
  refine lv_aload_n hx hb dL_law_432 rfl (lv_at hl 1 rfl) ?_
  refine lv_iload hx hb dL_law_433 (lv_at hl 5 rfl) ?_
  refine lv_iconst (v := 1) hx hb dL_law_435 (by decide) ?_
  refine lv_iadd hx hb dL_law_436 ?_
  refine va_sld hx hb hXs hbl hbA hS a1 dL_law_437 ?_
  rw [← hx1]
  refine lv_aload_n hx hb dL_law_438 rfl (lv_at hl 1 rfl) ?_
  refine lv_iload hx hb dL_law_439 (lv_at hl 5 rfl) ?_
  refine lv_iconst (v := 2) hx hb dL_law_441 (by decide) ?_
  refine lv_iadd hx hb dL_law_442 ?_
  refine va_sld hx hb hXs hbl hbA hS a2 dL_law_443 ?_
  rw [← hx2]
  refine cMd_V (S := FV) (As := [.int x1, .int x2]) (rest := []) ⟨hx, hb, hml, hown, hts⟩ (c_X5_net l D y _ am bs ba F S X x1 x2 (by rw [R.1.2.1]; exact R.1.2.2.2.2.2.2.2.2.1) (fun z => by rw [R.1.2.1]; exact nt_in R ((nt_eq R x1 x2).trans z))) (cwV 2 hts gL_law_X5_net rfl rfl rfl (by decide +kernel) ⟨Nat.le_of_ble_eq_true rfl, Nat.le_of_ble_eq_true rfl⟩) hK hN (P_r hP) (by rw [moA_fst]; exact aD_r hD) hS hA (va_recv hK (P_r hP) (ci := 5) (q0 := 0) rfl (ap_l (wf_at (by decide) rfl))) rfl hl.1 rfl (Nat.le_of_ble_eq_true rfl) dL_law_444 ⟨show cells + 4 + 0 ≤ 667962 by omega, show slots + 24 + 0 ≤ 7092219 by omega⟩ (fun r9 u9 H locs w1 w2 w3 hk9 hS => ?_)
  obtain ⟨F2, S2, X2, hP9, f0, f1, f2⟩ := md_u (F1 := (ntF (th F) x1 x2)) (S1 := S) (u := u9) w2 w3 (fun z => (hcl9.2.2 (hcl9.2.1.mpr z)).2.2)
  have hP : va_P D vwCl (lawW y ao ac an ar am bs ba v2 K2 V2 U2 F2 S2 X2) H := fr_r hP (by rw [lwW_fst, moA_fst]; exact hD) hk9 hP9
  refine lv_istore (lv' := [(6, .int r9), (5, .int (nI (ntC V x1 x2))), (0, .ref b), (1, .ref (ac 0)), (2, .ref (am 0)), (3, .ref (ao 0)), (4, .int (nI i))]) hx hb dL_law_447 hl (by decide) rfl (fun ls hl => ?_)
  refine lv_aload_n hx hb dL_law_449 rfl (lv_at hl 4 rfl) ?_
  refine cRI_V (As := []) (rest := []) ⟨hx, hb, hml, hown, hts⟩ (c_X5_thrown l D y am (bs 0) (ba 0) F2) (cwV 0 hts gL_law_X5_thrown rfl rfl rfl (by decide +kernel) ⟨Nat.le_of_ble_eq_true rfl, Nat.le_of_ble_eq_true rfl⟩) hK hN (P_l (P_r hP)) (va_recv hK (P_r hP) (ci := 5) (q0 := 0) rfl (ap_l (wf_at (by decide) rfl))) rfl hl.1 rfl (Nat.le_of_ble_eq_true rfl) dL_law_450 ⟨show cells + 4 + 0 ≤ 667962 by omega, show slots + 24 + 0 ≤ 7092219 by omega⟩ ?_
  rw [f0]
  refine lv_iload hx hb dL_law_453 (lv_at hl 1 rfl) ?_
  refine lv_icmp_eq (tgt := 460) hx hb dL_law_455 (by decide) (fun _ => ?_) (fun c9 => absurd (by rw [hcl9.1]) c9)
  have fin : ∀ ls : Array Slot, lv_has ls 9 [(6, .int r9), (5, .int (nI (ntC V x1 x2))), (0, .ref b), (1, .ref (ac 0)), (2, .ref (am 0)), (3, .ref (ao 0)), (4, .int (nI i))] → W p l e room_1 s m #[Value.ref b] below meth c H locs (cells + 4) (slots + 24) Q (F0 m 477 ls []) := fun ls hl => by
    refine lv_goto (tgt := 1279) hx hb dL_law_477 (by decide) ?_
    refine W.widen (k := cells + 4) (n := slots + 24) (by omega) (by omega) ?_
    exact next v2 K2 V2 U2 F2 S2 X2 H locs ls (cl_fin R hcl9 (fun z => (q1 z).2) q2 f1 f2) hP hS (lv_sub hl [2, 3, 4, 5, 6] rfl)
  refine lv_iload hx hb dL_law_460 (lv_at hl 1 rfl) ?_
  refine lv_if_ne (tgt := 477) hx hb dL_law_462 (by decide) (fun _ => fin ls hl) (fun c9 => ?_)
  obtain ⟨z1, z2⟩ := cl_z hcl9 (cm_net (th F) x1 x2) c9
  have e9 : v2 (Int32.toNatClampNeg 0) = r9.toInt64 := by rw [w1 z2, ← (hcl9.2.2 z1).1]; exact (q1 z1).1
  refine lv_aload_n hx hb dL_law_465 rfl (lv_at hl 5 rfl) ?_
  refine lv_iconst (v := 0) hx hb dL_law_466 (by decide) ?_
  refine va_lald hx hb hK hP 0 2 (ap_l (ap_l (wf_at (by decide) rfl))) rfl (show vp_in (0 : Int32) 1 from vp_in_nI (n := 0) (by decide) (by decide)) dL_law_467 ?_
  rw [e9]
  refine lv_iload hx hb dL_law_468 (lv_at hl 0 rfl) ?_
  refine lv_i2l (v := r9.toInt64) hx hb dL_law_470 rfl ?_
  refine W.lcmp hx hb dL_law_471 ?_
  exact lv_if_eq (tgt := 477) hx hb dL_law_472 (by decide) (fun _ => fin ls hl) (fun c9 => absurd (lg_s _) c9)
theorem cm_send (G : FV) (x1 x2 : Int32) : seM G x1 x2 ≤ 3 := by
  unfold seM
  (repeat' split) <;> decide
set_option maxHeartbeats 4000000 in
set_option maxRecDepth 100000 in
/-- case send -/
theorem lc_send {p : Program} {l : Launch} {e : Env} {s : State} {m : MethodId} {below : List Frame} {meth : Method} {c : Code} {b L : Nat} {xs : Nat → Int32} {Q : State → Prop} {D : va_G} {y : Nat → ClassId} {ao ac an ar am bs ba : Nat → Nat} (C0 : LCx p l s m meth c b L xs D y ao ac an ar am bs ba) {i B cells slots : Nat} (hi : i + 4 ≤ L) (hL : L ≤ 2048) (hB : B + 200 < 2 ^ 31) (hcl : cells + 4 ≤ 667962) (hsl : slots + 24 ≤ 7092219) (next : LGo p l e s m below meth c b Q D y ao ac an ar am bs ba 1279 i (B + 40) (cells + 4) (slots + 24)) : LGo p l e s m below meth c b Q D y ao ac an ar am bs ba 480 i B cells slots := by
  obtain ⟨hx, hb, hr, hml, hown, hts, hXs, hbl, hlocks, hK, hN, hE, hX, hD, hst⟩ := C0
  intro v K V U F S X H locs ls R hP hS hl
  have hA : ∀ q : Nat, s.heap.size ≤ q → lwA s q := fun _ h => h
  have hbA : ¬ lwA s b := Nat.not_le.mpr hbl
  have a1 : vp_in (nI i + 1) L := by rw [nI_p1]; exact vp_in_nI (by omega) (by omega)
  obtain ⟨x1, hx1⟩ : ∃ z, z = xs (Int32.toNatClampNeg (nI i + 1)) := ⟨_, rfl⟩
  have a2 : vp_in (nI i + 2) L := by rw [nI_p2]; exact vp_in_nI (by omega) (by omega)
  obtain ⟨x2, hx2⟩ : ∃ z, z = xs (Int32.toNatClampNeg (nI i + 2)) := ⟨_, rfl⟩
  have hcl9 := op_send R (th_0 F) x1 x2
  refine lv_aload_n hx hb dL_law_480 rfl (lv_at hl 1 rfl) ?_
  refine lv_aload_n hx hb dL_law_481 rfl (lv_at hl 0 rfl) ?_
  refine lv_iload hx hb dL_law_482 (lv_at hl 4 rfl) ?_
  refine lv_iconst (v := 1) hx hb dL_law_484 (by decide) ?_
  refine lv_iadd hx hb dL_law_485 ?_
  refine va_sld hx hb hXs hbl hbA hS a1 dL_law_486 ?_
  rw [← hx1]
  refine lv_aload_n hx hb dL_law_487 rfl (lv_at hl 0 rfl) ?_
  refine lv_iload hx hb dL_law_488 (lv_at hl 4 rfl) ?_
  refine lv_iconst (v := 2) hx hb dL_law_490 (by decide) ?_
  refine lv_iadd hx hb dL_law_491 ?_
  refine va_sld hx hb hXs hbl hbA hS a2 dL_law_492 ?_
  rw [← hx2]
  refine lv_aload_n hx hb dL_law_493 rfl (lv_at hl 3 rfl) ?_
  refine cLW (As := [.ref (ac 0), .int x1, .int x2, .ref (ao 0)]) (rest := []) ⟨hx, hb, hml, hown, hts⟩ (c_L_send l D y _ hst ao ac an ar v K V U x1 x2 R.1.2.2.2.2.2.2.2.1) (vx_cwSW 4 hts gL_law_L_send rfl rfl rfl (by decide +kernel) ⟨Nat.le_of_ble_eq_true rfl, Nat.le_of_ble_eq_true rfl⟩) hK hN hE hX (P_l hP) (by rw [lwW_fst]; exact aD_l hD) hS hA rfl hl.1 rfl (Nat.le_of_ble_eq_true rfl) dL_law_494 ⟨show cells + 2 ≤ 667962 by omega, show slots + 12 ≤ 7092219 by omega⟩ (fun v2 K2 V2 U2 H locs q1 q2 hP9 hk9 hS => ?_)
  have hP : va_P D vwCl (lawW y ao ac an ar am bs ba v2 K2 V2 U2 F S X) H := fr_l hP (by rw [lwW_fst, moA_fst]; exact hD) hk9 hP9
  refine lv_istore (lv' := [(5, .int (nI (seC V x1 x2))), (0, .ref b), (1, .ref (ac 0)), (2, .ref (am 0)), (3, .ref (ao 0)), (4, .int (nI i))]) hx hb dL_law_497 hl (by decide) rfl (fun ls hl => ?_)
  refine lv_aload_n hx hb dL_law_499 rfl (lv_at hl 3 rfl) ?_
  refine lv_aload_n hx hb dL_law_500 rfl (lv_at hl 1 rfl) ?_
  refine lv_iload hx hb dL_law_501 (lv_at hl 5 rfl) ?_
  refine lv_iconst (v := 1) hx hb dL_law_503 (by decide) ?_
  refine lv_iadd hx hb dL_law_504 ?_
  refine va_sld hx hb hXs hbl hbA hS a1 dL_law_505 ?_
  rw [← hx1]
  refine lv_aload_n hx hb dL_law_506 rfl (lv_at hl 1 rfl) ?_
  refine lv_iload hx hb dL_law_507 (lv_at hl 5 rfl) ?_
  refine lv_iconst (v := 2) hx hb dL_law_509 (by decide) ?_
  refine lv_iadd hx hb dL_law_510 ?_
  refine va_sld hx hb hXs hbl hbA hS a2 dL_law_511 ?_
  rw [← hx2]
  refine cMd_V (S := FV) (As := [.int x1, .int x2]) (rest := []) ⟨hx, hb, hml, hown, hts⟩ (c_X5_send l D y _ am bs ba F S X x1 x2 (by rw [R.1.1]; exact R.1.2.2.2.2.2.2.2.1)) (cwV 2 hts gL_law_X5_send rfl rfl rfl (by decide +kernel) ⟨Nat.le_of_ble_eq_true rfl, Nat.le_of_ble_eq_true rfl⟩) hK hN (P_r hP) (by rw [moA_fst]; exact aD_r hD) hS hA (va_recv hK (P_r hP) (ci := 5) (q0 := 0) rfl (ap_l (wf_at (by decide) rfl))) rfl hl.1 rfl (Nat.le_of_ble_eq_true rfl) dL_law_512 ⟨show cells + 2 + 0 ≤ 667962 by omega, show slots + 12 + 0 ≤ 7092219 by omega⟩ (fun r9 u9 H locs w1 w2 w3 hk9 hS => ?_)
  obtain ⟨F2, S2, X2, hP9, f0, f1, f2⟩ := md_u (F1 := (th F)) (S1 := (vU S 3 (ix x1) x2)) (u := u9) w2 w3 (fun z => (hcl9.2.2 (hcl9.2.1.mpr z)).2.2)
  have hP : va_P D vwCl (lawW y ao ac an ar am bs ba v2 K2 V2 U2 F2 S2 X2) H := fr_r hP (by rw [lwW_fst, moA_fst]; exact hD) hk9 hP9
  refine lv_istore (lv' := [(6, .int r9), (5, .int (nI (seC V x1 x2))), (0, .ref b), (1, .ref (ac 0)), (2, .ref (am 0)), (3, .ref (ao 0)), (4, .int (nI i))]) hx hb dL_law_515 hl (by decide) rfl (fun ls hl => ?_)
  refine lv_aload_n hx hb dL_law_517 rfl (lv_at hl 4 rfl) ?_
  refine cRI_V (As := []) (rest := []) ⟨hx, hb, hml, hown, hts⟩ (c_X5_thrown l D y am (bs 0) (ba 0) F2) (cwV 0 hts gL_law_X5_thrown rfl rfl rfl (by decide +kernel) ⟨Nat.le_of_ble_eq_true rfl, Nat.le_of_ble_eq_true rfl⟩) hK hN (P_l (P_r hP)) (va_recv hK (P_r hP) (ci := 5) (q0 := 0) rfl (ap_l (wf_at (by decide) rfl))) rfl hl.1 rfl (Nat.le_of_ble_eq_true rfl) dL_law_518 ⟨show cells + 2 + 0 ≤ 667962 by omega, show slots + 12 + 0 ≤ 7092219 by omega⟩ ?_
  rw [f0]
  refine lv_iload hx hb dL_law_521 (lv_at hl 1 rfl) ?_
  refine lv_icmp_eq (tgt := 528) hx hb dL_law_523 (by decide) (fun _ => ?_) (fun c9 => absurd (by rw [hcl9.1]) c9)
  have fin : ∀ ls : Array Slot, lv_has ls 9 [(6, .int r9), (5, .int (nI (seC V x1 x2))), (0, .ref b), (1, .ref (ac 0)), (2, .ref (am 0)), (3, .ref (ao 0)), (4, .int (nI i))] → W p l e room_1 s m #[Value.ref b] below meth c H locs (cells + 2) (slots + 12) Q (F0 m 545 ls []) := fun ls hl => by
    refine lv_goto (tgt := 1279) hx hb dL_law_545 (by decide) ?_
    refine W.widen (k := cells + 4) (n := slots + 24) (by omega) (by omega) ?_
    exact next v2 K2 V2 U2 F2 S2 X2 H locs ls (cl_fin R hcl9 (fun z => (q1 z).2) q2 f1 f2) hP hS (lv_sub hl [2, 3, 4, 5, 6] rfl)
  refine lv_iload hx hb dL_law_528 (lv_at hl 1 rfl) ?_
  refine lv_if_ne (tgt := 545) hx hb dL_law_530 (by decide) (fun _ => fin ls hl) (fun c9 => ?_)
  obtain ⟨z1, z2⟩ := cl_z hcl9 (cm_send (th F) x1 x2) c9
  have e9 : v2 (Int32.toNatClampNeg 0) = r9.toInt64 := by rw [w1 z2, ← (hcl9.2.2 z1).1]; exact (q1 z1).1
  refine lv_aload_n hx hb dL_law_533 rfl (lv_at hl 5 rfl) ?_
  refine lv_iconst (v := 0) hx hb dL_law_534 (by decide) ?_
  refine va_lald hx hb hK hP 0 2 (ap_l (ap_l (wf_at (by decide) rfl))) rfl (show vp_in (0 : Int32) 1 from vp_in_nI (n := 0) (by decide) (by decide)) dL_law_535 ?_
  rw [e9]
  refine lv_iload hx hb dL_law_536 (lv_at hl 0 rfl) ?_
  refine lv_i2l (v := r9.toInt64) hx hb dL_law_538 rfl ?_
  refine W.lcmp hx hb dL_law_539 ?_
  exact lv_if_eq (tgt := 545) hx hb dL_law_540 (by decide) (fun _ => fin ls hl) (fun c9 => absurd (lg_s _) c9)
