/-! ===== CoracleMakers: mean and digest ===== -/
theorem self_le {x : Int32} {n : Nat} (h : vp_in x n) (hn : n < 2 ^ 31) : x ≤ nI (ix x) := by
  obtain ⟨j, hj, e⟩ := vp_in_of h hn
  subst e
  rw [show ix (nI j) = j from nI_clamp (by omega)]; exact nI_le (Nat.le_refl _) (by omega)
theorem self_gt {x : Int32} {n i : Nat} (h : vp_in x n) (hn : n < 2 ^ 31) (hi : i < ix x) : ¬ x ≤ nI i := by
  obtain ⟨j, hj, e⟩ := vp_in_of h hn
  subst e
  rw [show ix (nI j) = j from nI_clamp (by omega)] at hi; exact nI_ge hi (by omega)
abbrev dgW (d : Int64) (x : Int32) : Int64 := d * 31 + x.toInt64
def dgS (f : Nat → Int32) (d : Int64) : Nat → Int64 | 0 => d | k + 1 => dgW (dgS f d k) (f k)
def dgT (K : Nat → Nat → Int32) (d : Int64) : Nat → Int64 | 0 => d | k + 1 => dgW (dgW (dgT K d k) (K 1 k)) (K 2 k)
def dg2 (f : Nat → Nat → Int32) (N : Nat) (d : Int64) : Nat → Int64 | 0 => d | k + 1 => dgS (f k) (dg2 f N d k) N
abbrev coT (V : Nat → Nat → Int32) (k i : Nat) : Int32 := tlF (V (k + 5)) (nI i)
abbrev neT (V : Nat → Nat → Int32) (k i : Nat) : Int32 := tnF V k (nI i)
abbrev reT (V : Nat → Nat → Int32) (k i : Nat) : Int32 := trF V (nI k) (nI i)
abbrev cnT (V : Nat → Nat → Int32) (i : Nat) : Int32 := tcF V (nI i)
/-- the checksum -/
def dgF (K V : Nat → Nat → Int32) : Int64 := dg2 (reT V) 2 (dg2 (neT V) 4 (dg2 (coT V) 10 (dgT K (dgS (cnT V) 1487 13) 8) (ix (V 0 2))) (ix (V 0 3))) 16
abbrev rmX3_mean : Room := { frames := 1, cells := 0, slots := 0, locals := 25 }
set_option maxHeartbeats 4000000 in
set_option maxRecDepth 100000 in
/-- mean() -/
theorem c_X3_mean (l : Launch) (D : va_G) (y : Nat → ClassId) (ac ad : Nat → Nat) (n0 r0 : Nat) (K V : Nat → Nat → Int32) (hz : ¬ V 0 2 = 0 → vf_n64 (FP.ddiv (FP.i2d (smI (fun k => V (k + 5) 5) 6)) (FP.i2d (V 0 2)))) (hn0 : n0 = ad 0) : RdD l D y yX3_mean wsX3_mean rmX3_mean [.ref (ac 0)] (cmW y ac n0 r0 K ++ rvW y ad V) (meF V) := by
  refine mR (C := RX3) (cc := cX3_mean) (maxL := 1) (ret := (some .double)) (by decide) rfl rfl (Nat.le_of_ble_eq_true rfl) ?_
  intro p e s m a below meth c ls Q hQ hx hb hr hts hown hlocks hml hP hK hN hl
  have hl : lv_has ls 1 [(0, .ref (ac 0))] := hl
  subst hn0
  refine lv_aload_n hx hb dX3_mean_0 rfl (lv_at hl 0 rfl) ?_
  have hin3 : ∀ w ∈ u_ws RX3 TX3 4, w ∈ wsX3_mean := by decide +kernel
  have hf19 := hts (.fieldLink RX3 19 "CoracleMakers" "now" "LCoracleMakers$River;") (by decide +kernel)
  refine va_get (D := D) (ci := 3) (v := .ref (ad 0)) (C := RX3) (T := TX3) (N := 4) hx hb hts hin3 hown hK hP 0 (ap_l (wf_at (by decide) rfl)) rfl 2 (by decide) hf19 (fun _ h9 => h9) rfl dX3_mean_1 ?_
  have hin2 : ∀ w ∈ u_ws RX2 TX2 10, w ∈ wsX3_mean := by decide +kernel
  have hf48 := hts (.fieldLink RX3 48 "CoracleMakers$River" "made" "I") (by decide +kernel)
  refine va_get (D := D) (ci := 2) (v := .int (V 0 2)) (C := RX2) (T := TX2) (N := 10) hx hb hts hin2 hown hK hP (3 + 0) (ap_r (wf_len 3 _ _) (wf_at (by decide) rfl)) rfl 6 (by decide) hf48 (fun _ h9 => h9) rfl dX3_mean_4 ?_
  refine lv_if_ne (tgt := 12) hx hb dX3_mean_7 (by decide) (fun c_42 => ?_) (fun c_42 => ?_)
  · refine lv_aload_n hx hb dX3_mean_12 rfl (lv_at hl 0 rfl) ?_
    refine va_get (D := D) (ci := 3) (v := .ref (ad 0)) (C := RX3) (T := TX3) (N := 4) hx hb hts hin3 hown hK hP 0 (ap_l (wf_at (by decide) rfl)) rfl 2 (by decide) hf19 (fun _ h9 => h9) rfl dX3_mean_13 ?_
    refine cRI_V (As := []) (rest := []) ⟨hx, hb, hml, hown, hts⟩ (c_X2_tarOfAll l D y ad V) (cwV 0 hts gX3_mean_X2_tarOfAll rfl rfl rfl (by decide +kernel) ⟨Nat.le_of_ble_eq_true rfl, Nat.le_of_ble_eq_true rfl⟩) hK hN (P_r hP) (va_recv hK hP (ci := 2) (q0 := (3 + 0)) rfl (ap_r (wf_len 3 _ _) (wf_at (by decide) rfl))) rfl hl.1 rfl (Nat.le_of_ble_eq_true rfl) dX3_mean_16 ⟨Nat.le_of_ble_eq_true rfl, Nat.le_of_ble_eq_true rfl⟩ ?_
    refine lv_i2d hx hb dX3_mean_19 ?_
    refine lv_aload_n hx hb dX3_mean_20 rfl (lv_at hl 0 rfl) ?_
    refine va_get (D := D) (ci := 3) (v := .ref (ad 0)) (C := RX3) (T := TX3) (N := 4) hx hb hts hin3 hown hK hP 0 (ap_l (wf_at (by decide) rfl)) rfl 2 (by decide) hf19 (fun _ h9 => h9) rfl dX3_mean_21 ?_
    refine va_get (D := D) (ci := 2) (v := .int (V 0 2)) (C := RX2) (T := TX2) (N := 10) hx hb hts hin2 hown hK hP (3 + 0) (ap_r (wf_len 3 _ _) (wf_at (by decide) rfl)) rfl 6 (by decide) hf48 (fun _ h9 => h9) rfl dX3_mean_24 ?_
    refine lv_i2d hx hb dX3_mean_27 ?_
    refine lv_ddiv hx hb dX3_mean_28 (hz c_42) ?_
    subst hQ
    exact W.dret (v := FP.ddiv (FP.i2d (smI (fun k => V (k + 5) 5) 6)) (FP.i2d (V 0 2))) hx hb hr (fun t ht hW => ⟨_, rfl, (by unfold meF; rw [if_neg c_42]), ht⟩) (fun _ h => by cases h) dX3_mean_29
  · refine lv_dconst0 hx hb dX3_mean_10 ?_
    subst hQ
    exact W.dret (v := FP.dconst0) hx hb hr (fun t ht hW => ⟨_, rfl, (by unfold meF; rw [if_pos c_42]; rfl), ht⟩) (fun _ h => by cases h) dX3_mean_11
abbrev rmX3_digestWith : Room := { frames := 0, cells := 0, slots := 0, locals := 0 }
set_option maxHeartbeats 4000000 in
set_option maxRecDepth 100000 in
/-- digestWith(d, x) -/
theorem c_X3_digestWith (l : Launch) (D : va_G) (y : Nat → ClassId) (d : Int64) (x : Int32) : RdL l D y yX3_digestWith wsX3_digestWith rmX3_digestWith [.long d, .int x] ([]) (dgW d x) := by
  refine mR (C := RX3) (cc := cX3_digestWith) (maxL := 3) (ret := (some .long)) (by decide) rfl rfl (Nat.le_of_ble_eq_true rfl) ?_
  intro p e s m a below meth c ls Q hQ hx hb hr hts hown hlocks hml hP hK hN hl
  have hl : lv_has ls 3 [(0, .long d), (2, .int x)] := hl
  refine lv_lload_n hx hb dX3_digestWith_0 rfl (lv_at hl 0 rfl) ?_
  refine lv_ldc2 (v := 31) hx hb hown (hts (.constantLong RX3 179 (31)) (by decide +kernel)) dX3_digestWith_1 ?_
  refine lv_lmul hx hb dX3_digestWith_4 ?_
  refine lv_iload_n hx hb dX3_digestWith_5 rfl (lv_at hl 1 rfl) ?_
  refine lv_i2l (v := x.toInt64) hx hb dX3_digestWith_6 rfl ?_
  refine lv_ladd hx hb dX3_digestWith_7 ?_
  subst hQ
  exact W.lret (v := (d * 31) + x.toInt64) hx hb hr (fun t ht hW => ⟨_, rfl, rfl, ht⟩) (fun _ h => by cases h) dX3_digestWith_8
abbrev rmX3_digestOfCounts : Room := { frames := 2, cells := 0, slots := 0, locals := 46 }
set_option maxHeartbeats 4000000 in
set_option maxRecDepth 100000 in
/-- digestOfCounts(d) -/
theorem c_X3_digestOfCounts (l : Launch) (D : va_G) (y : Nat → ClassId) (ac ad : Nat → Nat) (n0 r0 : Nat) (K V : Nat → Nat → Int32) (d : Int64) (hn0 : n0 = ad 0) : RdL l D y yX3_digestOfCounts wsX3_digestOfCounts rmX3_digestOfCounts [.ref (ac 0), .long d] (cmW y ac n0 r0 K ++ rvW y ad V) (dgS (cnT V) d 13) := by
  refine mR (C := RX3) (cc := cX3_digestOfCounts) (maxL := 6) (ret := (some .long)) (by decide) rfl rfl (Nat.le_of_ble_eq_true rfl) ?_
  intro p e s m a below meth c ls Q hQ hx hb hr hts hown hlocks hml hP hK hN hl
  have hl : lv_has ls 6 [(0, .ref (ac 0)), (1, .long d)] := hl
  subst hn0
  refine lv_lload_n hx hb dX3_digestOfCounts_0 rfl (lv_at hl 1 rfl) ?_
  refine lv_lstore_n (lv' := [(3, .long d), (0, .ref (ac 0)), (1, .long d)]) hx hb dX3_digestOfCounts_1 rfl hl (by decide) rfl (fun ls hl => ?_)
  refine lv_iconst (v := 0) hx hb dX3_digestOfCounts_2 (by decide) ?_
  refine lv_istore (lv' := [(5, .int 0), (3, .long d), (0, .ref (ac 0)), (1, .long d)]) hx hb dX3_digestOfCounts_3 hl (by decide) rfl (fun ls hl => ?_)
  have hl : lv_has ls 6 [(5, .int 0), (3, .long (dgS (cnT V) d 0)), (0, .ref (ac 0)), (1, .long d)] := hl
  have hl : lv_has ls 6 [(5, .int (nI 0)), (3, .long (dgS (cnT V) d 0)), (0, .ref (ac 0)), (1, .long d)] := hl
  have ly12 : ∀ (ni i : Nat) (ls : Array Slot), 13 - i < ni → i ≤ 13 → lv_has ls 6 [(0, .ref (ac 0)), (3, .long (dgS (cnT V) d i)), (5, .int (nI i))] → W p l e rmX3_digestOfCounts s m a below meth c s.heap [] 0 0 Q (F0 m 5 ls ([])) := by
    intro ni
    induction ni with
    | zero => intro i ls hn; exact absurd hn (Nat.not_lt_zero _)
    | succ ni ihi =>
      intro i ls hni hii hl
      rcases Nat.lt_or_ge i 13 with hiN | hiN
      · refine lv_iload hx hb dX3_digestOfCounts_5 (lv_at hl 2 rfl) ?_
        refine lv_bipush (v := 13) hx hb dX3_digestOfCounts_7 (by decide) ?_
        refine lv_icmp_ge (tgt := 32) hx hb dX3_digestOfCounts_9 (by decide) (fun c9 => absurd c9 (nI_ge hiN (by decide))) (fun _ => ?_)
        refine lv_lload_n hx hb dX3_digestOfCounts_12 rfl (lv_at hl 1 rfl) ?_
        refine lv_aload_n hx hb dX3_digestOfCounts_13 rfl (lv_at hl 0 rfl) ?_
        have hin3 : ∀ w ∈ u_ws RX3 TX3 4, w ∈ wsX3_digestOfCounts := by decide +kernel
        have hf19 := hts (.fieldLink RX3 19 "CoracleMakers" "now" "LCoracleMakers$River;") (by decide +kernel)
        refine va_get (D := D) (ci := 3) (v := .ref (ad 0)) (C := RX3) (T := TX3) (N := 4) hx hb hts hin3 hown hK hP 0 (ap_l (wf_at (by decide) rfl)) rfl 2 (by decide) hf19 (fun _ h9 => h9) rfl dX3_digestOfCounts_14 ?_
        refine lv_iload hx hb dX3_digestOfCounts_17 (lv_at hl 2 rfl) ?_
        refine cRI_V (As := [.int (nI i)]) (rest := [.long (dgS (cnT V) d i)]) ⟨hx, hb, hml, hown, hts⟩ (c_X2_tellCount l D y ad V (nI i)) (cwV 1 hts gX3_digestOfCounts_X2_tellCount rfl rfl rfl (by decide +kernel) ⟨Nat.le_of_ble_eq_true rfl, Nat.le_of_ble_eq_true rfl⟩) hK hN (P_r hP) (va_recv hK hP (ci := 2) (q0 := (3 + 0)) rfl (ap_r (wf_len 3 _ _) (wf_at (by decide) rfl))) rfl hl.1 rfl (Nat.le_of_ble_eq_true rfl) dX3_digestOfCounts_19 ⟨Nat.le_of_ble_eq_true rfl, Nat.le_of_ble_eq_true rfl⟩ ?_
        refine cRL_S (As := [.long (dgS (cnT V) d i), .int (cnT V i)]) (rest := []) ⟨hx, hb, hml, hown, hts⟩ (c_X3_digestWith l D y (dgS (cnT V) d i) (cnT V i)) (va_cwS 2 hts gX3_digestOfCounts_X3_digestWith rfl rfl rfl (by decide +kernel) ⟨Nat.le_of_ble_eq_true rfl, Nat.le_of_ble_eq_true rfl⟩) hK hN (P_nil D vwCl _) rfl hl.1 rfl (Nat.le_of_ble_eq_true rfl) dX3_digestOfCounts_22 ⟨Nat.le_of_ble_eq_true rfl, Nat.le_of_ble_eq_true rfl⟩ ?_
        refine lv_lstore_n (lv' := [(3, .long (dgW (dgS (cnT V) d i) (cnT V i))), (0, .ref (ac 0)), (5, .int (nI i))]) hx hb dX3_digestOfCounts_25 rfl hl (by decide) rfl (fun ls hl => ?_)
        have hl : lv_has ls 6 [(3, .long (dgS (cnT V) d (i + 1))), (0, .ref (ac 0)), (5, .int (nI i))] := hl
        refine lv_iinc (v := nI (i + 1)) (lv' := [(5, .int (nI (i + 1))), (3, .long (dgS (cnT V) d (i + 1))), (0, .ref (ac 0))]) hx hb dX3_digestOfCounts_26 hl (k := 2) rfl (by first | rfl | exact (nI_1 i)) (by decide) rfl (fun ls hl => ?_)
        refine lv_goto (tgt := 5) hx hb dX3_digestOfCounts_29 (by decide) ?_
        exact ihi (i + 1) _ (by omega) (by omega) (lv_sub hl [2, 1, 0] rfl)
      · have e9i : 13 = i := by omega
        subst e9i
        refine lv_iload hx hb dX3_digestOfCounts_5 (lv_at hl 2 rfl) ?_
        refine lv_bipush (v := 13) hx hb dX3_digestOfCounts_7 (by decide) ?_
        refine lv_icmp_ge (tgt := 32) hx hb dX3_digestOfCounts_9 (by decide) (fun _ => ?_) (fun c9 => absurd (show (13 : Int32) ≤ nI 13 by decide) c9)
        refine lv_lload_n hx hb dX3_digestOfCounts_32 rfl (lv_at hl 1 rfl) ?_
        subst hQ
        exact W.lret (v := dgS (cnT V) d 13) hx hb hr (fun t ht hW => ⟨_, rfl, rfl, ht⟩) (fun _ h => by cases h) dX3_digestOfCounts_33
  exact ly12 (13 + 1) 0 ls (by omega) (by omega) (lv_sub hl [2, 1, 0] rfl)
abbrev rmX3_digestOfTables : Room := { frames := 1, cells := 0, slots := 0, locals := 22 }
set_option maxHeartbeats 4000000 in
set_option maxRecDepth 100000 in
/-- digestOfTables(d) -/
theorem c_X3_digestOfTables (l : Launch) (D : va_G) (y : Nat → ClassId) (ac ad : Nat → Nat) (n0 r0 : Nat) (K V : Nat → Nat → Int32) (d : Int64) (hn0 : n0 = ad 0) : RdL l D y yX3_digestOfTables wsX3_digestOfTables rmX3_digestOfTables [.ref (ac 0), .long d] (cmW y ac n0 r0 K ++ rvW y ad V) (dgT K d 8) := by
  refine mR (C := RX3) (cc := cX3_digestOfTables) (maxL := 6) (ret := (some .long)) (by decide) rfl rfl (Nat.le_of_ble_eq_true rfl) ?_
  intro p e s m a below meth c ls Q hQ hx hb hr hts hown hlocks hml hP hK hN hl
  have hl : lv_has ls 6 [(0, .ref (ac 0)), (1, .long d)] := hl
  subst hn0
  refine lv_lload_n hx hb dX3_digestOfTables_0 rfl (lv_at hl 1 rfl) ?_
  refine lv_lstore_n (lv' := [(3, .long d), (0, .ref (ac 0)), (1, .long d)]) hx hb dX3_digestOfTables_1 rfl hl (by decide) rfl (fun ls hl => ?_)
  refine lv_iconst (v := 0) hx hb dX3_digestOfTables_2 (by decide) ?_
  refine lv_istore (lv' := [(5, .int 0), (3, .long d), (0, .ref (ac 0)), (1, .long d)]) hx hb dX3_digestOfTables_3 hl (by decide) rfl (fun ls hl => ?_)
  have hl : lv_has ls 6 [(5, .int 0), (3, .long (dgT K d 0)), (0, .ref (ac 0)), (1, .long d)] := hl
  have hl : lv_has ls 6 [(5, .int (nI 0)), (3, .long (dgT K d 0)), (0, .ref (ac 0)), (1, .long d)] := hl
  have ly13 : ∀ (ni i : Nat) (ls : Array Slot), 8 - i < ni → i ≤ 8 → lv_has ls 6 [(0, .ref (ac 0)), (3, .long (dgT K d i)), (5, .int (nI i))] → W p l e rmX3_digestOfTables s m a below meth c s.heap [] 0 0 Q (F0 m 5 ls ([])) := by
    intro ni
    induction ni with
    | zero => intro i ls hn; exact absurd hn (Nat.not_lt_zero _)
    | succ ni ihi =>
      intro i ls hni hii hl
      rcases Nat.lt_or_ge i 8 with hiN | hiN
      · have ei : ix (nI i) = i := nI_clamp (by omega)
        refine lv_iload hx hb dX3_digestOfTables_5 (lv_at hl 2 rfl) ?_
        refine lv_bipush (v := 8) hx hb dX3_digestOfTables_7 (by decide) ?_
        refine lv_icmp_ge (tgt := 42) hx hb dX3_digestOfTables_9 (by decide) (fun c9 => absurd c9 (nI_ge hiN (by decide))) (fun _ => ?_)
        refine lv_lload_n hx hb dX3_digestOfTables_12 rfl (lv_at hl 1 rfl) ?_
        refine lv_aload_n hx hb dX3_digestOfTables_13 rfl (lv_at hl 0 rfl) ?_
        have hin3 : ∀ w ∈ u_ws RX3 TX3 4, w ∈ wsX3_digestOfTables := by decide +kernel
        have hf9 := hts (.fieldLink RX3 9 "CoracleMakers" "drifts" "[I") (by decide +kernel)
        refine va_get (D := D) (ci := 3) (v := .ref (ac 1)) (C := RX3) (T := TX3) (N := 4) hx hb hts hin3 hown hK hP 0 (ap_l (wf_at (by decide) rfl)) rfl 0 (by decide) hf9 (fun _ h9 => h9) rfl dX3_digestOfTables_14 ?_
        refine lv_iload hx hb dX3_digestOfTables_17 (lv_at hl 2 rfl) ?_
        refine va_iald hx hb hK hP 1 0 (ap_l (wf_at (by decide) rfl)) rfl (vp_in_nI hiN (by decide)) dX3_digestOfTables_19 ?_
        rw [show (nI i).toNatClampNeg = i from ei]
        refine cRL_S (As := [.long (dgT K d i), .int (K 1 i)]) (rest := []) ⟨hx, hb, hml, hown, hts⟩ (c_X3_digestWith l D y (dgT K d i) (K 1 i)) (va_cwS 2 hts gX3_digestOfTables_X3_digestWith rfl rfl rfl (by decide +kernel) ⟨Nat.le_of_ble_eq_true rfl, Nat.le_of_ble_eq_true rfl⟩) hK hN (P_nil D vwCl _) rfl hl.1 rfl (Nat.le_of_ble_eq_true rfl) dX3_digestOfTables_20 ⟨Nat.le_of_ble_eq_true rfl, Nat.le_of_ble_eq_true rfl⟩ ?_
        refine lv_lstore_n (lv' := [(3, .long (dgW (dgT K d i) (K 1 i))), (0, .ref (ac 0)), (5, .int (nI i))]) hx hb dX3_digestOfTables_23 rfl hl (by decide) rfl (fun ls hl => ?_)
        refine lv_lload_n hx hb dX3_digestOfTables_24 rfl (lv_at hl 0 rfl) ?_
        refine lv_aload_n hx hb dX3_digestOfTables_25 rfl (lv_at hl 1 rfl) ?_
        have hf13 := hts (.fieldLink RX3 13 "CoracleMakers" "runs" "[I") (by decide +kernel)
        refine va_get (D := D) (ci := 3) (v := .ref (ac 2)) (C := RX3) (T := TX3) (N := 4) hx hb hts hin3 hown hK hP 0 (ap_l (wf_at (by decide) rfl)) rfl 1 (by decide) hf13 (fun _ h9 => h9) rfl dX3_digestOfTables_26 ?_
        refine lv_iload hx hb dX3_digestOfTables_29 (lv_at hl 2 rfl) ?_
        refine va_iald hx hb hK hP 2 0 (ap_l (wf_at (by decide) rfl)) rfl (vp_in_nI hiN (by decide)) dX3_digestOfTables_31 ?_
        rw [show (nI i).toNatClampNeg = i from ei]
        refine cRL_S (As := [.long (dgW (dgT K d i) (K 1 i)), .int (K 2 i)]) (rest := []) ⟨hx, hb, hml, hown, hts⟩ (c_X3_digestWith l D y (dgW (dgT K d i) (K 1 i)) (K 2 i)) (va_cwS 2 hts gX3_digestOfTables_X3_digestWith rfl rfl rfl (by decide +kernel) ⟨Nat.le_of_ble_eq_true rfl, Nat.le_of_ble_eq_true rfl⟩) hK hN (P_nil D vwCl _) rfl hl.1 rfl (Nat.le_of_ble_eq_true rfl) dX3_digestOfTables_32 ⟨Nat.le_of_ble_eq_true rfl, Nat.le_of_ble_eq_true rfl⟩ ?_
        refine lv_lstore_n (lv' := [(3, .long (dgW (dgW (dgT K d i) (K 1 i)) (K 2 i))), (0, .ref (ac 0)), (5, .int (nI i))]) hx hb dX3_digestOfTables_35 rfl hl (by decide) rfl (fun ls hl => ?_)
        have hl : lv_has ls 6 [(3, .long (dgT K d (i + 1))), (0, .ref (ac 0)), (5, .int (nI i))] := hl
        refine lv_iinc (v := nI (i + 1)) (lv' := [(5, .int (nI (i + 1))), (3, .long (dgT K d (i + 1))), (0, .ref (ac 0))]) hx hb dX3_digestOfTables_36 hl (k := 2) rfl (by first | rfl | exact (nI_1 i)) (by decide) rfl (fun ls hl => ?_)
        refine lv_goto (tgt := 5) hx hb dX3_digestOfTables_39 (by decide) ?_
        exact ihi (i + 1) _ (by omega) (by omega) (lv_sub hl [2, 1, 0] rfl)
      · have e9i : 8 = i := by omega
        subst e9i
        refine lv_iload hx hb dX3_digestOfTables_5 (lv_at hl 2 rfl) ?_
        refine lv_bipush (v := 8) hx hb dX3_digestOfTables_7 (by decide) ?_
        refine lv_icmp_ge (tgt := 42) hx hb dX3_digestOfTables_9 (by decide) (fun _ => ?_) (fun c9 => absurd (show (8 : Int32) ≤ nI 8 by decide) c9)
        refine lv_lload_n hx hb dX3_digestOfTables_42 rfl (lv_at hl 1 rfl) ?_
        subst hQ
        exact W.lret (v := dgT K d 8) hx hb hr (fun t ht hW => ⟨_, rfl, rfl, ht⟩) (fun _ h => by cases h) dX3_digestOfTables_43
  exact ly13 (8 + 1) 0 ls (by omega) (by omega) (lv_sub hl [2, 1, 0] rfl)
abbrev rmX3_digestOfCoracles : Room := { frames := 1, cells := 0, slots := 0, locals := 22 }
set_option maxHeartbeats 4000000 in
set_option maxRecDepth 100000 in
/-- digestOfCoracles(d) -/
theorem c_X3_digestOfCoracles (l : Launch) (D : va_G) (y : Nat → ClassId) (ac ad : Nat → Nat) (n0 r0 : Nat) (K V : Nat → Nat → Int32) (d : Int64) (hn0 : n0 = ad 0) (hM : vp_in (V 0 2) 7) : RdL l D y yX3_digestOfCoracles wsX3_digestOfCoracles rmX3_digestOfCoracles [.ref (ac 0), .long d] (cmW y ac n0 r0 K ++ rvW y ad V) (dg2 (coT V) 10 d (ix (V 0 2))) := by
  refine mR (C := RX3) (cc := cX3_digestOfCoracles) (maxL := 7) (ret := (some .long)) (by decide) rfl rfl (Nat.le_of_ble_eq_true rfl) ?_
  intro p e s m a below meth c ls Q hQ hx hb hr hts hown hlocks hml hP hK hN hl
  have hl : lv_has ls 7 [(0, .ref (ac 0)), (1, .long d)] := hl
  subst hn0
  have hNi : ix (V 0 2) < 7 := in_ix hM
  refine lv_lload_n hx hb dX3_digestOfCoracles_0 rfl (lv_at hl 1 rfl) ?_
  refine lv_lstore_n (lv' := [(3, .long d), (0, .ref (ac 0)), (1, .long d)]) hx hb dX3_digestOfCoracles_1 rfl hl (by decide) rfl (fun ls hl => ?_)
  refine lv_iconst (v := 0) hx hb dX3_digestOfCoracles_2 (by decide) ?_
  refine lv_istore (lv' := [(5, .int 0), (3, .long d), (0, .ref (ac 0)), (1, .long d)]) hx hb dX3_digestOfCoracles_3 hl (by decide) rfl (fun ls hl => ?_)
  have hl : lv_has ls 7 [(5, .int 0), (3, .long (dg2 (coT V) 10 d 0)), (0, .ref (ac 0)), (1, .long d)] := hl
  have hl : lv_has ls 7 [(5, .int (nI 0)), (3, .long (dg2 (coT V) 10 d 0)), (0, .ref (ac 0)), (1, .long d)] := hl
  have ly14 : ∀ (ni i : Nat) (ls : Array Slot), ix (V 0 2) - i < ni → i ≤ ix (V 0 2) → lv_has ls 7 [(0, .ref (ac 0)), (3, .long (dg2 (coT V) 10 d i)), (5, .int (nI i))] → W p l e rmX3_digestOfCoracles s m a below meth c s.heap [] 0 0 Q (F0 m 5 ls ([])) := by
    intro ni
    induction ni with
    | zero => intro i ls hn; exact absurd hn (Nat.not_lt_zero _)
    | succ ni ihi =>
      intro i ls hni hii hl
      rcases Nat.lt_or_ge i (ix (V 0 2)) with hiN | hiN
      · refine lv_iload hx hb dX3_digestOfCoracles_5 (lv_at hl 2 rfl) ?_
        refine lv_aload_n hx hb dX3_digestOfCoracles_7 rfl (lv_at hl 0 rfl) ?_
        have hin3 : ∀ w ∈ u_ws RX3 TX3 4, w ∈ wsX3_digestOfCoracles := by decide +kernel
        have hf19 := hts (.fieldLink RX3 19 "CoracleMakers" "now" "LCoracleMakers$River;") (by decide +kernel)
        refine va_get (D := D) (ci := 3) (v := .ref (ad 0)) (C := RX3) (T := TX3) (N := 4) hx hb hts hin3 hown hK hP 0 (ap_l (wf_at (by decide) rfl)) rfl 2 (by decide) hf19 (fun _ h9 => h9) rfl dX3_digestOfCoracles_8 ?_
        have hin2 : ∀ w ∈ u_ws RX2 TX2 10, w ∈ wsX3_digestOfCoracles := by decide +kernel
        have hf48 := hts (.fieldLink RX3 48 "CoracleMakers$River" "made" "I") (by decide +kernel)
        refine va_get (D := D) (ci := 2) (v := .int (V 0 2)) (C := RX2) (T := TX2) (N := 10) hx hb hts hin2 hown hK hP (3 + 0) (ap_r (wf_len 3 _ _) (wf_at (by decide) rfl)) rfl 6 (by decide) hf48 (fun _ h9 => h9) rfl dX3_digestOfCoracles_11 ?_
        refine lv_icmp_ge (tgt := 58) hx hb dX3_digestOfCoracles_14 (by decide) (fun c9 => absurd c9 (self_gt hM (by decide) hiN)) (fun _ => ?_)
        refine lv_iconst (v := 0) hx hb dX3_digestOfCoracles_17 (by decide) ?_
        refine lv_istore (lv' := [(6, .int 0), (0, .ref (ac 0)), (3, .long (dg2 (coT V) 10 d i)), (5, .int (nI i))]) hx hb dX3_digestOfCoracles_18 hl (by decide) rfl (fun ls hl => ?_)
        have hl : lv_has ls 7 [(6, .int 0), (0, .ref (ac 0)), (3, .long (dgS (coT V i) (dg2 (coT V) 10 d i) 0)), (5, .int (nI i))] := hl
        have hl : lv_has ls 7 [(6, .int (nI 0)), (0, .ref (ac 0)), (3, .long (dgS (coT V i) (dg2 (coT V) 10 d i) 0)), (5, .int (nI i))] := hl
        have ly15 : ∀ (nj j : Nat) (ls : Array Slot), 10 - j < nj → j ≤ 10 → lv_has ls 7 [(0, .ref (ac 0)), (3, .long (dgS (coT V i) (dg2 (coT V) 10 d i) j)), (5, .int (nI i)), (6, .int (nI j))] → W p l e rmX3_digestOfCoracles s m a below meth c s.heap [] 0 0 Q (F0 m 20 ls ([])) := by
          intro nj
          induction nj with
          | zero => intro j ls hn; exact absurd hn (Nat.not_lt_zero _)
          | succ nj ihj =>
            intro j ls hnj hij hl
            rcases Nat.lt_or_ge j 10 with hjN | hjN
            · refine lv_iload hx hb dX3_digestOfCoracles_20 (lv_at hl 3 rfl) ?_
              refine lv_bipush (v := 10) hx hb dX3_digestOfCoracles_22 (by decide) ?_
              refine lv_icmp_ge (tgt := 52) hx hb dX3_digestOfCoracles_24 (by decide) (fun c9 => absurd c9 (nI_ge hjN (by decide))) (fun _ => ?_)
              have hi6 : i < 6 := by omega
              have ei : ix (nI i) = i := nI_clamp (by omega)
              refine lv_lload_n hx hb dX3_digestOfCoracles_27 rfl (lv_at hl 1 rfl) ?_
              refine lv_aload_n hx hb dX3_digestOfCoracles_28 rfl (lv_at hl 0 rfl) ?_
              refine va_get (D := D) (ci := 3) (v := .ref (ad 0)) (C := RX3) (T := TX3) (N := 4) hx hb hts hin3 hown hK hP 0 (ap_l (wf_at (by decide) rfl)) rfl 2 (by decide) hf19 (fun _ h9 => h9) rfl dX3_digestOfCoracles_29 ?_
              refine lv_iload hx hb dX3_digestOfCoracles_32 (lv_at hl 2 rfl) ?_
              refine cRR_V (As := [.int (nI i)]) (rest := [.long (dgS (coT V i) (dg2 (coT V) 10 d i) j)]) ⟨hx, hb, hml, hown, hts⟩ (c_X2_coracleOf l D y ad V (nI i) (vp_in_nI hi6 (by decide))) (cwV 1 hts gX3_digestOfCoracles_X2_coracleOf rfl rfl rfl (by decide +kernel) ⟨Nat.le_of_ble_eq_true rfl, Nat.le_of_ble_eq_true rfl⟩) hK hN (P_r hP) (va_recv hK hP (ci := 2) (q0 := (3 + 0)) rfl (ap_r (wf_len 3 _ _) (wf_at (by decide) rfl))) rfl hl.1 rfl (Nat.le_of_ble_eq_true rfl) dX3_digestOfCoracles_34 ⟨Nat.le_of_ble_eq_true rfl, Nat.le_of_ble_eq_true rfl⟩ ?_
              rw [ei]
              refine lv_iload hx hb dX3_digestOfCoracles_37 (lv_at hl 3 rfl) ?_
              refine cRI_V (As := [.int (nI j)]) (rest := [.long (dgS (coT V i) (dg2 (coT V) 10 d i) j)]) ⟨hx, hb, hml, hown, hts⟩ (c_X0_tell l D y (ad (i + 5)) (V (i + 5)) (nI j)) (cwV 1 hts gX3_digestOfCoracles_X0_tell rfl rfl rfl (by decide +kernel) ⟨Nat.le_of_ble_eq_true rfl, Nat.le_of_ble_eq_true rfl⟩) hK hN (P_m (P_r hP) (rv_co y ad V hi6)) (va_recv hK (P_r hP) (ci := 0) (q0 := (i + 5)) rfl (rv_co y ad V hi6)) rfl hl.1 rfl (Nat.le_of_ble_eq_true rfl) dX3_digestOfCoracles_39 ⟨Nat.le_of_ble_eq_true rfl, Nat.le_of_ble_eq_true rfl⟩ ?_
              refine cRL_S (As := [.long (dgS (coT V i) (dg2 (coT V) 10 d i) j), .int (coT V i j)]) (rest := []) ⟨hx, hb, hml, hown, hts⟩ (c_X3_digestWith l D y (dgS (coT V i) (dg2 (coT V) 10 d i) j) (coT V i j)) (va_cwS 2 hts gX3_digestOfCoracles_X3_digestWith rfl rfl rfl (by decide +kernel) ⟨Nat.le_of_ble_eq_true rfl, Nat.le_of_ble_eq_true rfl⟩) hK hN (P_nil D vwCl _) rfl hl.1 rfl (Nat.le_of_ble_eq_true rfl) dX3_digestOfCoracles_42 ⟨Nat.le_of_ble_eq_true rfl, Nat.le_of_ble_eq_true rfl⟩ ?_
              refine lv_lstore_n (lv' := [(3, .long (dgW (dgS (coT V i) (dg2 (coT V) 10 d i) j) (coT V i j))), (0, .ref (ac 0)), (5, .int (nI i)), (6, .int (nI j))]) hx hb dX3_digestOfCoracles_45 rfl hl (by decide) rfl (fun ls hl => ?_)
              have hl : lv_has ls 7 [(3, .long (dgS (coT V i) (dg2 (coT V) 10 d i) (j + 1))), (0, .ref (ac 0)), (5, .int (nI i)), (6, .int (nI j))] := hl
              refine lv_iinc (v := nI (j + 1)) (lv' := [(6, .int (nI (j + 1))), (3, .long (dgS (coT V i) (dg2 (coT V) 10 d i) (j + 1))), (0, .ref (ac 0)), (5, .int (nI i))]) hx hb dX3_digestOfCoracles_46 hl (k := 3) rfl (by first | rfl | exact (nI_1 j)) (by decide) rfl (fun ls hl => ?_)
              refine lv_goto (tgt := 20) hx hb dX3_digestOfCoracles_49 (by decide) ?_
              exact ihj (j + 1) _ (by omega) (by omega) (lv_sub hl [2, 1, 3, 0] rfl)
            · have e9j : 10 = j := by omega
              subst e9j
              refine lv_iload hx hb dX3_digestOfCoracles_20 (lv_at hl 3 rfl) ?_
              refine lv_bipush (v := 10) hx hb dX3_digestOfCoracles_22 (by decide) ?_
              refine lv_icmp_ge (tgt := 52) hx hb dX3_digestOfCoracles_24 (by decide) (fun _ => ?_) (fun c9 => absurd (show (10 : Int32) ≤ nI 10 by decide) c9)
              have hl : lv_has ls 7 [(0, .ref (ac 0)), (3, .long (dg2 (coT V) 10 d (i + 1))), (5, .int (nI i)), (6, .int (nI 10))] := hl
              refine lv_iinc (v := nI (i + 1)) (lv' := [(5, .int (nI (i + 1))), (0, .ref (ac 0)), (3, .long (dg2 (coT V) 10 d (i + 1))), (6, .int (nI 10))]) hx hb dX3_digestOfCoracles_52 hl (k := 2) rfl (by first | rfl | exact (nI_1 i)) (by decide) rfl (fun ls hl => ?_)
              refine lv_goto (tgt := 5) hx hb dX3_digestOfCoracles_55 (by decide) ?_
              exact ihi (i + 1) _ (by omega) (by omega) (lv_sub hl [1, 2, 0] rfl)
        exact ly15 (10 + 1) 0 ls (by omega) (by omega) (lv_sub hl [1, 2, 3, 0] rfl)
      · have e9i : ix (V 0 2) = i := by omega
        subst e9i
        refine lv_iload hx hb dX3_digestOfCoracles_5 (lv_at hl 2 rfl) ?_
        refine lv_aload_n hx hb dX3_digestOfCoracles_7 rfl (lv_at hl 0 rfl) ?_
        have hin3 : ∀ w ∈ u_ws RX3 TX3 4, w ∈ wsX3_digestOfCoracles := by decide +kernel
        have hf19 := hts (.fieldLink RX3 19 "CoracleMakers" "now" "LCoracleMakers$River;") (by decide +kernel)
        refine va_get (D := D) (ci := 3) (v := .ref (ad 0)) (C := RX3) (T := TX3) (N := 4) hx hb hts hin3 hown hK hP 0 (ap_l (wf_at (by decide) rfl)) rfl 2 (by decide) hf19 (fun _ h9 => h9) rfl dX3_digestOfCoracles_8 ?_
        have hin2 : ∀ w ∈ u_ws RX2 TX2 10, w ∈ wsX3_digestOfCoracles := by decide +kernel
        have hf48 := hts (.fieldLink RX3 48 "CoracleMakers$River" "made" "I") (by decide +kernel)
        refine va_get (D := D) (ci := 2) (v := .int (V 0 2)) (C := RX2) (T := TX2) (N := 10) hx hb hts hin2 hown hK hP (3 + 0) (ap_r (wf_len 3 _ _) (wf_at (by decide) rfl)) rfl 6 (by decide) hf48 (fun _ h9 => h9) rfl dX3_digestOfCoracles_11 ?_
        refine lv_icmp_ge (tgt := 58) hx hb dX3_digestOfCoracles_14 (by decide) (fun _ => ?_) (fun c9 => absurd (self_le hM (by decide)) c9)
        refine lv_lload_n hx hb dX3_digestOfCoracles_58 rfl (lv_at hl 1 rfl) ?_
        subst hQ
        exact W.lret (v := dg2 (coT V) 10 d (ix (V 0 2))) hx hb hr (fun t ht hW => ⟨_, rfl, rfl, ht⟩) (fun _ h => by cases h) dX3_digestOfCoracles_59
  exact ly14 (ix (V 0 2) + 1) 0 ls (by omega) (by omega) (lv_sub hl [2, 1, 0] rfl)
abbrev rmX3_digestOfNets : Room := { frames := 4, cells := 0, slots := 0, locals := 92 }
set_option maxHeartbeats 4000000 in
set_option maxRecDepth 100000 in
/-- digestOfNets(d) -/
theorem c_X3_digestOfNets (l : Launch) (D : va_G) (y : Nat → ClassId) (ac ad : Nat → Nat) (n0 r0 : Nat) (K V : Nat → Nat → Int32) (d : Int64) (hn0 : n0 = ad 0) (hM : vp_in (V 0 3) 4) (hI : rvI V) : RdL l D y yX3_digestOfNets wsX3_digestOfNets rmX3_digestOfNets [.ref (ac 0), .long d] (cmW y ac n0 r0 K ++ rvW y ad V) (dg2 (neT V) 4 d (ix (V 0 3))) := by
  refine mR (C := RX3) (cc := cX3_digestOfNets) (maxL := 7) (ret := (some .long)) (by decide) rfl rfl (Nat.le_of_ble_eq_true rfl) ?_
  intro p e s m a below meth c ls Q hQ hx hb hr hts hown hlocks hml hP hK hN hl
  have hl : lv_has ls 7 [(0, .ref (ac 0)), (1, .long d)] := hl
  subst hn0
  have hNi : ix (V 0 3) < 4 := in_ix hM
  refine lv_lload_n hx hb dX3_digestOfNets_0 rfl (lv_at hl 1 rfl) ?_
  refine lv_lstore_n (lv' := [(3, .long d), (0, .ref (ac 0)), (1, .long d)]) hx hb dX3_digestOfNets_1 rfl hl (by decide) rfl (fun ls hl => ?_)
  refine lv_iconst (v := 0) hx hb dX3_digestOfNets_2 (by decide) ?_
  refine lv_istore (lv' := [(5, .int 0), (3, .long d), (0, .ref (ac 0)), (1, .long d)]) hx hb dX3_digestOfNets_3 hl (by decide) rfl (fun ls hl => ?_)
  have hl : lv_has ls 7 [(5, .int 0), (3, .long (dg2 (neT V) 4 d 0)), (0, .ref (ac 0)), (1, .long d)] := hl
  have hl : lv_has ls 7 [(5, .int (nI 0)), (3, .long (dg2 (neT V) 4 d 0)), (0, .ref (ac 0)), (1, .long d)] := hl
  have ly16 : ∀ (ni i : Nat) (ls : Array Slot), ix (V 0 3) - i < ni → i ≤ ix (V 0 3) → lv_has ls 7 [(0, .ref (ac 0)), (3, .long (dg2 (neT V) 4 d i)), (5, .int (nI i))] → W p l e rmX3_digestOfNets s m a below meth c s.heap [] 0 0 Q (F0 m 5 ls ([])) := by
    intro ni
    induction ni with
    | zero => intro i ls hn; exact absurd hn (Nat.not_lt_zero _)
    | succ ni ihi =>
      intro i ls hni hii hl
      rcases Nat.lt_or_ge i (ix (V 0 3)) with hiN | hiN
      · refine lv_iload hx hb dX3_digestOfNets_5 (lv_at hl 2 rfl) ?_
        refine lv_aload_n hx hb dX3_digestOfNets_7 rfl (lv_at hl 0 rfl) ?_
        have hin3 : ∀ w ∈ u_ws RX3 TX3 4, w ∈ wsX3_digestOfNets := by decide +kernel
        have hf19 := hts (.fieldLink RX3 19 "CoracleMakers" "now" "LCoracleMakers$River;") (by decide +kernel)
        refine va_get (D := D) (ci := 3) (v := .ref (ad 0)) (C := RX3) (T := TX3) (N := 4) hx hb hts hin3 hown hK hP 0 (ap_l (wf_at (by decide) rfl)) rfl 2 (by decide) hf19 (fun _ h9 => h9) rfl dX3_digestOfNets_8 ?_
        have hin2 : ∀ w ∈ u_ws RX2 TX2 10, w ∈ wsX3_digestOfNets := by decide +kernel
        have hf94 := hts (.fieldLink RX3 94 "CoracleMakers$River" "tied" "I") (by decide +kernel)
        refine va_get (D := D) (ci := 2) (v := .int (V 0 3)) (C := RX2) (T := TX2) (N := 10) hx hb hts hin2 hown hK hP (3 + 0) (ap_r (wf_len 3 _ _) (wf_at (by decide) rfl)) rfl 7 (by decide) hf94 (fun _ h9 => h9) rfl dX3_digestOfNets_11 ?_
        refine lv_icmp_ge (tgt := 54) hx hb dX3_digestOfNets_14 (by decide) (fun c9 => absurd c9 (self_gt hM (by decide) hiN)) (fun _ => ?_)
        refine lv_iconst (v := 0) hx hb dX3_digestOfNets_17 (by decide) ?_
        refine lv_istore (lv' := [(6, .int 0), (0, .ref (ac 0)), (3, .long (dg2 (neT V) 4 d i)), (5, .int (nI i))]) hx hb dX3_digestOfNets_18 hl (by decide) rfl (fun ls hl => ?_)
        have hl : lv_has ls 7 [(6, .int 0), (0, .ref (ac 0)), (3, .long (dgS (neT V i) (dg2 (neT V) 4 d i) 0)), (5, .int (nI i))] := hl
        have hl : lv_has ls 7 [(6, .int (nI 0)), (0, .ref (ac 0)), (3, .long (dgS (neT V i) (dg2 (neT V) 4 d i) 0)), (5, .int (nI i))] := hl
        have ly17 : ∀ (nj j : Nat) (ls : Array Slot), 4 - j < nj → j ≤ 4 → lv_has ls 7 [(0, .ref (ac 0)), (3, .long (dgS (neT V i) (dg2 (neT V) 4 d i) j)), (5, .int (nI i)), (6, .int (nI j))] → W p l e rmX3_digestOfNets s m a below meth c s.heap [] 0 0 Q (F0 m 20 ls ([])) := by
          intro nj
          induction nj with
          | zero => intro j ls hn; exact absurd hn (Nat.not_lt_zero _)
          | succ nj ihj =>
            intro j ls hnj hij hl
            rcases Nat.lt_or_ge j 4 with hjN | hjN
            · refine lv_iload hx hb dX3_digestOfNets_20 (lv_at hl 3 rfl) ?_
              refine lv_iconst (v := 4) hx hb dX3_digestOfNets_22 (by decide) ?_
              refine lv_icmp_ge (tgt := 48) hx hb dX3_digestOfNets_23 (by decide) (fun c9 => absurd c9 (nI_ge hjN (by decide))) (fun _ => ?_)
              have hi3 : i < 3 := by omega
              have ei : ix (nI i) = i := nI_clamp (by omega)
              refine lv_lload_n hx hb dX3_digestOfNets_26 rfl (lv_at hl 1 rfl) ?_
              refine lv_aload_n hx hb dX3_digestOfNets_27 rfl (lv_at hl 0 rfl) ?_
              refine va_get (D := D) (ci := 3) (v := .ref (ad 0)) (C := RX3) (T := TX3) (N := 4) hx hb hts hin3 hown hK hP 0 (ap_l (wf_at (by decide) rfl)) rfl 2 (by decide) hf19 (fun _ h9 => h9) rfl dX3_digestOfNets_28 ?_
              refine lv_iload hx hb dX3_digestOfNets_31 (lv_at hl 2 rfl) ?_
              refine lv_iload hx hb dX3_digestOfNets_33 (lv_at hl 3 rfl) ?_
              refine cRI_V (As := [.int (nI i), .int (nI j)]) (rest := [.long (dgS (neT V i) (dg2 (neT V) 4 d i) j)]) ⟨hx, hb, hml, hown, hts⟩ (c_X2_tellOfNet l D y ad V (nI i) (nI j) (vp_in_nI hi3 (by decide)) hI) (cwV 2 hts gX3_digestOfNets_X2_tellOfNet rfl rfl rfl (by decide +kernel) ⟨Nat.le_of_ble_eq_true rfl, Nat.le_of_ble_eq_true rfl⟩) hK hN (P_r hP) (va_recv hK hP (ci := 2) (q0 := (3 + 0)) rfl (ap_r (wf_len 3 _ _) (wf_at (by decide) rfl))) rfl hl.1 rfl (Nat.le_of_ble_eq_true rfl) dX3_digestOfNets_35 ⟨Nat.le_of_ble_eq_true rfl, Nat.le_of_ble_eq_true rfl⟩ ?_
              rw [ei]
              refine cRL_S (As := [.long (dgS (neT V i) (dg2 (neT V) 4 d i) j), .int (neT V i j)]) (rest := []) ⟨hx, hb, hml, hown, hts⟩ (c_X3_digestWith l D y (dgS (neT V i) (dg2 (neT V) 4 d i) j) (neT V i j)) (va_cwS 2 hts gX3_digestOfNets_X3_digestWith rfl rfl rfl (by decide +kernel) ⟨Nat.le_of_ble_eq_true rfl, Nat.le_of_ble_eq_true rfl⟩) hK hN (P_nil D vwCl _) rfl hl.1 rfl (Nat.le_of_ble_eq_true rfl) dX3_digestOfNets_38 ⟨Nat.le_of_ble_eq_true rfl, Nat.le_of_ble_eq_true rfl⟩ ?_
              refine lv_lstore_n (lv' := [(3, .long (dgW (dgS (neT V i) (dg2 (neT V) 4 d i) j) (neT V i j))), (0, .ref (ac 0)), (5, .int (nI i)), (6, .int (nI j))]) hx hb dX3_digestOfNets_41 rfl hl (by decide) rfl (fun ls hl => ?_)
              have hl : lv_has ls 7 [(3, .long (dgS (neT V i) (dg2 (neT V) 4 d i) (j + 1))), (0, .ref (ac 0)), (5, .int (nI i)), (6, .int (nI j))] := hl
              refine lv_iinc (v := nI (j + 1)) (lv' := [(6, .int (nI (j + 1))), (3, .long (dgS (neT V i) (dg2 (neT V) 4 d i) (j + 1))), (0, .ref (ac 0)), (5, .int (nI i))]) hx hb dX3_digestOfNets_42 hl (k := 3) rfl (by first | rfl | exact (nI_1 j)) (by decide) rfl (fun ls hl => ?_)
              refine lv_goto (tgt := 20) hx hb dX3_digestOfNets_45 (by decide) ?_
              exact ihj (j + 1) _ (by omega) (by omega) (lv_sub hl [2, 1, 3, 0] rfl)
            · have e9j : 4 = j := by omega
              subst e9j
              refine lv_iload hx hb dX3_digestOfNets_20 (lv_at hl 3 rfl) ?_
              refine lv_iconst (v := 4) hx hb dX3_digestOfNets_22 (by decide) ?_
              refine lv_icmp_ge (tgt := 48) hx hb dX3_digestOfNets_23 (by decide) (fun _ => ?_) (fun c9 => absurd (show (4 : Int32) ≤ nI 4 by decide) c9)
              have hl : lv_has ls 7 [(0, .ref (ac 0)), (3, .long (dg2 (neT V) 4 d (i + 1))), (5, .int (nI i)), (6, .int (nI 4))] := hl
              refine lv_iinc (v := nI (i + 1)) (lv' := [(5, .int (nI (i + 1))), (0, .ref (ac 0)), (3, .long (dg2 (neT V) 4 d (i + 1))), (6, .int (nI 4))]) hx hb dX3_digestOfNets_48 hl (k := 2) rfl (by first | rfl | exact (nI_1 i)) (by decide) rfl (fun ls hl => ?_)
              refine lv_goto (tgt := 5) hx hb dX3_digestOfNets_51 (by decide) ?_
              exact ihi (i + 1) _ (by omega) (by omega) (lv_sub hl [1, 2, 0] rfl)
        exact ly17 (4 + 1) 0 ls (by omega) (by omega) (lv_sub hl [1, 2, 3, 0] rfl)
      · have e9i : ix (V 0 3) = i := by omega
        subst e9i
        refine lv_iload hx hb dX3_digestOfNets_5 (lv_at hl 2 rfl) ?_
        refine lv_aload_n hx hb dX3_digestOfNets_7 rfl (lv_at hl 0 rfl) ?_
        have hin3 : ∀ w ∈ u_ws RX3 TX3 4, w ∈ wsX3_digestOfNets := by decide +kernel
        have hf19 := hts (.fieldLink RX3 19 "CoracleMakers" "now" "LCoracleMakers$River;") (by decide +kernel)
        refine va_get (D := D) (ci := 3) (v := .ref (ad 0)) (C := RX3) (T := TX3) (N := 4) hx hb hts hin3 hown hK hP 0 (ap_l (wf_at (by decide) rfl)) rfl 2 (by decide) hf19 (fun _ h9 => h9) rfl dX3_digestOfNets_8 ?_
        have hin2 : ∀ w ∈ u_ws RX2 TX2 10, w ∈ wsX3_digestOfNets := by decide +kernel
        have hf94 := hts (.fieldLink RX3 94 "CoracleMakers$River" "tied" "I") (by decide +kernel)
        refine va_get (D := D) (ci := 2) (v := .int (V 0 3)) (C := RX2) (T := TX2) (N := 10) hx hb hts hin2 hown hK hP (3 + 0) (ap_r (wf_len 3 _ _) (wf_at (by decide) rfl)) rfl 7 (by decide) hf94 (fun _ h9 => h9) rfl dX3_digestOfNets_11 ?_
        refine lv_icmp_ge (tgt := 54) hx hb dX3_digestOfNets_14 (by decide) (fun _ => ?_) (fun c9 => absurd (self_le hM (by decide)) c9)
        refine lv_lload_n hx hb dX3_digestOfNets_54 rfl (lv_at hl 1 rfl) ?_
        subst hQ
        exact W.lret (v := dg2 (neT V) 4 d (ix (V 0 3))) hx hb hr (fun t ht hW => ⟨_, rfl, rfl, ht⟩) (fun _ h => by cases h) dX3_digestOfNets_55
  exact ly16 (ix (V 0 3) + 1) 0 ls (by omega) (by omega) (lv_sub hl [2, 1, 0] rfl)
abbrev rmX3_digestOfReaches : Room := { frames := 3, cells := 0, slots := 0, locals := 69 }
set_option maxHeartbeats 4000000 in
set_option maxRecDepth 100000 in
/-- digestOfReaches(d) -/
theorem c_X3_digestOfReaches (l : Launch) (D : va_G) (y : Nat → ClassId) (ac ad : Nat → Nat) (n0 r0 : Nat) (K V : Nat → Nat → Int32) (d : Int64) (hn0 : n0 = ad 0) : RdL l D y yX3_digestOfReaches wsX3_digestOfReaches rmX3_digestOfReaches [.ref (ac 0), .long d] (cmW y ac n0 r0 K ++ rvW y ad V) (dg2 (reT V) 2 d 16) := by
  refine mR (C := RX3) (cc := cX3_digestOfReaches) (maxL := 7) (ret := (some .long)) (by decide) rfl rfl (Nat.le_of_ble_eq_true rfl) ?_
  intro p e s m a below meth c ls Q hQ hx hb hr hts hown hlocks hml hP hK hN hl
  have hl : lv_has ls 7 [(0, .ref (ac 0)), (1, .long d)] := hl
  subst hn0
  refine lv_lload_n hx hb dX3_digestOfReaches_0 rfl (lv_at hl 1 rfl) ?_
  refine lv_lstore_n (lv' := [(3, .long d), (0, .ref (ac 0)), (1, .long d)]) hx hb dX3_digestOfReaches_1 rfl hl (by decide) rfl (fun ls hl => ?_)
  refine lv_iconst (v := 0) hx hb dX3_digestOfReaches_2 (by decide) ?_
  refine lv_istore (lv' := [(5, .int 0), (3, .long d), (0, .ref (ac 0)), (1, .long d)]) hx hb dX3_digestOfReaches_3 hl (by decide) rfl (fun ls hl => ?_)
  have hl : lv_has ls 7 [(5, .int 0), (3, .long (dg2 (reT V) 2 d 0)), (0, .ref (ac 0)), (1, .long d)] := hl
  have hl : lv_has ls 7 [(5, .int (nI 0)), (3, .long (dg2 (reT V) 2 d 0)), (0, .ref (ac 0)), (1, .long d)] := hl
  have ly18 : ∀ (ni i : Nat) (ls : Array Slot), 16 - i < ni → i ≤ 16 → lv_has ls 7 [(0, .ref (ac 0)), (3, .long (dg2 (reT V) 2 d i)), (5, .int (nI i))] → W p l e rmX3_digestOfReaches s m a below meth c s.heap [] 0 0 Q (F0 m 5 ls ([])) := by
    intro ni
    induction ni with
    | zero => intro i ls hn; exact absurd hn (Nat.not_lt_zero _)
    | succ ni ihi =>
      intro i ls hni hii hl
      rcases Nat.lt_or_ge i 16 with hiN | hiN
      · refine lv_iload hx hb dX3_digestOfReaches_5 (lv_at hl 2 rfl) ?_
        refine lv_bipush (v := 16) hx hb dX3_digestOfReaches_7 (by decide) ?_
        refine lv_icmp_ge (tgt := 49) hx hb dX3_digestOfReaches_9 (by decide) (fun c9 => absurd c9 (nI_ge hiN (by decide))) (fun _ => ?_)
        refine lv_iconst (v := 0) hx hb dX3_digestOfReaches_12 (by decide) ?_
        refine lv_istore (lv' := [(6, .int 0), (0, .ref (ac 0)), (3, .long (dg2 (reT V) 2 d i)), (5, .int (nI i))]) hx hb dX3_digestOfReaches_13 hl (by decide) rfl (fun ls hl => ?_)
        have hl : lv_has ls 7 [(6, .int 0), (0, .ref (ac 0)), (3, .long (dgS (reT V i) (dg2 (reT V) 2 d i) 0)), (5, .int (nI i))] := hl
        have hl : lv_has ls 7 [(6, .int (nI 0)), (0, .ref (ac 0)), (3, .long (dgS (reT V i) (dg2 (reT V) 2 d i) 0)), (5, .int (nI i))] := hl
        have ly19 : ∀ (nj j : Nat) (ls : Array Slot), 2 - j < nj → j ≤ 2 → lv_has ls 7 [(0, .ref (ac 0)), (3, .long (dgS (reT V i) (dg2 (reT V) 2 d i) j)), (5, .int (nI i)), (6, .int (nI j))] → W p l e rmX3_digestOfReaches s m a below meth c s.heap [] 0 0 Q (F0 m 15 ls ([])) := by
          intro nj
          induction nj with
          | zero => intro j ls hn; exact absurd hn (Nat.not_lt_zero _)
          | succ nj ihj =>
            intro j ls hnj hij hl
            rcases Nat.lt_or_ge j 2 with hjN | hjN
            · refine lv_iload hx hb dX3_digestOfReaches_15 (lv_at hl 3 rfl) ?_
              refine lv_iconst (v := 2) hx hb dX3_digestOfReaches_17 (by decide) ?_
              refine lv_icmp_ge (tgt := 43) hx hb dX3_digestOfReaches_18 (by decide) (fun c9 => absurd c9 (nI_ge hjN (by decide))) (fun _ => ?_)
              refine lv_lload_n hx hb dX3_digestOfReaches_21 rfl (lv_at hl 1 rfl) ?_
              refine lv_aload_n hx hb dX3_digestOfReaches_22 rfl (lv_at hl 0 rfl) ?_
              have hin3 : ∀ w ∈ u_ws RX3 TX3 4, w ∈ wsX3_digestOfReaches := by decide +kernel
              have hf19 := hts (.fieldLink RX3 19 "CoracleMakers" "now" "LCoracleMakers$River;") (by decide +kernel)
              refine va_get (D := D) (ci := 3) (v := .ref (ad 0)) (C := RX3) (T := TX3) (N := 4) hx hb hts hin3 hown hK hP 0 (ap_l (wf_at (by decide) rfl)) rfl 2 (by decide) hf19 (fun _ h9 => h9) rfl dX3_digestOfReaches_23 ?_
              refine lv_iload hx hb dX3_digestOfReaches_26 (lv_at hl 2 rfl) ?_
              refine lv_iload hx hb dX3_digestOfReaches_28 (lv_at hl 3 rfl) ?_
              refine cRI_V (As := [.int (nI i), .int (nI j)]) (rest := [.long (dgS (reT V i) (dg2 (reT V) 2 d i) j)]) ⟨hx, hb, hml, hown, hts⟩ (c_X2_tellOfReach l D y ad V (nI i) (nI j) (vp_in_nI hiN (by decide))) (cwV 2 hts gX3_digestOfReaches_X2_tellOfReach rfl rfl rfl (by decide +kernel) ⟨Nat.le_of_ble_eq_true rfl, Nat.le_of_ble_eq_true rfl⟩) hK hN (P_r hP) (va_recv hK hP (ci := 2) (q0 := (3 + 0)) rfl (ap_r (wf_len 3 _ _) (wf_at (by decide) rfl))) rfl hl.1 rfl (Nat.le_of_ble_eq_true rfl) dX3_digestOfReaches_30 ⟨Nat.le_of_ble_eq_true rfl, Nat.le_of_ble_eq_true rfl⟩ ?_
              refine cRL_S (As := [.long (dgS (reT V i) (dg2 (reT V) 2 d i) j), .int (reT V i j)]) (rest := []) ⟨hx, hb, hml, hown, hts⟩ (c_X3_digestWith l D y (dgS (reT V i) (dg2 (reT V) 2 d i) j) (reT V i j)) (va_cwS 2 hts gX3_digestOfReaches_X3_digestWith rfl rfl rfl (by decide +kernel) ⟨Nat.le_of_ble_eq_true rfl, Nat.le_of_ble_eq_true rfl⟩) hK hN (P_nil D vwCl _) rfl hl.1 rfl (Nat.le_of_ble_eq_true rfl) dX3_digestOfReaches_33 ⟨Nat.le_of_ble_eq_true rfl, Nat.le_of_ble_eq_true rfl⟩ ?_
              refine lv_lstore_n (lv' := [(3, .long (dgW (dgS (reT V i) (dg2 (reT V) 2 d i) j) (reT V i j))), (0, .ref (ac 0)), (5, .int (nI i)), (6, .int (nI j))]) hx hb dX3_digestOfReaches_36 rfl hl (by decide) rfl (fun ls hl => ?_)
              have hl : lv_has ls 7 [(3, .long (dgS (reT V i) (dg2 (reT V) 2 d i) (j + 1))), (0, .ref (ac 0)), (5, .int (nI i)), (6, .int (nI j))] := hl
              refine lv_iinc (v := nI (j + 1)) (lv' := [(6, .int (nI (j + 1))), (3, .long (dgS (reT V i) (dg2 (reT V) 2 d i) (j + 1))), (0, .ref (ac 0)), (5, .int (nI i))]) hx hb dX3_digestOfReaches_37 hl (k := 3) rfl (by first | rfl | exact (nI_1 j)) (by decide) rfl (fun ls hl => ?_)
              refine lv_goto (tgt := 15) hx hb dX3_digestOfReaches_40 (by decide) ?_
              exact ihj (j + 1) _ (by omega) (by omega) (lv_sub hl [2, 1, 3, 0] rfl)
            · have e9j : 2 = j := by omega
              subst e9j
              refine lv_iload hx hb dX3_digestOfReaches_15 (lv_at hl 3 rfl) ?_
              refine lv_iconst (v := 2) hx hb dX3_digestOfReaches_17 (by decide) ?_
              refine lv_icmp_ge (tgt := 43) hx hb dX3_digestOfReaches_18 (by decide) (fun _ => ?_) (fun c9 => absurd (show (2 : Int32) ≤ nI 2 by decide) c9)
              have hl : lv_has ls 7 [(0, .ref (ac 0)), (3, .long (dg2 (reT V) 2 d (i + 1))), (5, .int (nI i)), (6, .int (nI 2))] := hl
              refine lv_iinc (v := nI (i + 1)) (lv' := [(5, .int (nI (i + 1))), (0, .ref (ac 0)), (3, .long (dg2 (reT V) 2 d (i + 1))), (6, .int (nI 2))]) hx hb dX3_digestOfReaches_43 hl (k := 2) rfl (by first | rfl | exact (nI_1 i)) (by decide) rfl (fun ls hl => ?_)
              refine lv_goto (tgt := 5) hx hb dX3_digestOfReaches_46 (by decide) ?_
              exact ihi (i + 1) _ (by omega) (by omega) (lv_sub hl [1, 2, 0] rfl)
        exact ly19 (2 + 1) 0 ls (by omega) (by omega) (lv_sub hl [1, 2, 3, 0] rfl)
      · have e9i : 16 = i := by omega
        subst e9i
        refine lv_iload hx hb dX3_digestOfReaches_5 (lv_at hl 2 rfl) ?_
        refine lv_bipush (v := 16) hx hb dX3_digestOfReaches_7 (by decide) ?_
        refine lv_icmp_ge (tgt := 49) hx hb dX3_digestOfReaches_9 (by decide) (fun _ => ?_) (fun c9 => absurd (show (16 : Int32) ≤ nI 16 by decide) c9)
        refine lv_lload_n hx hb dX3_digestOfReaches_49 rfl (lv_at hl 1 rfl) ?_
        subst hQ
        exact W.lret (v := dg2 (reT V) 2 d 16) hx hb hr (fun t ht hW => ⟨_, rfl, rfl, ht⟩) (fun _ h => by cases h) dX3_digestOfReaches_50
  exact ly18 (16 + 1) 0 ls (by omega) (by omega) (lv_sub hl [2, 1, 0] rfl)
abbrev rmX3_digest : Room := { frames := 5, cells := 0, slots := 0, locals := 118 }
set_option maxHeartbeats 4000000 in
set_option maxRecDepth 100000 in
/-- digest() -/
theorem c_X3_digest (l : Launch) (D : va_G) (y : Nat → ClassId) (ac ad : Nat → Nat) (n0 r0 : Nat) (K V : Nat → Nat → Int32) (hn0 : n0 = ad 0) (hM : vp_in (V 0 2) 7) (hT : vp_in (V 0 3) 4) (hI : rvI V) : RdL l D y yX3_digest wsX3_digest rmX3_digest [.ref (ac 0)] (cmW y ac n0 r0 K ++ rvW y ad V) (dgF K V) := by
  refine mR (C := RX3) (cc := cX3_digest) (maxL := 3) (ret := (some .long)) (by decide) rfl rfl (Nat.le_of_ble_eq_true rfl) ?_
  intro p e s m a below meth c ls Q hQ hx hb hr hts hown hlocks hml hP hK hN hl
  have hl : lv_has ls 3 [(0, .ref (ac 0))] := hl
  refine lv_aload_n hx hb dX3_digest_0 rfl (lv_at hl 0 rfl) ?_
  refine lv_ldc2 (v := 1487) hx hb hown (hts (.constantLong RX3 133 (1487)) (by decide +kernel)) dX3_digest_1 ?_
  refine cRL_V (As := [.long 1487]) (rest := []) ⟨hx, hb, hml, hown, hts⟩ (c_X3_digestOfCounts l D y ac ad n0 r0 K V 1487 hn0) (cwV 1 hts gX3_digest_X3_digestOfCounts rfl rfl rfl (by decide +kernel) ⟨Nat.le_of_ble_eq_true rfl, Nat.le_of_ble_eq_true rfl⟩) hK hN hP (va_recv hK hP (ci := 3) (q0 := 0) rfl (ap_l (wf_at (by decide) rfl))) rfl hl.1 rfl (Nat.le_of_ble_eq_true rfl) dX3_digest_4 ⟨Nat.le_of_ble_eq_true rfl, Nat.le_of_ble_eq_true rfl⟩ ?_
  refine lv_lstore_n (lv' := [(1, .long (dgS (cnT V) 1487 13)), (0, .ref (ac 0))]) hx hb dX3_digest_7 rfl hl (by decide) rfl (fun ls hl => ?_)
  refine lv_aload_n hx hb dX3_digest_8 rfl (lv_at hl 1 rfl) ?_
  refine lv_lload_n hx hb dX3_digest_9 rfl (lv_at hl 0 rfl) ?_
  refine cRL_V (As := [.long (dgS (cnT V) 1487 13)]) (rest := []) ⟨hx, hb, hml, hown, hts⟩ (c_X3_digestOfTables l D y ac ad n0 r0 K V (dgS (cnT V) 1487 13) hn0) (cwV 1 hts gX3_digest_X3_digestOfTables rfl rfl rfl (by decide +kernel) ⟨Nat.le_of_ble_eq_true rfl, Nat.le_of_ble_eq_true rfl⟩) hK hN hP (va_recv hK hP (ci := 3) (q0 := 0) rfl (ap_l (wf_at (by decide) rfl))) rfl hl.1 rfl (Nat.le_of_ble_eq_true rfl) dX3_digest_10 ⟨Nat.le_of_ble_eq_true rfl, Nat.le_of_ble_eq_true rfl⟩ ?_
  refine lv_lstore_n (lv' := [(1, .long (dgT K (dgS (cnT V) 1487 13) 8)), (0, .ref (ac 0))]) hx hb dX3_digest_13 rfl hl (by decide) rfl (fun ls hl => ?_)
  refine lv_aload_n hx hb dX3_digest_14 rfl (lv_at hl 1 rfl) ?_
  refine lv_lload_n hx hb dX3_digest_15 rfl (lv_at hl 0 rfl) ?_
  refine cRL_V (As := [.long (dgT K (dgS (cnT V) 1487 13) 8)]) (rest := []) ⟨hx, hb, hml, hown, hts⟩ (c_X3_digestOfCoracles l D y ac ad n0 r0 K V (dgT K (dgS (cnT V) 1487 13) 8) hn0 hM) (cwV 1 hts gX3_digest_X3_digestOfCoracles rfl rfl rfl (by decide +kernel) ⟨Nat.le_of_ble_eq_true rfl, Nat.le_of_ble_eq_true rfl⟩) hK hN hP (va_recv hK hP (ci := 3) (q0 := 0) rfl (ap_l (wf_at (by decide) rfl))) rfl hl.1 rfl (Nat.le_of_ble_eq_true rfl) dX3_digest_16 ⟨Nat.le_of_ble_eq_true rfl, Nat.le_of_ble_eq_true rfl⟩ ?_
  refine lv_lstore_n (lv' := [(1, .long (dg2 (coT V) 10 (dgT K (dgS (cnT V) 1487 13) 8) (ix (V 0 2)))), (0, .ref (ac 0))]) hx hb dX3_digest_19 rfl hl (by decide) rfl (fun ls hl => ?_)
  refine lv_aload_n hx hb dX3_digest_20 rfl (lv_at hl 1 rfl) ?_
  refine lv_lload_n hx hb dX3_digest_21 rfl (lv_at hl 0 rfl) ?_
  refine cRL_V (As := [.long (dg2 (coT V) 10 (dgT K (dgS (cnT V) 1487 13) 8) (ix (V 0 2)))]) (rest := []) ⟨hx, hb, hml, hown, hts⟩ (c_X3_digestOfNets l D y ac ad n0 r0 K V (dg2 (coT V) 10 (dgT K (dgS (cnT V) 1487 13) 8) (ix (V 0 2))) hn0 hT hI) (cwV 1 hts gX3_digest_X3_digestOfNets rfl rfl rfl (by decide +kernel) ⟨Nat.le_of_ble_eq_true rfl, Nat.le_of_ble_eq_true rfl⟩) hK hN hP (va_recv hK hP (ci := 3) (q0 := 0) rfl (ap_l (wf_at (by decide) rfl))) rfl hl.1 rfl (Nat.le_of_ble_eq_true rfl) dX3_digest_22 ⟨Nat.le_of_ble_eq_true rfl, Nat.le_of_ble_eq_true rfl⟩ ?_
  refine lv_lstore_n (lv' := [(1, .long (dg2 (neT V) 4 (dg2 (coT V) 10 (dgT K (dgS (cnT V) 1487 13) 8) (ix (V 0 2))) (ix (V 0 3)))), (0, .ref (ac 0))]) hx hb dX3_digest_25 rfl hl (by decide) rfl (fun ls hl => ?_)
  refine lv_aload_n hx hb dX3_digest_26 rfl (lv_at hl 1 rfl) ?_
  refine lv_lload_n hx hb dX3_digest_27 rfl (lv_at hl 0 rfl) ?_
  refine cRL_V (As := [.long (dg2 (neT V) 4 (dg2 (coT V) 10 (dgT K (dgS (cnT V) 1487 13) 8) (ix (V 0 2))) (ix (V 0 3)))]) (rest := []) ⟨hx, hb, hml, hown, hts⟩ (c_X3_digestOfReaches l D y ac ad n0 r0 K V (dg2 (neT V) 4 (dg2 (coT V) 10 (dgT K (dgS (cnT V) 1487 13) 8) (ix (V 0 2))) (ix (V 0 3))) hn0) (cwV 1 hts gX3_digest_X3_digestOfReaches rfl rfl rfl (by decide +kernel) ⟨Nat.le_of_ble_eq_true rfl, Nat.le_of_ble_eq_true rfl⟩) hK hN hP (va_recv hK hP (ci := 3) (q0 := 0) rfl (ap_l (wf_at (by decide) rfl))) rfl hl.1 rfl (Nat.le_of_ble_eq_true rfl) dX3_digest_28 ⟨Nat.le_of_ble_eq_true rfl, Nat.le_of_ble_eq_true rfl⟩ ?_
  subst hQ
  exact W.lret (v := dg2 (reT V) 2 (dg2 (neT V) 4 (dg2 (coT V) 10 (dgT K (dgS (cnT V) 1487 13) 8) (ix (V 0 2))) (ix (V 0 3))) 16) hx hb hr (fun t ht hW => ⟨_, rfl, rfl, ht⟩) (fun _ h => by cases h) dX3_digest_31
