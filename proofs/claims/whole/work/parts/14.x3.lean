/-! ===== CoracleMakers: hours ===== -/
/-- the row of the tables for the hour of V -/
abbrev hw8 (V : Nat → Nat → Int32) : Int32 := fmF (V 0 0) 8
def lhV (K V : Nat → Nat → Int32) : Nat → Nat → Int32 := hrV V (K 1 (ix (hw8 V))) (K 2 (ix (hw8 V)))
def lhC (K V : Nat → Nat → Int32) : Int32 := hrC V (K 1 (ix (hw8 V)))
def lsV (K V : Nat → Nat → Int32) : Nat → (Nat → Nat → Int32) | 0 => V | n + 1 => lhV K (lsV K V n)
def lsC (K V : Nat → Nat → Int32) : Nat → Int32 | 0 => 0 | n + 1 => lsC K V n + lhC K (lsV K V n)
/-- what an hour needs -/
def okH (K V : Nat → Nat → Int32) : Prop := vp_in (hw8 V) 8 ∧ vp_in (V 0 3) 4 ∧ rvI (hA1 V (K 1 (ix (hw8 V))))
abbrev rmX3_letHoursPass : Room := { frames := 5, cells := 0, slots := 0, locals := 119 }
set_option maxHeartbeats 4000000 in
set_option maxRecDepth 100000 in
/-- letHoursPass(river, N) -/
theorem c_X3_letHoursPass (l : Launch) (D : va_G) (y : Nat → ClassId) (sz : Nat) (ac ad : Nat → Nat) (n0 r0 : Nat) (K V : Nat → Nat → Int32) (N : Nat) (hN9 : N < 2 ^ 31) (hO : ∀ i, i < N → okH K (lsV K V i)) : WrI l D y yX3_letHoursPass wsX3_letHoursPass rmX3_letHoursPass [.ref (ac 0), .ref (ad 0), .int (nI N)] (cmW y ac n0 r0 K ++ rvW y ad V) sz (lsC K V N) (cmW y ac n0 r0 K ++ rvW y ad (lsV K V N)) := by
  refine mW (fun A => va_Qi (fun r (_ : Unit) => r = lsC K V N) (fun _ t9 => Bp D y (cmW y ac n0 r0 K ++ rvW y ad (lsV K V N)) t9) A) (C := RX3) (cc := cX3_letHoursPass) (maxL := 6) (ret := (some .int)) (by decide) rfl rfl (Nat.le_of_ble_eq_true rfl) ?_
  intro p e s m a below meth c ls A Q hQ hsz hx hb hr hts hown hlocks hin hml hP hK hN hD hA hS hl
  have hl : lv_has ls 6 [(0, .ref (ac 0)), (1, .ref (ad 0)), (2, .int (nI N))] := hl
  rw [cm2_fst] at hD
  refine lv_iconst (v := 0) hx hb dX3_letHoursPass_0 (by decide) ?_
  refine lv_istore_n (lv' := [(3, .int 0), (0, .ref (ac 0)), (1, .ref (ad 0)), (2, .int (nI N))]) hx hb dX3_letHoursPass_1 rfl hl (by decide) rfl (fun ls hl => ?_)
  refine lv_iconst (v := 0) hx hb dX3_letHoursPass_2 (by decide) ?_
  refine lv_istore (lv' := [(4, .int 0), (3, .int 0), (0, .ref (ac 0)), (1, .ref (ad 0)), (2, .int (nI N))]) hx hb dX3_letHoursPass_3 hl (by decide) rfl (fun ls hl => ?_)
  have hl : lv_has ls 6 [(4, .int 0), (3, .int (lsC K V 0)), (0, .ref (ac 0)), (1, .ref (ad 0)), (2, .int (nI N))] := hl
  have hl : lv_has ls 6 [(4, .int (nI 0)), (3, .int (lsC K V 0)), (0, .ref (ac 0)), (1, .ref (ad 0)), (2, .int (nI N))] := hl
  have lr11 : ∀ (n i : Nat) (H : Heap) (locs : List Loc) (ls : Array Slot), N - i < n → i ≤ N → va_P D vwCl (cmW y ac n0 r0 K ++ rvW y ad (lsV K V i)) H → va_S A s.heap H locs → lv_has ls 6 [(0, .ref (ac 0)), (1, .ref (ad 0)), (2, .int (nI N)), (3, .int (lsC K V i)), (4, .int (nI i))] → W p l e rmX3_letHoursPass s m a below meth c H locs 0 0 Q (F0 m 5 ls []) := by
    intro n
    induction n with
    | zero => intro i H locs ls hn; exact absurd hn (Nat.not_lt_zero _)
    | succ n ih =>
      intro i H locs ls hn hi hP hS hl
      rcases Nat.lt_or_ge i N with hiN | hiN
      · refine lv_iload hx hb dX3_letHoursPass_5 (lv_at hl 4 rfl) ?_
        refine lv_iload_n hx hb dX3_letHoursPass_7 rfl (lv_at hl 2 rfl) ?_
        refine lv_icmp_ge (tgt := 49) hx hb dX3_letHoursPass_8 (by decide) (fun c9 => absurd c9 (nI_ge hiN hN9)) (fun _ => ?_)
        refine lv_aload_n hx hb dX3_letHoursPass_11 rfl (lv_at hl 1 rfl) ?_
        have hin2 : ∀ w ∈ u_ws RX2 TX2 10, w ∈ wsX3_letHoursPass := by decide +kernel
        have hf157 := hts (.fieldLink RX3 157 "CoracleMakers$River" "hour" "I") (by decide +kernel)
        refine va_get (D := D) (ci := 2) (v := .int ((lsV K V i) 0 0)) (C := RX2) (T := TX2) (N := 10) hx hb hts hin2 hown hK hP (3 + 0) (ap_r (wf_len 3 _ _) (wf_at (by decide) rfl)) rfl 4 (by decide) hf157 (fun _ h9 => h9) rfl dX3_letHoursPass_12 ?_
        refine lv_bipush (v := 8) hx hb dX3_letHoursPass_15 (by decide) ?_
        refine cRI_S (As := [.int ((lsV K V i) 0 0), .int 8]) (rest := []) ⟨hx, hb, hml, hown, hts⟩ (c_J9_floorMod_7cf53 l D y (lsV K V i 0 0) 8 (by decide)) (va_cwS 2 hts gX3_letHoursPass_J9_floorMod_7cf53 rfl rfl rfl (by decide +kernel) ⟨Nat.le_of_ble_eq_true rfl, Nat.le_of_ble_eq_true rfl⟩) hK hN (P_nil D vwCl _) rfl hl.1 rfl (Nat.le_of_ble_eq_true rfl) dX3_letHoursPass_17 ⟨Nat.le_of_ble_eq_true rfl, Nat.le_of_ble_eq_true rfl⟩ ?_
        refine lv_istore (lv' := [(5, .int (hw8 (lsV K V i))), (0, .ref (ac 0)), (1, .ref (ad 0)), (2, .int (nI N)), (3, .int (lsC K V i)), (4, .int (nI i))]) hx hb dX3_letHoursPass_20 hl (by decide) rfl (fun ls hl => ?_)
        refine lv_iload_n hx hb dX3_letHoursPass_22 rfl (lv_at hl 4 rfl) ?_
        refine lv_aload_n hx hb dX3_letHoursPass_23 rfl (lv_at hl 2 rfl) ?_
        refine lv_aload_n hx hb dX3_letHoursPass_24 rfl (lv_at hl 1 rfl) ?_
        have hin3 : ∀ w ∈ u_ws RX3 TX3 4, w ∈ wsX3_letHoursPass := by decide +kernel
        have hf9 := hts (.fieldLink RX3 9 "CoracleMakers" "drifts" "[I") (by decide +kernel)
        refine va_get (D := D) (ci := 3) (v := .ref (ac 1)) (C := RX3) (T := TX3) (N := 4) hx hb hts hin3 hown hK hP 0 (ap_l (wf_at (by decide) rfl)) rfl 0 (by decide) hf9 (fun _ h9 => h9) rfl dX3_letHoursPass_25 ?_
        refine lv_iload hx hb dX3_letHoursPass_28 (lv_at hl 0 rfl) ?_
        refine va_iald hx hb hK hP 1 0 (ap_l (wf_at (by decide) rfl)) rfl (hO i hiN).1 dX3_letHoursPass_30 ?_
        refine lv_aload_n hx hb dX3_letHoursPass_31 rfl (lv_at hl 1 rfl) ?_
        have hf13 := hts (.fieldLink RX3 13 "CoracleMakers" "runs" "[I") (by decide +kernel)
        refine va_get (D := D) (ci := 3) (v := .ref (ac 2)) (C := RX3) (T := TX3) (N := 4) hx hb hts hin3 hown hK hP 0 (ap_l (wf_at (by decide) rfl)) rfl 1 (by decide) hf13 (fun _ h9 => h9) rfl dX3_letHoursPass_32 ?_
        refine lv_iload hx hb dX3_letHoursPass_35 (lv_at hl 0 rfl) ?_
        refine va_iald hx hb hK hP 2 0 (ap_l (wf_at (by decide) rfl)) rfl (hO i hiN).1 dX3_letHoursPass_37 ?_
        refine cWI_V (As := [.int (K 1 (ix (hw8 (lsV K V i)))), .int (K 2 (ix (hw8 (lsV K V i))))]) (rest := [.int (lsC K V i)]) ⟨hx, hb, hml, hown, hts⟩ (c_X2_liveHour l D y _ ad (lsV K V i) (K 1 (ix (hw8 (lsV K V i)))) (K 2 (ix (hw8 (lsV K V i)))) (hO i hiN).2.1 (hO i hiN).2.2) (cwV 2 hts gX3_letHoursPass_X2_liveHour rfl rfl rfl (by decide +kernel) ⟨Nat.le_of_ble_eq_true rfl, Nat.le_of_ble_eq_true rfl⟩) hK hN (P_r hP) (by rw [rv_fst]; exact aD_r hD) hS hA (va_recv hK hP (ci := 2) (q0 := (3 + 0)) rfl (ap_r (wf_len 3 _ _) (wf_at (by decide) rfl))) rfl hl.1 rfl (Nat.le_of_ble_eq_true rfl) dX3_letHoursPass_38 ⟨Nat.le_of_ble_eq_true rfl, Nat.le_of_ble_eq_true rfl⟩ (fun H locs hP9 hk9 hS => ?_)
        have hP : va_P D vwCl (cmW y ac n0 r0 K ++ rvW y ad (lsV K V (i + 1))) H := fr_r hP (by rw [cm_fst, rv_fst]; exact hD) hk9 hP9
        refine lv_iadd hx hb dX3_letHoursPass_41 ?_
        refine lv_istore_n (lv' := [(3, .int ((lsC K V i) + (lhC K (lsV K V i)))), (5, .int (hw8 (lsV K V i))), (0, .ref (ac 0)), (1, .ref (ad 0)), (2, .int (nI N)), (4, .int (nI i))]) hx hb dX3_letHoursPass_42 rfl hl (by decide) rfl (fun ls hl => ?_)
        rw [show lsC K V i + lhC K (lsV K V i) = lsC K V (i + 1) from rfl] at hl
        refine lv_iinc (v := nI (i + 1)) (lv' := [(4, .int (nI (i + 1))), (3, .int ((lsC K V i) + (lhC K (lsV K V i)))), (5, .int (hw8 (lsV K V i))), (0, .ref (ac 0)), (1, .ref (ad 0)), (2, .int (nI N))]) hx hb dX3_letHoursPass_43 hl (k := 5) rfl (by first | rfl | exact (nI_1 i)) (by decide) rfl (fun ls hl => ?_)
        refine lv_goto (tgt := 5) hx hb dX3_letHoursPass_46 (by decide) ?_
        exact ih (i + 1) _ _ _ (by omega) (by omega) hP hS (lv_sub hl [3, 4, 5, 1, 0] rfl)
      · have e9i : N = i := by omega
        subst e9i
        refine lv_iload hx hb dX3_letHoursPass_5 (lv_at hl 4 rfl) ?_
        refine lv_iload_n hx hb dX3_letHoursPass_7 rfl (lv_at hl 2 rfl) ?_
        refine lv_icmp_ge (tgt := 49) hx hb dX3_letHoursPass_8 (by decide) (fun _ => ?_) (fun c9 => absurd (nI_le (Nat.le_refl _) hN9) c9)
        refine lv_iload_n hx hb dX3_letHoursPass_49 rfl (lv_at hl 3 rfl) ?_
        subst hQ
        exact W.iret (v := lsC K V N) hx hb hr (fun t ht hW => ⟨⟨_, (), rfl, rfl, bp_at hK hN hP t ht hW⟩, hS.F ht⟩) hS.2.2 dX3_letHoursPass_50
  exact lr11 (N + 1) 0 _ _ ls (by omega) (by omega) hP hS (lv_sub hl [2, 3, 4, 1, 0] rfl)
/-- both goals of a net -/
def glV (V : Nat → Nat → Int32) (n : Nat) (g : Int32) : Nat → Nat → Int32 := vU (vU V (nA V n + 5) 4 g) (nB V n + 5) 4 g
theorem gl_at (V : Nat → Nat → Int32) (n : Nat) (g : Int32) (j k : Nat) (h : ¬ (k = 4 ∧ 5 ≤ j)) : glV V n g j k = V j k := by
  unfold glV
  rw [vU_at, vU_at, if_neg (by omega), if_neg (by omega)]
theorem rvI_gl {V : Nat → Nat → Int32} (n : Nat) (g : Int32) (h : rvI V) : rvI (glV V n g) :=
  rvI_of h (fun k _ => ⟨gl_at V n g _ _ (by omega), gl_at V n g _ _ (by omega)⟩) (fun k _ => ⟨gl_at V n g _ _ (by omega), gl_at V n g _ _ (by omega)⟩)
/-- a writer that leaves the trial River as it may -/
abbrev WrE (l : Launch) (D : va_G) (y : Nat → ClassId) (yM : MethodName) (ws : List Cond) (rm : Room) (av : List Value) (W0 : va_W) (sz : Nat) (F : Int32) (W1 : (Nat → Nat → Int32) → va_W) : Prop := Met l yM ws rm (va_Pc av (Bw D y W0 sz)) (va_Qi (fun r (_ : Nat → Nat → Int32) => r = F) (fun u t => Bp D y (W1 u) t) (aW W0 sz)) 0 0 (aW W0 sz)
abbrev rmX3_caughtWithGoal : Room := { frames := 6, cells := 0, slots := 0, locals := 144 }
set_option maxHeartbeats 4000000 in
set_option maxRecDepth 100000 in
/-- caughtWithGoal(net, goal, hours) -/
theorem c_X3_caughtWithGoal (l : Launch) (D : va_G) (y : Nat → ClassId) (sz : Nat) (ac an ar : Nat → Nat) (K V U : Nat → Nat → Int32) (x g : Int32) (N : Nat) (hN9 : N < 2 ^ 31) (hx0 : vp_in x 3) (hI : rvI V) (hO : ∀ i, i < N → okH K (lsV K (glV V (ix x) g) i)) : WrE l D y yX3_caughtWithGoal wsX3_caughtWithGoal rmX3_caughtWithGoal [.ref (ac 0), .int x, .int g, .int (nI N)] (cmA y ac an ar K V U) sz (lsV K (glV V (ix x) g) N (ix x + 11) 2) (fun u => cmA y ac an ar K V u) := by
  refine mW (fun A => va_Qi (fun r (_ : Nat → Nat → Int32) => r = lsV K (glV V (ix x) g) N (ix x + 11) 2) (fun u t9 => Bp D y (cmA y ac an ar K V u) t9) A) (C := RX3) (cc := cX3_caughtWithGoal) (maxL := 5) (ret := (some .int)) (by decide) rfl rfl (Nat.le_of_ble_eq_true rfl) ?_
  intro p e s m a below meth c ls A Q hQ hsz hx hb hr hts hown hlocks hin hml hP hK hN hD hA hS hl
  have hl : lv_has ls 5 [(0, .ref (ac 0)), (1, .int x), (2, .int g), (3, .int (nI N))] := hl
  rw [cmA_fst] at hD
  refine lv_aload_n hx hb dX3_caughtWithGoal_0 rfl (lv_at hl 0 rfl) ?_
  have hin3 : ∀ w ∈ u_ws RX3 TX3 4, w ∈ wsX3_caughtWithGoal := by decide +kernel
  have hf23 := hts (.fieldLink RX3 23 "CoracleMakers" "trial" "LCoracleMakers$River;") (by decide +kernel)
  refine va_get (D := D) (ci := 3) (v := .ref (ar 0)) (C := RX3) (T := TX3) (N := 4) hx hb hts hin3 hown hK hP 0 (ap_l (wf_at (by decide) rfl)) rfl 3 (by decide) hf23 (fun _ h9 => h9) rfl dX3_caughtWithGoal_1 ?_
  refine lv_aload_n hx hb dX3_caughtWithGoal_4 rfl (lv_at hl 0 rfl) ?_
  have hf19 := hts (.fieldLink RX3 19 "CoracleMakers" "now" "LCoracleMakers$River;") (by decide +kernel)
  refine va_get (D := D) (ci := 3) (v := .ref (an 0)) (C := RX3) (T := TX3) (N := 4) hx hb hts hin3 hown hK hP 0 (ap_l (wf_at (by decide) rfl)) rfl 2 (by decide) hf19 (fun _ h9 => h9) rfl dX3_caughtWithGoal_5 ?_
  refine cWV_V (As := [.ref (an 0)]) (rest := []) ⟨hx, hb, hml, hown, hts⟩ (c_X2_becomeLike l D y _ an ar V U hI) (cwV 1 hts gX3_caughtWithGoal_X2_becomeLike rfl rfl rfl (by decide +kernel) ⟨Nat.le_of_ble_eq_true rfl, Nat.le_of_ble_eq_true rfl⟩) hK hN (P_r hP) (by rw [rv2_fst]; exact aD_r hD) hS hA (va_recv hK hP (ci := 2) (q0 := (3 + (14 + 0))) rfl (ap_r (wf_len 3 _ _) (ap_r (wf_len 14 _ _) (wf_at (by decide) rfl)))) rfl hl.1 rfl (Nat.le_of_ble_eq_true rfl) dX3_caughtWithGoal_8 ⟨Nat.le_of_ble_eq_true rfl, Nat.le_of_ble_eq_true rfl⟩ (fun H locs hP9 hk9 hS => ?_)
  have hP : va_P D vwCl (cmW y ac (an 0) (ar 0) K ++ (rvW y an V ++ rvW y ar V)) H := fr_r hP (by rw [cm_fst, rv2_fst]; exact hD) hk9 hP9
  have hA6 : nA V (ix x) < 6 := in_ix (hI.2 _ (in_ix hx0)).1
  have hB6 : nB V (ix x) < 6 := in_ix (hI.2 _ (in_ix hx0)).2
  refine lv_aload_n hx hb dX3_caughtWithGoal_11 rfl (lv_at hl 0 rfl) ?_
  refine va_get (D := D) (ci := 3) (v := .ref (ar 0)) (C := RX3) (T := TX3) (N := 4) hx hb hts hin3 hown hK hP 0 (ap_l (wf_at (by decide) rfl)) rfl 3 (by decide) hf23 (fun _ h9 => h9) rfl dX3_caughtWithGoal_12 ?_
  refine lv_iload_n hx hb dX3_caughtWithGoal_15 rfl (lv_at hl 1 rfl) ?_
  refine cRR_V (As := [.int x]) (rest := []) ⟨hx, hb, hml, hown, hts⟩ (c_X2_netOf l D y ar V x hx0) (cwV 1 hts gX3_caughtWithGoal_X2_netOf rfl rfl rfl (by decide +kernel) ⟨Nat.le_of_ble_eq_true rfl, Nat.le_of_ble_eq_true rfl⟩) hK hN (P_r (P_r hP)) (va_recv hK hP (ci := 2) (q0 := (3 + (14 + 0))) rfl (ap_r (wf_len 3 _ _) (ap_r (wf_len 14 _ _) (wf_at (by decide) rfl)))) rfl hl.1 rfl (Nat.le_of_ble_eq_true rfl) dX3_caughtWithGoal_16 ⟨Nat.le_of_ble_eq_true rfl, Nat.le_of_ble_eq_true rfl⟩ ?_
  refine lv_astore (lv' := [(4, .ref (ar (ix x + 11))), (0, .ref (ac 0)), (1, .int x), (2, .int g), (3, .int (nI N))]) hx hb dX3_caughtWithGoal_19 hl (by decide) rfl (fun ls hl => ?_)
  refine lv_aload_n hx hb dX3_caughtWithGoal_21 rfl (lv_at hl 1 rfl) ?_
  refine va_get (D := D) (ci := 3) (v := .ref (ar 0)) (C := RX3) (T := TX3) (N := 4) hx hb hts hin3 hown hK hP 0 (ap_l (wf_at (by decide) rfl)) rfl 3 (by decide) hf23 (fun _ h9 => h9) rfl dX3_caughtWithGoal_22 ?_
  refine lv_aload hx hb dX3_caughtWithGoal_25 (lv_at hl 0 rfl) ?_
  have hin1 : ∀ w ∈ u_ws RX1 TX1 3, w ∈ wsX3_caughtWithGoal := by decide +kernel
  have hf168 := hts (.fieldLink RX3 168 "CoracleMakers$Net" "first" "I") (by decide +kernel)
  refine va_get (D := D) (ci := 1) (v := .int (V (ix x + 11) 0)) (C := RX1) (T := TX1) (N := 3) hx hb hts hin1 hown hK hP (3 + (14 + (ix x + 11))) (ap_r (wf_len 3 _ _) (ap_r (wf_len 14 _ _) (rv_ne y ar V (in_ix hx0)))) rfl 0 (by decide) hf168 (fun _ h9 => h9) rfl dX3_caughtWithGoal_27 ?_
  refine cRR_V (As := [.int (V (ix x + 11) 0)]) (rest := []) ⟨hx, hb, hml, hown, hts⟩ (c_X2_coracleOf l D y ar V (V (ix x + 11) 0) (hI.2 _ (in_ix hx0)).1) (cwV 1 hts gX3_caughtWithGoal_X2_coracleOf rfl rfl rfl (by decide +kernel) ⟨Nat.le_of_ble_eq_true rfl, Nat.le_of_ble_eq_true rfl⟩) hK hN (P_r (P_r hP)) (va_recv hK hP (ci := 2) (q0 := (3 + (14 + 0))) rfl (ap_r (wf_len 3 _ _) (ap_r (wf_len 14 _ _) (wf_at (by decide) rfl)))) rfl hl.1 rfl (Nat.le_of_ble_eq_true rfl) dX3_caughtWithGoal_30 ⟨Nat.le_of_ble_eq_true rfl, Nat.le_of_ble_eq_true rfl⟩ ?_
  refine lv_iload_n hx hb dX3_caughtWithGoal_33 rfl (lv_at hl 3 rfl) ?_
  have hin0 : ∀ w ∈ u_ws RX0 TX0 10, w ∈ wsX3_caughtWithGoal := by decide +kernel
  have hf71 := hts (.fieldLink RX3 71 "CoracleMakers$Coracle" "goal" "I") (by decide +kernel)
  obtain ⟨U28, hU28⟩ : ∃ z, z = va_up V (nA V (ix x) + 5) (upd (V (nA V (ix x) + 5)) 4 g) := ⟨_, rfl⟩
  refine va_put (D := D) (ci := 0) (v := .int g) (ty := .int) (C := RX0) (T := TX0) (N := 10) hx hb hts hin0 tyX0 tyX0_ok nmX0 hown hK hP (aD_D hD (show List.map Prod.fst (cmW y ac (an 0) (ar 0) K ++ (rvW y an V ++ rvW y ar V)) = _ from by rw [List.map_append, List.map_append, cm_fst y ac _ _ _, rv_fst y an _, rv_fst y ar _])) hS (3 + (14 + (nA V (ix x) + 5))) (ap_r (wf_len 3 _ _) (ap_r (wf_len 14 _ _) (rv_co y ar V hA6))) rfl 4 (by decide) hf71 (fun _ h9 => h9) rfl (by decide +kernel) rfl rfl (Nat.le_of_ble_eq_true rfl) dX3_caughtWithGoal_34 (fun H locs hP _ hS => ?_)
  have hP : va_P D vwCl (cmW y ac (an 0) (ar 0) K ++ (rvW y an V ++ rvW y ar U28)) H := (by rw [hU28]; exact P_eq (ap_set_r (wf_len 3 _ _) (ap_set_r (wf_len 14 _ _) (rv_setC (upd (V (nA V (ix x) + 5)) 4 g) hA6))) hP)
  refine lv_aload_n hx hb dX3_caughtWithGoal_37 rfl (lv_at hl 1 rfl) ?_
  refine va_get (D := D) (ci := 3) (v := .ref (ar 0)) (C := RX3) (T := TX3) (N := 4) hx hb hts hin3 hown hK hP 0 (ap_l (wf_at (by decide) rfl)) rfl 3 (by decide) hf23 (fun _ h9 => h9) rfl dX3_caughtWithGoal_38 ?_
  refine lv_aload hx hb dX3_caughtWithGoal_41 (lv_at hl 0 rfl) ?_
  have hf173 := hts (.fieldLink RX3 173 "CoracleMakers$Net" "second" "I") (by decide +kernel)
  refine va_get (D := D) (ci := 1) (v := .int (U28 (ix x + 11) 1)) (C := RX1) (T := TX1) (N := 3) hx hb hts hin1 hown hK hP (3 + (14 + (ix x + 11))) (ap_r (wf_len 3 _ _) (ap_r (wf_len 14 _ _) (rv_ne y ar U28 (in_ix hx0)))) rfl 1 (by decide) hf173 (fun _ h9 => h9) rfl dX3_caughtWithGoal_43 ?_
  have e8 : U28 (ix x + 11) 1 = V (ix x + 11) 1 := by rw [hU28]; exact (vU_at V _ 4 g _ _).trans (if_neg (by omega))
  rw [e8]
  refine cRR_V (As := [.int (V (ix x + 11) 1)]) (rest := []) ⟨hx, hb, hml, hown, hts⟩ (c_X2_coracleOf l D y ar U28 (V (ix x + 11) 1) (hI.2 _ (in_ix hx0)).2) (cwV 1 hts gX3_caughtWithGoal_X2_coracleOf rfl rfl rfl (by decide +kernel) ⟨Nat.le_of_ble_eq_true rfl, Nat.le_of_ble_eq_true rfl⟩) hK hN (P_r (P_r hP)) (va_recv hK hP (ci := 2) (q0 := (3 + (14 + 0))) rfl (ap_r (wf_len 3 _ _) (ap_r (wf_len 14 _ _) (wf_at (by decide) rfl)))) rfl hl.1 rfl (Nat.le_of_ble_eq_true rfl) dX3_caughtWithGoal_46 ⟨Nat.le_of_ble_eq_true rfl, Nat.le_of_ble_eq_true rfl⟩ ?_
  refine lv_iload_n hx hb dX3_caughtWithGoal_49 rfl (lv_at hl 3 rfl) ?_
  obtain ⟨U29, hU29⟩ : ∃ z, z = va_up U28 (nB V (ix x) + 5) (upd (U28 (nB V (ix x) + 5)) 4 g) := ⟨_, rfl⟩
  refine va_put (D := D) (ci := 0) (v := .int g) (ty := .int) (C := RX0) (T := TX0) (N := 10) hx hb hts hin0 tyX0 tyX0_ok nmX0 hown hK hP (aD_D hD (show List.map Prod.fst (cmW y ac (an 0) (ar 0) K ++ (rvW y an V ++ rvW y ar U28)) = _ from by rw [List.map_append, List.map_append, cm_fst y ac _ _ _, rv_fst y an _, rv_fst y ar _])) hS (3 + (14 + (nB V (ix x) + 5))) (ap_r (wf_len 3 _ _) (ap_r (wf_len 14 _ _) (rv_co y ar U28 hB6))) rfl 4 (by decide) hf71 (fun _ h9 => h9) rfl (by decide +kernel) rfl rfl (Nat.le_of_ble_eq_true rfl) dX3_caughtWithGoal_50 (fun H locs hP _ hS => ?_)
  have hP : va_P D vwCl (cmW y ac (an 0) (ar 0) K ++ (rvW y an V ++ rvW y ar U29)) H := (by rw [hU29]; exact P_eq (ap_set_r (wf_len 3 _ _) (ap_set_r (wf_len 14 _ _) (rv_setC (upd (U28 (nB V (ix x) + 5)) 4 g) hB6))) hP)
  have e9 : U29 = glV V (ix x) g := by rw [hU29, hU28]; rfl
  rw [e9] at hP
  refine lv_aload_n hx hb dX3_caughtWithGoal_53 rfl (lv_at hl 1 rfl) ?_
  refine lv_aload_n hx hb dX3_caughtWithGoal_54 rfl (lv_at hl 1 rfl) ?_
  refine va_get (D := D) (ci := 3) (v := .ref (ar 0)) (C := RX3) (T := TX3) (N := 4) hx hb hts hin3 hown hK hP 0 (ap_l (wf_at (by decide) rfl)) rfl 3 (by decide) hf23 (fun _ h9 => h9) rfl dX3_caughtWithGoal_55 ?_
  refine lv_iload_n hx hb dX3_caughtWithGoal_58 rfl (lv_at hl 4 rfl) ?_
  refine cWI_V (As := [.ref (ar 0), .int (nI N)]) (rest := []) ⟨hx, hb, hml, hown, hts⟩ (c_X3_letHoursPass l D y _ ac ar (an 0) (ar 0) K (glV V (ix x) g) N hN9 hO) (cwV 2 hts gX3_caughtWithGoal_X3_letHoursPass rfl rfl rfl (by decide +kernel) ⟨Nat.le_of_ble_eq_true rfl, Nat.le_of_ble_eq_true rfl⟩) hK hN (P_xz hP) (by rw [cm2_fst]; exact aD_swap hD) hS hA (va_recv hK hP (ci := 3) (q0 := 0) rfl (ap_l (wf_at (by decide) rfl))) rfl hl.1 rfl (Nat.le_of_ble_eq_true rfl) dX3_caughtWithGoal_59 ⟨Nat.le_of_ble_eq_true rfl, Nat.le_of_ble_eq_true rfl⟩ (fun H locs hP9 hk9 hS => ?_)
  have hP : va_P D vwCl (cmW y ac (an 0) (ar 0) K ++ (rvW y an V ++ rvW y ar (lsV K (glV V (ix x) g) N))) H := fr_xz hP (by rw [cm_fst, rv_fst, rv_fst]; exact hD) (fun q h1 h2 => hk9 q h1 (by unfold aW; rw [List.map_append]; exact h2)) hP9
  refine lv_pop hx hb dX3_caughtWithGoal_62 rfl ?_
  refine lv_aload hx hb dX3_caughtWithGoal_63 (lv_at hl 0 rfl) ?_
  have hf176 := hts (.fieldLink RX3 176 "CoracleMakers$Net" "caught" "I") (by decide +kernel)
  refine va_get (D := D) (ci := 1) (v := .int ((lsV K (glV V (ix x) g) N) (ix x + 11) 2)) (C := RX1) (T := TX1) (N := 3) hx hb hts hin1 hown hK hP (3 + (14 + (ix x + 11))) (ap_r (wf_len 3 _ _) (ap_r (wf_len 14 _ _) (rv_ne y ar (lsV K (glV V (ix x) g) N) (in_ix hx0)))) rfl 2 (by decide) hf176 (fun _ h9 => h9) rfl dX3_caughtWithGoal_65 ?_
  subst hQ
  exact W.iret (v := (lsV K (glV V (ix x) g) N) (ix x + 11) 2) hx hb hr (fun t ht hW => ⟨⟨_, _, rfl, rfl, bp_at hK hN hP t ht hW⟩, hS.F ht⟩) hS.2.2 dX3_caughtWithGoal_68
/-- the mean tar -/
def meF (V : Nat → Nat → Int32) : UInt64 := if V 0 2 = 0 then 0 else FP.ddiv (FP.i2d (smI (fun k => V (k + 5) 5) 6)) (FP.i2d (V 0 2))
