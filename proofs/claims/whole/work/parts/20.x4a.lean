/-! ===== the model: a state's methods ===== -/
abbrev rm8 (x : Int32) : Int32 := x - x / 8 * 8
abbrev rm4 (x : Int32) : Int32 := x - x / 4 * 4
abbrev roM (F U : Nat → Nat → Int32) (k : Nat) : Int32 := F 3 k - U 6 k
abbrev mA (F : Nat → Nat → Int32) (n : Nat) : Nat := ix (F 6 n)
abbrev mB (F : Nat → Nat → Int32) (n : Nat) : Nat := ix (F 7 n)
def mtM (F U : Nat → Nat → Int32) (n : Nat) : Int32 := if ¬ U 7 (mA F n) = 0 then 0 else if ¬ U 7 (mB F n) = 0 then 0 else if U 2 (mA F n) = U 2 (mB F n) then 1 else 0
def caM (F U : Nat → Nat → Int32) (n : Nat) : Int32 := if mtM F U n = 0 then 0 else mn (U 1 (ix (U 2 (mA F n)))) (mn (mn (F 5 (mA F n)) (F 5 (mB F n)) + 2) (roM F U (mA F n) + roM F U (mB F n)))
def gaM (F U : Nat → Nat → Int32) (k : Nat) : Nat → Nat → Int32 := vU U 2 k (mn 15 (U 2 k + F 1 (ix (rm8 (U 0 0)))))
def gbM (F U : Nat → Nat → Int32) (k : Nat) : Int32 := mn (F 5 k) (ab (gaM F U k 3 k - gaM F U k 2 k))
def goM (F U : Nat → Nat → Int32) (k : Nat) : Nat → Nat → Int32 := vU (gaM F U k) 2 k (gaM F U k 2 k + if gaM F U k 3 k ≤ gaM F U k 2 k then -gbM F U k else gbM F U k)
def dsM (F U : Nat → Nat → Int32) (n : Nat) : Int32 := mn (roM F U (mA F n)) (mx ((caM F U n + 1) / 2) (caM F U n - roM F U (mB F n)))
def drM (F U : Nat → Nat → Int32) (n : Nat) : Nat → Nat → Int32 :=
  let U1 := vU U 1 (ix (U 2 (mA F n))) (U 1 (ix (U 2 (mA F n))) - caM F U n)
  let U2 := vU U1 6 (mA F n) (U1 6 (mA F n) + dsM F U n)
  let U3 := vU U2 6 (mB F n) (U2 6 (mB F n) + (caM F U n - dsM F U n))
  vU U3 8 n (U3 8 n + caM F U n)
def lkM (F U : Nat → Nat → Int32) (k : Nat) : Int32 := if F 4 k = 2 then (if U 4 k = 0 then 3 else if 8 ≤ U 4 k then 0 else 2) else if F 4 k = 1 then (if 8 ≤ U 4 k then 0 else 1) else if 1 ≤ U 4 k then 0 else 1
def saM (U : Nat → Nat → Int32) (k : Nat) : Nat → Nat → Int32 := vU U 4 k (mx 0 (U 4 k - 1))
def sbM (F U : Nat → Nat → Int32) (k : Nat) : Nat → Nat → Int32 := vU (saM U k) 5 k (saM U k 5 k + lkM F (saM U k) k)
def soM (F U : Nat → Nat → Int32) (k : Nat) : Nat → Nat → Int32 := if 2 * F 3 k ≤ sbM F U k 5 k then vU (vU (sbM F U k) 7 k 1) 6 k 0 else sbM F U k
def clU (U : Nat → Nat → Int32) : Nat → Nat → Int32 := vU (va_up U 1 (clR (U 1) 0)) 0 3 (U 0 3 + U 1 0 / 2)
def goI (F U : Nat → Nat → Int32) : Nat → (Nat → Nat → Int32) | 0 => U | k + 1 => if goI F U k 7 k = 0 then goM F (goI F U k) k else goI F U k
def drI (F U : Nat → Nat → Int32) : Nat → (Nat → Nat → Int32) | 0 => U | k + 1 => drM F (drI F U k) k
def soI (F U : Nat → Nat → Int32) : Nat → (Nat → Nat → Int32) | 0 => U | k + 1 => if soI F U k 7 k = 0 then soM F (soI F U k) k else soI F U k
theorem goI_y {F U : Nat → Nat → Int32} {k : Nat} (h : goI F U k 7 k = 0) : goM F (goI F U k) k = goI F U (k + 1) := (if_pos h).symm
theorem goI_n {F U : Nat → Nat → Int32} {k : Nat} (h : ¬ goI F U k 7 k = 0) : goI F U k = goI F U (k + 1) := (if_neg h).symm
theorem soI_y {F U : Nat → Nat → Int32} {k : Nat} (h : soI F U k 7 k = 0) : soM F (soI F U k) k = soI F U (k + 1) := (if_pos h).symm
theorem soI_n {F U : Nat → Nat → Int32} {k : Nat} (h : ¬ soI F U k 7 k = 0) : soI F U k = soI F U (k + 1) := (if_neg h).symm
theorem vU_row (V : Nat → Nat → Int32) (r i : Nat) (x : Int32) {j : Nat} (h : ¬ j = r) : vU V r i x j = V j := va_up_ne _ _ h
theorem goM_row (F U : Nat → Nat → Int32) (k : Nat) {j : Nat} (h : ¬ j = 2) : goM F U k j = U j := by
  unfold goM; rw [vU_row _ _ _ _ h]; unfold gaM; rw [vU_row _ _ _ _ h]
theorem goI_row (F U : Nat → Nat → Int32) {j : Nat} (h : ¬ j = 2) : ∀ k, goI F U k j = U j
  | 0 => rfl
  | k + 1 => by
    show (if goI F U k 7 k = 0 then goM F (goI F U k) k else goI F U k) j = U j
    split
    · rw [goM_row _ _ _ h, goI_row F U h k]
    · exact goI_row F U h k
theorem drM_row (F U : Nat → Nat → Int32) (n : Nat) {j : Nat} (h1 : ¬ j = 1) (h6 : ¬ j = 6) (h8 : ¬ j = 8) : drM F U n j = U j := by
  unfold drM
  rw [vU_row _ _ _ _ h8, vU_row _ _ _ _ h6, vU_row _ _ _ _ h6, vU_row _ _ _ _ h1]
theorem drI_row (F U : Nat → Nat → Int32) {j : Nat} (h1 : ¬ j = 1) (h6 : ¬ j = 6) (h8 : ¬ j = 8) : ∀ k, drI F U k j = U j
  | 0 => rfl
  | k + 1 => by
    show drM F (drI F U k) k j = U j
    rw [drM_row _ _ _ h1 h6 h8, drI_row F U h1 h6 h8 k]
theorem soM_row (F U : Nat → Nat → Int32) (k : Nat) {j : Nat} (h4 : ¬ j = 4) (h5 : ¬ j = 5) (h6 : ¬ j = 6) (h7 : ¬ j = 7) : soM F U k j = U j := by
  have e : sbM F U k j = U j := by
    unfold sbM; rw [vU_row _ _ _ _ h5]; unfold saM; rw [vU_row _ _ _ _ h4]
  unfold soM
  split
  · rw [vU_row _ _ _ _ h6, vU_row _ _ _ _ h7, e]
  · exact e
theorem soI_row (F U : Nat → Nat → Int32) {j : Nat} (h4 : ¬ j = 4) (h5 : ¬ j = 5) (h6 : ¬ j = 6) (h7 : ¬ j = 7) : ∀ k, soI F U k j = U j
  | 0 => rfl
  | k + 1 => by
    show (if soI F U k 7 k = 0 then soM F (soI F U k) k else soI F U k) j = U j
    split
    · rw [soM_row _ _ _ h4 h5 h6 h7, soI_row F U h4 h5 h6 h7 k]
    · exact soI_row F U h4 h5 h6 h7 k
theorem clU_0 (U : Nat → Nat → Int32) : clU U 0 0 = U 0 0 := by
  unfold clU; rw [vU_at, if_neg (by omega), va_up_ne _ _ (by omega)]
def uA (F U : Nat → Nat → Int32) : Nat → Nat → Int32 := goI F U (ix (F 0 1))
def uB (F U : Nat → Nat → Int32) : Nat → Nat → Int32 := drI F (uA F U) (ix (F 0 2))
def uC (F U : Nat → Nat → Int32) : Nat → Nat → Int32 := soI F (uB F U) (ix (F 0 1))
def uD (F U : Nat → Nat → Int32) : Nat → Nat → Int32 := if rm4 (uC F U 0 0) = 3 then clU (uC F U) else uC F U
def paM (F U : Nat → Nat → Int32) : Nat → Nat → Int32 :=
  let U5 := vU (uD F U) 1 15 (mn 60 (uD F U 1 15 + F 2 (ix (rm8 (uD F U 0 0)))))
  vU U5 0 0 (U5 0 0 + 1)
theorem uA_0 (F U : Nat → Nat → Int32) : uA F U 0 = U 0 := goI_row F U (by omega) _
theorem uB_0 (F U : Nat → Nat → Int32) : uB F U 0 = U 0 := (drI_row F _ (by omega) (by omega) (by omega) _).trans (uA_0 F U)
theorem uC_0 (F U : Nat → Nat → Int32) : uC F U 0 = U 0 := (soI_row F _ (by omega) (by omega) (by omega) (by omega) _).trans (uB_0 F U)
theorem uD_0 (F U : Nat → Nat → Int32) : uD F U 0 0 = U 0 0 := by
  unfold uD
  split
  · rw [clU_0, uC_0]
  · rw [uC_0]
def psM (F U : Nat → Nat → Int32) : Nat → (Nat → Nat → Int32) | 0 => U | n + 1 => paM F (psM F U n)
/-- what an hour needs -/
def okM (F U : Nat → Nat → Int32) : Prop := vp_in (F 0 1) 7 ∧ vp_in (F 0 2) 4 ∧ (∀ n, n < 3 → vp_in (F 6 n) 6 ∧ vp_in (F 7 n) 6) ∧ vp_in (rm8 (U 0 0)) 8 ∧ ∀ k, k < 6 → vp_in (uA F U 2 k) 16
abbrev flM (U : Nat → Nat → Int32) (k : Nat) : Int32 := if U 7 k = 0 then 1 else 0
def cuM (F U : Nat → Nat → Int32) (x : Int32) : Int32 := if x = 0 then U 0 0 else if x = 1 then U 0 1 else if x = 2 then F 0 3 else if x = 3 then F 0 1 else if x = 4 then smI (flM U) (ix (F 0 1)) else if x = 5 then F 0 2 else if x = 6 then smI (U 6) 6 else if x = 7 then smI (U 1) 16 else if x = 8 then U 0 2 else if x = 9 then U 0 3 else F 8 (ix (x - 10))
abbrev rmX4_room : Room := { frames := 0, cells := 0, slots := 0, locals := 0 }
set_option maxHeartbeats 4000000 in
set_option maxRecDepth 100000 in
/-- room(x) -/
theorem c_X4_room (l : Launch) (D : va_G) (y : Nat → ClassId) (am bs : Nat → Nat) (s0 a0 : Nat) (F U : Nat → Nat → Int32) (x : Int32) (hx0 : vp_in x 6) : RdI l D y yX4_room wsX4_room rmX4_room [.ref (bs 0), .int x] (moW y am s0 a0 F ++ stW y bs (am 0) U) (roM F U (ix x)) := by
  refine mR (C := RX4) (cc := cX4_room) (maxL := 2) (ret := (some .int)) (by decide) rfl rfl (Nat.le_of_ble_eq_true rfl) ?_
  intro p e s m a below meth c ls Q hQ hx hb hr hts hown hlocks hml hP hK hN hl
  have hl : lv_has ls 2 [(0, .ref (bs 0)), (1, .int x)] := hl
  refine lv_aload_n hx hb dX4_room_0 rfl (lv_at hl 0 rfl) ?_
  have hin4 : ∀ w ∈ u_ws RX4 TX4 13, w ∈ wsX4_room := by decide +kernel
  have hf3 := hts (.fieldLink RX4 3 "CoracleMakersModel$State" "this$0" "LCoracleMakersModel;") (by decide +kernel)
  refine va_get (D := D) (ci := 4) (v := .ref (am 0)) (C := RX4) (T := TX4) (N := 13) hx hb hts hin4 hown hK hP (9 + 0) (ap_r (wf_len 9 _ _) (wf_at (by decide) rfl)) rfl 12 (by decide) hf3 (fun _ h9 => h9) rfl dX4_room_1 ?_
  have hin5 : ∀ w ∈ u_ws RX5 TX5 14, w ∈ wsX4_room := by decide +kernel
  have hf60 : (Cond.fieldLinkNest RX4 60 "CoracleMakersModel" "laths" "[I" "CoracleMakersModel").before a s = true := va_Nw.use rfl (hN.1 _ (List.mem_of_getElem? (i := 13) rfl))
  refine va_getN (D := D) (ci := 5) (v := .ref (am 3)) (C := RX5) (T := TX5) (N := 14) hx hb hts hin5 hown hK hP 0 (ap_l (wf_at (by decide) rfl)) rfl 4 (by decide) hf60 (fun _ h9 => h9) rfl dX4_room_4 ?_
  refine lv_iload_n hx hb dX4_room_7 rfl (lv_at hl 1 rfl) ?_
  refine va_iald hx hb hK hP 3 0 (ap_l (wf_at (by decide) rfl)) rfl hx0 dX4_room_8 ?_
  refine lv_aload_n hx hb dX4_room_9 rfl (lv_at hl 0 rfl) ?_
  have hf35 := hts (.fieldLink RX4 35 "CoracleMakersModel$State" "load" "[I") (by decide +kernel)
  refine va_get (D := D) (ci := 4) (v := .ref (bs 6)) (C := RX4) (T := TX4) (N := 13) hx hb hts hin4 hown hK hP (9 + 0) (ap_r (wf_len 9 _ _) (wf_at (by decide) rfl)) rfl 9 (by decide) hf35 (fun _ h9 => h9) rfl dX4_room_10 ?_
  refine lv_iload_n hx hb dX4_room_13 rfl (lv_at hl 1 rfl) ?_
  refine va_iald hx hb hK hP (9 + 6) 0 (ap_r (wf_len 9 _ _) (wf_at (by decide) rfl)) rfl hx0 dX4_room_14 ?_
  refine lv_isub hx hb dX4_room_15 ?_
  subst hQ
  exact W.iret (v := (F 3 (ix x)) - (U 6 (ix x))) hx hb hr (fun t ht hW => ⟨_, rfl, rfl, ht⟩) (fun _ h => by cases h) dX4_room_16
abbrev rmX4_meets : Room := { frames := 0, cells := 0, slots := 0, locals := 0 }
set_option maxHeartbeats 4000000 in
set_option maxRecDepth 100000 in
/-- meets(x) -/
theorem c_X4_meets (l : Launch) (D : va_G) (y : Nat → ClassId) (am bs : Nat → Nat) (s0 a0 : Nat) (F U : Nat → Nat → Int32) (x : Int32) (hx0 : vp_in x 3) (hF : ∀ n, n < 3 → vp_in (F 6 n) 6 ∧ vp_in (F 7 n) 6) : RdI l D y yX4_meets wsX4_meets rmX4_meets [.ref (bs 0), .int x] (moW y am s0 a0 F ++ stW y bs (am 0) U) (mtM F U (ix x)) := by
  refine mR (C := RX4) (cc := cX4_meets) (maxL := 2) (ret := (some .boolean)) (by decide) rfl rfl (Nat.le_of_ble_eq_true rfl) ?_
  intro p e s m a below meth c ls Q hQ hx hb hr hts hown hlocks hml hP hK hN hl
  have hl : lv_has ls 2 [(0, .ref (bs 0)), (1, .int x)] := hl
  refine lv_aload_n hx hb dX4_meets_0 rfl (lv_at hl 0 rfl) ?_
  have hin4 : ∀ w ∈ u_ws RX4 TX4 13, w ∈ wsX4_meets := by decide +kernel
  have hf38 := hts (.fieldLink RX4 38 "CoracleMakersModel$State" "hasSunk" "[Z") (by decide +kernel)
  refine va_get (D := D) (ci := 4) (v := .ref (bs 7)) (C := RX4) (T := TX4) (N := 13) hx hb hts hin4 hown hK hP (9 + 0) (ap_r (wf_len 9 _ _) (wf_at (by decide) rfl)) rfl 10 (by decide) hf38 (fun _ h9 => h9) rfl dX4_meets_1 ?_
  refine lv_aload_n hx hb dX4_meets_4 rfl (lv_at hl 0 rfl) ?_
  have hf3 := hts (.fieldLink RX4 3 "CoracleMakersModel$State" "this$0" "LCoracleMakersModel;") (by decide +kernel)
  refine va_get (D := D) (ci := 4) (v := .ref (am 0)) (C := RX4) (T := TX4) (N := 13) hx hb hts hin4 hown hK hP (9 + 0) (ap_r (wf_len 9 _ _) (wf_at (by decide) rfl)) rfl 12 (by decide) hf3 (fun _ h9 => h9) rfl dX4_meets_5 ?_
  have hin5 : ∀ w ∈ u_ws RX5 TX5 14, w ∈ wsX4_meets := by decide +kernel
  have hf63 : (Cond.fieldLinkNest RX4 63 "CoracleMakersModel" "first" "[I" "CoracleMakersModel").before a s = true := va_Nw.use rfl (hN.1 _ (List.mem_of_getElem? (i := 17) rfl))
  refine va_getN (D := D) (ci := 5) (v := .ref (am 6)) (C := RX5) (T := TX5) (N := 14) hx hb hts hin5 hown hK hP 0 (ap_l (wf_at (by decide) rfl)) rfl 8 (by decide) hf63 (fun _ h9 => h9) rfl dX4_meets_8 ?_
  refine lv_iload_n hx hb dX4_meets_11 rfl (lv_at hl 1 rfl) ?_
  refine va_iald hx hb hK hP 6 0 (ap_l (wf_at (by decide) rfl)) rfl hx0 dX4_meets_12 ?_
  refine va_zald hx hb hK hP (9 + 7) 1 (ap_r (wf_len 9 _ _) (wf_at (by decide) rfl)) rfl (hF _ (in_ix hx0)).1 dX4_meets_13 ?_
  refine lv_if_ne (tgt := 69) hx hb dX4_meets_14 (by decide) (fun c_142 => ?_) (fun c_142 => ?_)
  · refine lv_iconst (v := 0) hx hb dX4_meets_69 (by decide) ?_
    subst hQ
    exact W.zret (v := 0) hx hb hr rfl (fun t ht hW => ⟨_, rfl, (by simp [mtM, c_142]), ht⟩) (fun _ h => by cases h) dX4_meets_70
  · refine lv_aload_n hx hb dX4_meets_17 rfl (lv_at hl 0 rfl) ?_
    refine va_get (D := D) (ci := 4) (v := .ref (bs 7)) (C := RX4) (T := TX4) (N := 13) hx hb hts hin4 hown hK hP (9 + 0) (ap_r (wf_len 9 _ _) (wf_at (by decide) rfl)) rfl 10 (by decide) hf38 (fun _ h9 => h9) rfl dX4_meets_18 ?_
    refine lv_aload_n hx hb dX4_meets_21 rfl (lv_at hl 0 rfl) ?_
    refine va_get (D := D) (ci := 4) (v := .ref (am 0)) (C := RX4) (T := TX4) (N := 13) hx hb hts hin4 hown hK hP (9 + 0) (ap_r (wf_len 9 _ _) (wf_at (by decide) rfl)) rfl 12 (by decide) hf3 (fun _ h9 => h9) rfl dX4_meets_22 ?_
    have hf66 : (Cond.fieldLinkNest RX4 66 "CoracleMakersModel" "second" "[I" "CoracleMakersModel").before a s = true := va_Nw.use rfl (hN.1 _ (List.mem_of_getElem? (i := 18) rfl))
    refine va_getN (D := D) (ci := 5) (v := .ref (am 7)) (C := RX5) (T := TX5) (N := 14) hx hb hts hin5 hown hK hP 0 (ap_l (wf_at (by decide) rfl)) rfl 9 (by decide) hf66 (fun _ h9 => h9) rfl dX4_meets_25 ?_
    refine lv_iload_n hx hb dX4_meets_28 rfl (lv_at hl 1 rfl) ?_
    refine va_iald hx hb hK hP 7 0 (ap_l (wf_at (by decide) rfl)) rfl hx0 dX4_meets_29 ?_
    refine va_zald hx hb hK hP (9 + 7) 1 (ap_r (wf_len 9 _ _) (wf_at (by decide) rfl)) rfl (hF _ (in_ix hx0)).2 dX4_meets_30 ?_
    refine lv_if_ne (tgt := 69) hx hb dX4_meets_31 (by decide) (fun c_143 => ?_) (fun c_143 => ?_)
    · refine lv_iconst (v := 0) hx hb dX4_meets_69 (by decide) ?_
      subst hQ
      exact W.zret (v := 0) hx hb hr rfl (fun t ht hW => ⟨_, rfl, (by simp [mtM, c_142, c_143]), ht⟩) (fun _ h => by cases h) dX4_meets_70
    · refine lv_aload_n hx hb dX4_meets_34 rfl (lv_at hl 0 rfl) ?_
      have hf23 := hts (.fieldLink RX4 23 "CoracleMakersModel$State" "at" "[I") (by decide +kernel)
      refine va_get (D := D) (ci := 4) (v := .ref (bs 2)) (C := RX4) (T := TX4) (N := 13) hx hb hts hin4 hown hK hP (9 + 0) (ap_r (wf_len 9 _ _) (wf_at (by decide) rfl)) rfl 5 (by decide) hf23 (fun _ h9 => h9) rfl dX4_meets_35 ?_
      refine lv_aload_n hx hb dX4_meets_38 rfl (lv_at hl 0 rfl) ?_
      refine va_get (D := D) (ci := 4) (v := .ref (am 0)) (C := RX4) (T := TX4) (N := 13) hx hb hts hin4 hown hK hP (9 + 0) (ap_r (wf_len 9 _ _) (wf_at (by decide) rfl)) rfl 12 (by decide) hf3 (fun _ h9 => h9) rfl dX4_meets_39 ?_
      refine va_getN (D := D) (ci := 5) (v := .ref (am 6)) (C := RX5) (T := TX5) (N := 14) hx hb hts hin5 hown hK hP 0 (ap_l (wf_at (by decide) rfl)) rfl 8 (by decide) hf63 (fun _ h9 => h9) rfl dX4_meets_42 ?_
      refine lv_iload_n hx hb dX4_meets_45 rfl (lv_at hl 1 rfl) ?_
      refine va_iald hx hb hK hP 6 0 (ap_l (wf_at (by decide) rfl)) rfl hx0 dX4_meets_46 ?_
      refine va_iald hx hb hK hP (9 + 2) 0 (ap_r (wf_len 9 _ _) (wf_at (by decide) rfl)) rfl (hF _ (in_ix hx0)).1 dX4_meets_47 ?_
      refine lv_aload_n hx hb dX4_meets_48 rfl (lv_at hl 0 rfl) ?_
      refine va_get (D := D) (ci := 4) (v := .ref (bs 2)) (C := RX4) (T := TX4) (N := 13) hx hb hts hin4 hown hK hP (9 + 0) (ap_r (wf_len 9 _ _) (wf_at (by decide) rfl)) rfl 5 (by decide) hf23 (fun _ h9 => h9) rfl dX4_meets_49 ?_
      refine lv_aload_n hx hb dX4_meets_52 rfl (lv_at hl 0 rfl) ?_
      refine va_get (D := D) (ci := 4) (v := .ref (am 0)) (C := RX4) (T := TX4) (N := 13) hx hb hts hin4 hown hK hP (9 + 0) (ap_r (wf_len 9 _ _) (wf_at (by decide) rfl)) rfl 12 (by decide) hf3 (fun _ h9 => h9) rfl dX4_meets_53 ?_
      refine va_getN (D := D) (ci := 5) (v := .ref (am 7)) (C := RX5) (T := TX5) (N := 14) hx hb hts hin5 hown hK hP 0 (ap_l (wf_at (by decide) rfl)) rfl 9 (by decide) hf66 (fun _ h9 => h9) rfl dX4_meets_56 ?_
      refine lv_iload_n hx hb dX4_meets_59 rfl (lv_at hl 1 rfl) ?_
      refine va_iald hx hb hK hP 7 0 (ap_l (wf_at (by decide) rfl)) rfl hx0 dX4_meets_60 ?_
      refine va_iald hx hb hK hP (9 + 2) 0 (ap_r (wf_len 9 _ _) (wf_at (by decide) rfl)) rfl (hF _ (in_ix hx0)).2 dX4_meets_61 ?_
      refine lv_icmp_ne (tgt := 69) hx hb dX4_meets_62 (by decide) (fun c_144 => ?_) (fun c_144 => ?_)
      · refine lv_iconst (v := 0) hx hb dX4_meets_69 (by decide) ?_
        subst hQ
        exact W.zret (v := 0) hx hb hr rfl (fun t ht hW => ⟨_, rfl, (by simp [mtM, c_142, c_143, c_144]), ht⟩) (fun _ h => by cases h) dX4_meets_70
      · refine lv_iconst (v := 1) hx hb dX4_meets_65 (by decide) ?_
        refine lv_goto (tgt := 70) hx hb dX4_meets_66 (by decide) ?_
        subst hQ
        exact W.zret (v := 1) hx hb hr rfl (fun t ht hW => ⟨_, rfl, (by simp [mtM, c_142, c_143, c_144]), ht⟩) (fun _ h => by cases h) dX4_meets_70
abbrev rmX4_catches : Room := { frames := 1, cells := 0, slots := 0, locals := 24 }
set_option maxHeartbeats 4000000 in
set_option maxRecDepth 100000 in
/-- catches(x) -/
theorem c_X4_catches (l : Launch) (D : va_G) (y : Nat → ClassId) (am bs : Nat → Nat) (s0 a0 : Nat) (F U : Nat → Nat → Int32) (x : Int32) (hx0 : vp_in x 3) (hF : ∀ n, n < 3 → vp_in (F 6 n) 6 ∧ vp_in (F 7 n) 6) (hA9 : ∀ k, k < 6 → vp_in (U 2 k) 16) : RdI l D y yX4_catches wsX4_catches rmX4_catches [.ref (bs 0), .int x] (moW y am s0 a0 F ++ stW y bs (am 0) U) (caM F U (ix x)) := by
  refine mR (C := RX4) (cc := cX4_catches) (maxL := 4) (ret := (some .int)) (by decide) rfl rfl (Nat.le_of_ble_eq_true rfl) ?_
  intro p e s m a below meth c ls Q hQ hx hb hr hts hown hlocks hml hP hK hN hl
  have hl : lv_has ls 4 [(0, .ref (bs 0)), (1, .int x)] := hl
  refine lv_aload_n hx hb dX4_catches_0 rfl (lv_at hl 0 rfl) ?_
  refine lv_iload_n hx hb dX4_catches_1 rfl (lv_at hl 1 rfl) ?_
  refine cRI_V (As := [.int x]) (rest := []) ⟨hx, hb, hml, hown, hts⟩ (c_X4_meets l D y am bs s0 a0 F U x hx0 hF) (cwV 1 hts gX4_catches_X4_meets rfl rfl rfl (by decide +kernel) ⟨Nat.le_of_ble_eq_true rfl, Nat.le_of_ble_eq_true rfl⟩) hK hN hP (va_recv hK hP (ci := 4) (q0 := (9 + 0)) rfl (ap_r (wf_len 9 _ _) (wf_at (by decide) rfl))) rfl hl.1 rfl (Nat.le_of_ble_eq_true rfl) dX4_catches_2 ⟨Nat.le_of_ble_eq_true rfl, Nat.le_of_ble_eq_true rfl⟩ ?_
  refine lv_if_ne (tgt := 10) hx hb dX4_catches_5 (by decide) (fun c_145 => ?_) (fun c_145 => ?_)
  · refine lv_aload_n hx hb dX4_catches_10 rfl (lv_at hl 0 rfl) ?_
    have hin4 : ∀ w ∈ u_ws RX4 TX4 13, w ∈ wsX4_catches := by decide +kernel
    have hf3 := hts (.fieldLink RX4 3 "CoracleMakersModel$State" "this$0" "LCoracleMakersModel;") (by decide +kernel)
    refine va_get (D := D) (ci := 4) (v := .ref (am 0)) (C := RX4) (T := TX4) (N := 13) hx hb hts hin4 hown hK hP (9 + 0) (ap_r (wf_len 9 _ _) (wf_at (by decide) rfl)) rfl 12 (by decide) hf3 (fun _ h9 => h9) rfl dX4_catches_11 ?_
    have hin5 : ∀ w ∈ u_ws RX5 TX5 14, w ∈ wsX4_catches := by decide +kernel
    have hf63 : (Cond.fieldLinkNest RX4 63 "CoracleMakersModel" "first" "[I" "CoracleMakersModel").before a s = true := va_Nw.use rfl (hN.1 _ (List.mem_of_getElem? (i := 17) rfl))
    refine va_getN (D := D) (ci := 5) (v := .ref (am 6)) (C := RX5) (T := TX5) (N := 14) hx hb hts hin5 hown hK hP 0 (ap_l (wf_at (by decide) rfl)) rfl 8 (by decide) hf63 (fun _ h9 => h9) rfl dX4_catches_14 ?_
    refine lv_iload_n hx hb dX4_catches_17 rfl (lv_at hl 1 rfl) ?_
    refine va_iald hx hb hK hP 6 0 (ap_l (wf_at (by decide) rfl)) rfl hx0 dX4_catches_18 ?_
    refine lv_istore_n (lv' := [(2, .int (F 6 (ix x))), (0, .ref (bs 0)), (1, .int x)]) hx hb dX4_catches_19 rfl hl (by decide) rfl (fun ls hl => ?_)
    refine lv_aload_n hx hb dX4_catches_20 rfl (lv_at hl 1 rfl) ?_
    refine va_get (D := D) (ci := 4) (v := .ref (am 0)) (C := RX4) (T := TX4) (N := 13) hx hb hts hin4 hown hK hP (9 + 0) (ap_r (wf_len 9 _ _) (wf_at (by decide) rfl)) rfl 12 (by decide) hf3 (fun _ h9 => h9) rfl dX4_catches_21 ?_
    have hf66 : (Cond.fieldLinkNest RX4 66 "CoracleMakersModel" "second" "[I" "CoracleMakersModel").before a s = true := va_Nw.use rfl (hN.1 _ (List.mem_of_getElem? (i := 18) rfl))
    refine va_getN (D := D) (ci := 5) (v := .ref (am 7)) (C := RX5) (T := TX5) (N := 14) hx hb hts hin5 hown hK hP 0 (ap_l (wf_at (by decide) rfl)) rfl 9 (by decide) hf66 (fun _ h9 => h9) rfl dX4_catches_24 ?_
    refine lv_iload_n hx hb dX4_catches_27 rfl (lv_at hl 2 rfl) ?_
    refine va_iald hx hb hK hP 7 0 (ap_l (wf_at (by decide) rfl)) rfl hx0 dX4_catches_28 ?_
    refine lv_istore_n (lv' := [(3, .int (F 7 (ix x))), (2, .int (F 6 (ix x))), (0, .ref (bs 0)), (1, .int x)]) hx hb dX4_catches_29 rfl hl (by decide) rfl (fun ls hl => ?_)
    refine lv_aload_n hx hb dX4_catches_30 rfl (lv_at hl 2 rfl) ?_
    have hf19 := hts (.fieldLink RX4 19 "CoracleMakersModel$State" "salmon" "[I") (by decide +kernel)
    refine va_get (D := D) (ci := 4) (v := .ref (bs 1)) (C := RX4) (T := TX4) (N := 13) hx hb hts hin4 hown hK hP (9 + 0) (ap_r (wf_len 9 _ _) (wf_at (by decide) rfl)) rfl 4 (by decide) hf19 (fun _ h9 => h9) rfl dX4_catches_31 ?_
    refine lv_aload_n hx hb dX4_catches_34 rfl (lv_at hl 2 rfl) ?_
    have hf23 := hts (.fieldLink RX4 23 "CoracleMakersModel$State" "at" "[I") (by decide +kernel)
    refine va_get (D := D) (ci := 4) (v := .ref (bs 2)) (C := RX4) (T := TX4) (N := 13) hx hb hts hin4 hown hK hP (9 + 0) (ap_r (wf_len 9 _ _) (wf_at (by decide) rfl)) rfl 5 (by decide) hf23 (fun _ h9 => h9) rfl dX4_catches_35 ?_
    refine lv_iload_n hx hb dX4_catches_38 rfl (lv_at hl 1 rfl) ?_
    refine va_iald hx hb hK hP (9 + 2) 0 (ap_r (wf_len 9 _ _) (wf_at (by decide) rfl)) rfl (hF _ (in_ix hx0)).1 dX4_catches_39 ?_
    refine va_iald hx hb hK hP (9 + 1) 0 (ap_r (wf_len 9 _ _) (wf_at (by decide) rfl)) rfl (hA9 _ (in_ix (hF _ (in_ix hx0)).1)) dX4_catches_40 ?_
    refine lv_aload_n hx hb dX4_catches_41 rfl (lv_at hl 2 rfl) ?_
    refine va_get (D := D) (ci := 4) (v := .ref (am 0)) (C := RX4) (T := TX4) (N := 13) hx hb hts hin4 hown hK hP (9 + 0) (ap_r (wf_len 9 _ _) (wf_at (by decide) rfl)) rfl 12 (by decide) hf3 (fun _ h9 => h9) rfl dX4_catches_42 ?_
    have hf73 : (Cond.fieldLinkNest RX4 73 "CoracleMakersModel" "skill" "[I" "CoracleMakersModel").before a s = true := va_Nw.use rfl (hN.1 _ (List.mem_of_getElem? (i := 15) rfl))
    refine va_getN (D := D) (ci := 5) (v := .ref (am 5)) (C := RX5) (T := TX5) (N := 14) hx hb hts hin5 hown hK hP 0 (ap_l (wf_at (by decide) rfl)) rfl 6 (by decide) hf73 (fun _ h9 => h9) rfl dX4_catches_45 ?_
    refine lv_iload_n hx hb dX4_catches_48 rfl (lv_at hl 1 rfl) ?_
    refine va_iald hx hb hK hP 5 0 (ap_l (wf_at (by decide) rfl)) rfl (hF _ (in_ix hx0)).1 dX4_catches_49 ?_
    refine lv_aload_n hx hb dX4_catches_50 rfl (lv_at hl 2 rfl) ?_
    refine va_get (D := D) (ci := 4) (v := .ref (am 0)) (C := RX4) (T := TX4) (N := 13) hx hb hts hin4 hown hK hP (9 + 0) (ap_r (wf_len 9 _ _) (wf_at (by decide) rfl)) rfl 12 (by decide) hf3 (fun _ h9 => h9) rfl dX4_catches_51 ?_
    refine va_getN (D := D) (ci := 5) (v := .ref (am 5)) (C := RX5) (T := TX5) (N := 14) hx hb hts hin5 hown hK hP 0 (ap_l (wf_at (by decide) rfl)) rfl 6 (by decide) hf73 (fun _ h9 => h9) rfl dX4_catches_54 ?_
    refine lv_iload_n hx hb dX4_catches_57 rfl (lv_at hl 0 rfl) ?_
    refine va_iald hx hb hK hP 5 0 (ap_l (wf_at (by decide) rfl)) rfl (hF _ (in_ix hx0)).2 dX4_catches_58 ?_
    refine va_mmin hx hb (hml.trans hl.1.symm) hown (hts (.methodLink RX4 76 Lib.Math.min.name) (by decide +kernel)) (hts (.static Lib.Math.min.name) (by decide +kernel)) (hts (.initialized "java/lang/Math") (by decide +kernel)) (hts (.code Lib.Math.min.name Lib.Math.min.code 2 (some .int)) (by decide +kernel)) (Nat.le_of_ble_eq_true rfl) (Nat.le_of_ble_eq_true rfl) (Nat.le_of_ble_eq_true rfl) (Nat.le_of_ble_eq_true rfl) dX4_catches_59 ?_
    refine W.eq (g2 := F0 m 62 ls (.int (mn (F 5 (ix (F 6 (ix x)))) (F 5 (ix (F 7 (ix x))))) :: .int (U 1 (ix (U 2 (ix (F 6 (ix x)))))) :: [])) rfl ?_
    refine lv_iconst (v := 2) hx hb dX4_catches_62 (by decide) ?_
    refine lv_iadd hx hb dX4_catches_63 ?_
    refine lv_aload_n hx hb dX4_catches_64 rfl (lv_at hl 2 rfl) ?_
    refine lv_iload_n hx hb dX4_catches_65 rfl (lv_at hl 1 rfl) ?_
    refine cRI_V (As := [.int (F 6 (ix x))]) (rest := [.int ((mn (F 5 (ix (F 6 (ix x)))) (F 5 (ix (F 7 (ix x))))) + 2), .int (U 1 (ix (U 2 (ix (F 6 (ix x))))))]) ⟨hx, hb, hml, hown, hts⟩ (c_X4_room l D y am bs s0 a0 F U (F 6 (ix x)) (hF _ (in_ix hx0)).1) (cwV 1 hts gX4_catches_X4_room rfl rfl rfl (by decide +kernel) ⟨Nat.le_of_ble_eq_true rfl, Nat.le_of_ble_eq_true rfl⟩) hK hN hP (va_recv hK hP (ci := 4) (q0 := (9 + 0)) rfl (ap_r (wf_len 9 _ _) (wf_at (by decide) rfl))) rfl hl.1 rfl (Nat.le_of_ble_eq_true rfl) dX4_catches_66 ⟨Nat.le_of_ble_eq_true rfl, Nat.le_of_ble_eq_true rfl⟩ ?_
    refine lv_aload_n hx hb dX4_catches_69 rfl (lv_at hl 2 rfl) ?_
    refine lv_iload_n hx hb dX4_catches_70 rfl (lv_at hl 0 rfl) ?_
    refine cRI_V (As := [.int (F 7 (ix x))]) (rest := [.int (roM F U (ix (F 6 (ix x)))), .int ((mn (F 5 (ix (F 6 (ix x)))) (F 5 (ix (F 7 (ix x))))) + 2), .int (U 1 (ix (U 2 (ix (F 6 (ix x))))))]) ⟨hx, hb, hml, hown, hts⟩ (c_X4_room l D y am bs s0 a0 F U (F 7 (ix x)) (hF _ (in_ix hx0)).2) (cwV 1 hts gX4_catches_X4_room rfl rfl rfl (by decide +kernel) ⟨Nat.le_of_ble_eq_true rfl, Nat.le_of_ble_eq_true rfl⟩) hK hN hP (va_recv hK hP (ci := 4) (q0 := (9 + 0)) rfl (ap_r (wf_len 9 _ _) (wf_at (by decide) rfl))) rfl hl.1 rfl (Nat.le_of_ble_eq_true rfl) dX4_catches_71 ⟨Nat.le_of_ble_eq_true rfl, Nat.le_of_ble_eq_true rfl⟩ ?_
    refine lv_iadd hx hb dX4_catches_74 ?_
    refine va_mmin hx hb (hml.trans hl.1.symm) hown (hts (.methodLink RX4 76 Lib.Math.min.name) (by decide +kernel)) (hts (.static Lib.Math.min.name) (by decide +kernel)) (hts (.initialized "java/lang/Math") (by decide +kernel)) (hts (.code Lib.Math.min.name Lib.Math.min.code 2 (some .int)) (by decide +kernel)) (Nat.le_of_ble_eq_true rfl) (Nat.le_of_ble_eq_true rfl) (Nat.le_of_ble_eq_true rfl) (Nat.le_of_ble_eq_true rfl) dX4_catches_75 ?_
    refine W.eq (g2 := F0 m 78 ls (.int (mn ((mn (F 5 (ix (F 6 (ix x)))) (F 5 (ix (F 7 (ix x))))) + 2) ((roM F U (ix (F 6 (ix x)))) + (roM F U (ix (F 7 (ix x)))))) :: .int (U 1 (ix (U 2 (ix (F 6 (ix x)))))) :: [])) rfl ?_
    refine va_mmin hx hb (hml.trans hl.1.symm) hown (hts (.methodLink RX4 76 Lib.Math.min.name) (by decide +kernel)) (hts (.static Lib.Math.min.name) (by decide +kernel)) (hts (.initialized "java/lang/Math") (by decide +kernel)) (hts (.code Lib.Math.min.name Lib.Math.min.code 2 (some .int)) (by decide +kernel)) (Nat.le_of_ble_eq_true rfl) (Nat.le_of_ble_eq_true rfl) (Nat.le_of_ble_eq_true rfl) (Nat.le_of_ble_eq_true rfl) dX4_catches_78 ?_
    refine W.eq (g2 := F0 m 81 ls (.int (mn (U 1 (ix (U 2 (ix (F 6 (ix x)))))) (mn ((mn (F 5 (ix (F 6 (ix x)))) (F 5 (ix (F 7 (ix x))))) + 2) ((roM F U (ix (F 6 (ix x)))) + (roM F U (ix (F 7 (ix x))))))) :: [])) rfl ?_
    subst hQ
    exact W.iret (v := mn (U 1 (ix (U 2 (ix (F 6 (ix x)))))) (mn ((mn (F 5 (ix (F 6 (ix x)))) (F 5 (ix (F 7 (ix x))))) + 2) ((roM F U (ix (F 6 (ix x)))) + (roM F U (ix (F 7 (ix x))))))) hx hb hr (fun t ht hW => ⟨_, rfl, (by unfold caM; rw [if_neg c_145]), ht⟩) (fun _ h => by cases h) dX4_catches_81
  · refine lv_iconst (v := 0) hx hb dX4_catches_8 (by decide) ?_
    subst hQ
    exact W.iret (v := 0) hx hb hr (fun t ht hW => ⟨_, rfl, (by unfold caM; rw [if_pos c_145]), ht⟩) (fun _ h => by cases h) dX4_catches_9
abbrev rmX4_leak : Room := { frames := 0, cells := 0, slots := 0, locals := 0 }
set_option maxHeartbeats 4000000 in
set_option maxRecDepth 100000 in
/-- leak(x) -/
theorem c_X4_leak (l : Launch) (D : va_G) (y : Nat → ClassId) (am bs : Nat → Nat) (s0 a0 : Nat) (F U : Nat → Nat → Int32) (x : Int32) (hx0 : vp_in x 6) : RdI l D y yX4_leak wsX4_leak rmX4_leak [.ref (bs 0), .int x] (moW y am s0 a0 F ++ stW y bs (am 0) U) (lkM F U (ix x)) := by
  refine mR (C := RX4) (cc := cX4_leak) (maxL := 2) (ret := (some .int)) (by decide) rfl rfl (Nat.le_of_ble_eq_true rfl) ?_
  intro p e s m a below meth c ls Q hQ hx hb hr hts hown hlocks hml hP hK hN hl
  have hl : lv_has ls 2 [(0, .ref (bs 0)), (1, .int x)] := hl
  refine lv_aload_n hx hb dX4_leak_0 rfl (lv_at hl 0 rfl) ?_
  have hin4 : ∀ w ∈ u_ws RX4 TX4 13, w ∈ wsX4_leak := by decide +kernel
  have hf3 := hts (.fieldLink RX4 3 "CoracleMakersModel$State" "this$0" "LCoracleMakersModel;") (by decide +kernel)
  refine va_get (D := D) (ci := 4) (v := .ref (am 0)) (C := RX4) (T := TX4) (N := 13) hx hb hts hin4 hown hK hP (9 + 0) (ap_r (wf_len 9 _ _) (wf_at (by decide) rfl)) rfl 12 (by decide) hf3 (fun _ h9 => h9) rfl dX4_leak_1 ?_
  have hin5 : ∀ w ∈ u_ws RX5 TX5 14, w ∈ wsX4_leak := by decide +kernel
  have hf98 : (Cond.fieldLinkNest RX4 98 "CoracleMakersModel" "hide" "[I" "CoracleMakersModel").before a s = true := va_Nw.use rfl (hN.1 _ (List.mem_of_getElem? (i := 14) rfl))
  refine va_getN (D := D) (ci := 5) (v := .ref (am 4)) (C := RX5) (T := TX5) (N := 14) hx hb hts hin5 hown hK hP 0 (ap_l (wf_at (by decide) rfl)) rfl 5 (by decide) hf98 (fun _ h9 => h9) rfl dX4_leak_4 ?_
  refine lv_iload_n hx hb dX4_leak_7 rfl (lv_at hl 1 rfl) ?_
  refine va_iald hx hb hK hP 4 0 (ap_l (wf_at (by decide) rfl)) rfl hx0 dX4_leak_8 ?_
  refine lv_iconst (v := 2) hx hb dX4_leak_9 (by decide) ?_
  refine lv_icmp_ne (tgt := 43) hx hb dX4_leak_10 (by decide) (fun c_146 => ?_) (fun c_146 => ?_)
  · refine lv_aload_n hx hb dX4_leak_43 rfl (lv_at hl 0 rfl) ?_
    have hf29 := hts (.fieldLink RX4 29 "CoracleMakersModel$State" "tar" "[I") (by decide +kernel)
    refine va_get (D := D) (ci := 4) (v := .ref (bs 4)) (C := RX4) (T := TX4) (N := 13) hx hb hts hin4 hown hK hP (9 + 0) (ap_r (wf_len 9 _ _) (wf_at (by decide) rfl)) rfl 7 (by decide) hf29 (fun _ h9 => h9) rfl dX4_leak_44 ?_
    refine lv_iload_n hx hb dX4_leak_47 rfl (lv_at hl 1 rfl) ?_
    refine va_iald hx hb hK hP (9 + 4) 0 (ap_r (wf_len 9 _ _) (wf_at (by decide) rfl)) rfl hx0 dX4_leak_48 ?_
    refine lv_aload_n hx hb dX4_leak_49 rfl (lv_at hl 0 rfl) ?_
    refine va_get (D := D) (ci := 4) (v := .ref (am 0)) (C := RX4) (T := TX4) (N := 13) hx hb hts hin4 hown hK hP (9 + 0) (ap_r (wf_len 9 _ _) (wf_at (by decide) rfl)) rfl 12 (by decide) hf3 (fun _ h9 => h9) rfl dX4_leak_50 ?_
    refine va_getN (D := D) (ci := 5) (v := .ref (am 4)) (C := RX5) (T := TX5) (N := 14) hx hb hts hin5 hown hK hP 0 (ap_l (wf_at (by decide) rfl)) rfl 5 (by decide) hf98 (fun _ h9 => h9) rfl dX4_leak_53 ?_
    refine lv_iload_n hx hb dX4_leak_56 rfl (lv_at hl 1 rfl) ?_
    refine va_iald hx hb hK hP 4 0 (ap_l (wf_at (by decide) rfl)) rfl hx0 dX4_leak_57 ?_
    refine lv_iconst (v := 1) hx hb dX4_leak_58 (by decide) ?_
    refine lv_icmp_ne (tgt := 67) hx hb dX4_leak_59 (by decide) (fun c_147 => ?_) (fun c_147 => ?_)
    · refine lv_iconst (v := 1) hx hb dX4_leak_67 (by decide) ?_
      refine lv_icmp_ge (tgt := 75) hx hb dX4_leak_68 (by decide) (fun c_148 => ?_) (fun c_148 => ?_)
      · refine lv_iconst (v := 0) hx hb dX4_leak_75 (by decide) ?_
        subst hQ
        exact W.iret (v := 0) hx hb hr (fun t ht hW => ⟨_, rfl, (by simp [lkM, c_146, c_147, c_148]), ht⟩) (fun _ h => by cases h) dX4_leak_76
      · refine lv_iconst (v := 1) hx hb dX4_leak_71 (by decide) ?_
        refine lv_goto (tgt := 76) hx hb dX4_leak_72 (by decide) ?_
        subst hQ
        exact W.iret (v := 1) hx hb hr (fun t ht hW => ⟨_, rfl, (by simp [lkM, c_146, c_147, c_148]), ht⟩) (fun _ h => by cases h) dX4_leak_76
    · refine lv_bipush (v := 8) hx hb dX4_leak_62 (by decide) ?_
      refine lv_goto (tgt := 68) hx hb dX4_leak_64 (by decide) ?_
      refine lv_icmp_ge (tgt := 75) hx hb dX4_leak_68 (by decide) (fun c_149 => ?_) (fun c_149 => ?_)
      · refine lv_iconst (v := 0) hx hb dX4_leak_75 (by decide) ?_
        subst hQ
        exact W.iret (v := 0) hx hb hr (fun t ht hW => ⟨_, rfl, (by simp [lkM, c_146, c_147, c_149]), ht⟩) (fun _ h => by cases h) dX4_leak_76
      · refine lv_iconst (v := 1) hx hb dX4_leak_71 (by decide) ?_
        refine lv_goto (tgt := 76) hx hb dX4_leak_72 (by decide) ?_
        subst hQ
        exact W.iret (v := 1) hx hb hr (fun t ht hW => ⟨_, rfl, (by simp [lkM, c_146, c_147, c_149]), ht⟩) (fun _ h => by cases h) dX4_leak_76
  · refine lv_aload_n hx hb dX4_leak_13 rfl (lv_at hl 0 rfl) ?_
    have hf29 := hts (.fieldLink RX4 29 "CoracleMakersModel$State" "tar" "[I") (by decide +kernel)
    refine va_get (D := D) (ci := 4) (v := .ref (bs 4)) (C := RX4) (T := TX4) (N := 13) hx hb hts hin4 hown hK hP (9 + 0) (ap_r (wf_len 9 _ _) (wf_at (by decide) rfl)) rfl 7 (by decide) hf29 (fun _ h9 => h9) rfl dX4_leak_14 ?_
    refine lv_iload_n hx hb dX4_leak_17 rfl (lv_at hl 1 rfl) ?_
    refine va_iald hx hb hK hP (9 + 4) 0 (ap_r (wf_len 9 _ _) (wf_at (by decide) rfl)) rfl hx0 dX4_leak_18 ?_
    refine lv_if_ne (tgt := 26) hx hb dX4_leak_19 (by decide) (fun c_150 => ?_) (fun c_150 => ?_)
    · refine lv_aload_n hx hb dX4_leak_26 rfl (lv_at hl 0 rfl) ?_
      refine va_get (D := D) (ci := 4) (v := .ref (bs 4)) (C := RX4) (T := TX4) (N := 13) hx hb hts hin4 hown hK hP (9 + 0) (ap_r (wf_len 9 _ _) (wf_at (by decide) rfl)) rfl 7 (by decide) hf29 (fun _ h9 => h9) rfl dX4_leak_27 ?_
      refine lv_iload_n hx hb dX4_leak_30 rfl (lv_at hl 1 rfl) ?_
      refine va_iald hx hb hK hP (9 + 4) 0 (ap_r (wf_len 9 _ _) (wf_at (by decide) rfl)) rfl hx0 dX4_leak_31 ?_
      refine lv_bipush (v := 8) hx hb dX4_leak_32 (by decide) ?_
      refine lv_icmp_ge (tgt := 41) hx hb dX4_leak_34 (by decide) (fun c_151 => ?_) (fun c_151 => ?_)
      · refine lv_iconst (v := 0) hx hb dX4_leak_41 (by decide) ?_
        subst hQ
        exact W.iret (v := 0) hx hb hr (fun t ht hW => ⟨_, rfl, (by simp [lkM, c_146, c_150, c_151]), ht⟩) (fun _ h => by cases h) dX4_leak_42
      · refine lv_iconst (v := 2) hx hb dX4_leak_37 (by decide) ?_
        refine lv_goto (tgt := 42) hx hb dX4_leak_38 (by decide) ?_
        subst hQ
        exact W.iret (v := 2) hx hb hr (fun t ht hW => ⟨_, rfl, (by simp [lkM, c_146, c_150, c_151]), ht⟩) (fun _ h => by cases h) dX4_leak_42
    · refine lv_iconst (v := 3) hx hb dX4_leak_22 (by decide) ?_
      refine lv_goto (tgt := 42) hx hb dX4_leak_23 (by decide) ?_
      subst hQ
      exact W.iret (v := 3) hx hb hr (fun t ht hW => ⟨_, rfl, (by simp [lkM, c_146, c_150]), ht⟩) (fun _ h => by cases h) dX4_leak_42
abbrev rmX4_go : Room := { frames := 1, cells := 0, slots := 0, locals := 24 }
set_option maxHeartbeats 4000000 in
set_option maxRecDepth 100000 in
/-- go(x) -/
theorem c_X4_go (l : Launch) (D : va_G) (y : Nat → ClassId) (sz : Nat) (am bs : Nat → Nat) (s0 a0 : Nat) (F U : Nat → Nat → Int32) (x : Int32) (hx0 : vp_in x 6) (hH : vp_in (rm8 (U 0 0)) 8) : WrV l D y yX4_go wsX4_go rmX4_go [.ref (bs 0), .int x] (moW y am s0 a0 F ++ stW y bs (am 0) U) sz (moW y am s0 a0 F ++ stW y bs (am 0) (goM F U (ix x))) := by
  refine mW (fun A => va_Qv (fun (_ : Unit) => True) (fun _ t9 => Bp D y (moW y am s0 a0 F ++ stW y bs (am 0) (goM F U (ix x))) t9) A) (C := RX4) (cc := cX4_go) (maxL := 3) (ret := none) (by decide) rfl rfl (Nat.le_of_ble_eq_true rfl) ?_
  intro p e s m a below meth c ls A Q hQ hsz hx hb hr hts hown hlocks hin hml hP hK hN hD hA hS hl
  have hl : lv_has ls 3 [(0, .ref (bs 0)), (1, .int x)] := hl
  rw [mo2_fst] at hD
  refine lv_aload_n hx hb dX4_go_0 rfl (lv_at hl 0 rfl) ?_
  have hin4 : ∀ w ∈ u_ws RX4 TX4 13, w ∈ wsX4_go := by decide +kernel
  have hf23 := hts (.fieldLink RX4 23 "CoracleMakersModel$State" "at" "[I") (by decide +kernel)
  refine va_get (D := D) (ci := 4) (v := .ref (bs 2)) (C := RX4) (T := TX4) (N := 13) hx hb hts hin4 hown hK hP (9 + 0) (ap_r (wf_len 9 _ _) (wf_at (by decide) rfl)) rfl 5 (by decide) hf23 (fun _ h9 => h9) rfl dX4_go_1 ?_
  refine lv_iload_n hx hb dX4_go_4 rfl (lv_at hl 1 rfl) ?_
  refine lv_bipush (v := 15) hx hb dX4_go_5 (by decide) ?_
  refine lv_aload_n hx hb dX4_go_7 rfl (lv_at hl 0 rfl) ?_
  refine va_get (D := D) (ci := 4) (v := .ref (bs 2)) (C := RX4) (T := TX4) (N := 13) hx hb hts hin4 hown hK hP (9 + 0) (ap_r (wf_len 9 _ _) (wf_at (by decide) rfl)) rfl 5 (by decide) hf23 (fun _ h9 => h9) rfl dX4_go_8 ?_
  refine lv_iload_n hx hb dX4_go_11 rfl (lv_at hl 1 rfl) ?_
  refine va_iald hx hb hK hP (9 + 2) 0 (ap_r (wf_len 9 _ _) (wf_at (by decide) rfl)) rfl hx0 dX4_go_12 ?_
  refine lv_aload_n hx hb dX4_go_13 rfl (lv_at hl 0 rfl) ?_
  have hf3 := hts (.fieldLink RX4 3 "CoracleMakersModel$State" "this$0" "LCoracleMakersModel;") (by decide +kernel)
  refine va_get (D := D) (ci := 4) (v := .ref (am 0)) (C := RX4) (T := TX4) (N := 13) hx hb hts hin4 hown hK hP (9 + 0) (ap_r (wf_len 9 _ _) (wf_at (by decide) rfl)) rfl 12 (by decide) hf3 (fun _ h9 => h9) rfl dX4_go_14 ?_
  have hin5 : ∀ w ∈ u_ws RX5 TX5 14, w ∈ wsX4_go := by decide +kernel
  have hf86 : (Cond.fieldLinkNest RX4 86 "CoracleMakersModel" "drift" "[I" "CoracleMakersModel").before a s = true := va_Nw.use rfl (hN.1 _ (List.mem_of_getElem? (i := 10) rfl))
  refine va_getN (D := D) (ci := 5) (v := .ref (am 1)) (C := RX5) (T := TX5) (N := 14) hx hb hts hin5 hown hK hP 0 (ap_l (wf_at (by decide) rfl)) rfl 1 (by decide) hf86 (fun _ h9 => h9) rfl dX4_go_17 ?_
  refine lv_aload_n hx hb dX4_go_20 rfl (lv_at hl 0 rfl) ?_
  have hf45 := hts (.fieldLink RX4 45 "CoracleMakersModel$State" "hour" "I") (by decide +kernel)
  refine va_get (D := D) (ci := 4) (v := .int (U 0 0)) (C := RX4) (T := TX4) (N := 13) hx hb hts hin4 hown hK hP (9 + 0) (ap_r (wf_len 9 _ _) (wf_at (by decide) rfl)) rfl 0 (by decide) hf45 (fun _ h9 => h9) rfl dX4_go_21 ?_
  refine lv_bipush (v := 8) hx hb dX4_go_24 (by decide) ?_
  refine lv_irem hx hb dX4_go_26 (by decide) ?_
  refine va_iald hx hb hK hP 1 0 (ap_l (wf_at (by decide) rfl)) rfl hH dX4_go_27 ?_
  refine lv_iadd hx hb dX4_go_28 ?_
  refine va_mmin hx hb (hml.trans hl.1.symm) hown (hts (.methodLink RX4 76 Lib.Math.min.name) (by decide +kernel)) (hts (.static Lib.Math.min.name) (by decide +kernel)) (hts (.initialized "java/lang/Math") (by decide +kernel)) (hts (.code Lib.Math.min.name Lib.Math.min.code 2 (some .int)) (by decide +kernel)) (Nat.le_of_ble_eq_true rfl) (Nat.le_of_ble_eq_true rfl) (Nat.le_of_ble_eq_true rfl) (Nat.le_of_ble_eq_true rfl) dX4_go_29 ?_
  refine W.eq (g2 := F0 m 32 ls (.int (mn 15 ((U 2 (ix x)) + (F 1 (ix ((U 0 0) - (U 0 0) / 8 * 8))))) :: .int x :: .ref (bs 2) :: [])) rfl ?_
  refine lv_topi (fun x_152 ex_152 => ?_)
  obtain ⟨U44, hU44⟩ : ∃ z, z = va_up U 2 (upd (U 2) (ix x) x_152) := ⟨_, rfl⟩
  refine va_iast hx hb hK hP (aD_D hD (show List.map Prod.fst (moW y am s0 a0 F ++ stW y bs (am 0) U) = _ from by rw [List.map_append, mo_fst y am _ _ _, st_fst y bs _ _])) hS (9 + 2) 0 (ap_r (wf_len 9 _ _) (wf_at (by decide) rfl)) rfl hx0 dX4_go_32 (fun H locs hP _ hS => ?_)
  have hP : va_P D vwCl (moW y am s0 a0 F ++ stW y bs (am 0) U44) H := (by rw [hU44]; exact P_eq (ap_set_r (wf_len 9 _ _) (st_set (k := 2) (upd (U 2) (ix x) x_152) (by decide) rfl)) hP)
  refine lv_aload_n hx hb dX4_go_33 rfl (lv_at hl 0 rfl) ?_
  refine va_get (D := D) (ci := 4) (v := .ref (am 0)) (C := RX4) (T := TX4) (N := 13) hx hb hts hin4 hown hK hP (9 + 0) (ap_r (wf_len 9 _ _) (wf_at (by decide) rfl)) rfl 12 (by decide) hf3 (fun _ h9 => h9) rfl dX4_go_34 ?_
  have hf73 : (Cond.fieldLinkNest RX4 73 "CoracleMakersModel" "skill" "[I" "CoracleMakersModel").before a s = true := va_Nw.use rfl (hN.1 _ (List.mem_of_getElem? (i := 15) rfl))
  refine va_getN (D := D) (ci := 5) (v := .ref (am 5)) (C := RX5) (T := TX5) (N := 14) hx hb hts hin5 hown hK hP 0 (ap_l (wf_at (by decide) rfl)) rfl 6 (by decide) hf73 (fun _ h9 => h9) rfl dX4_go_37 ?_
  refine lv_iload_n hx hb dX4_go_40 rfl (lv_at hl 1 rfl) ?_
  refine va_iald hx hb hK hP 5 0 (ap_l (wf_at (by decide) rfl)) rfl hx0 dX4_go_41 ?_
  refine lv_aload_n hx hb dX4_go_42 rfl (lv_at hl 0 rfl) ?_
  have hf26 := hts (.fieldLink RX4 26 "CoracleMakersModel$State" "goal" "[I") (by decide +kernel)
  refine va_get (D := D) (ci := 4) (v := .ref (bs 3)) (C := RX4) (T := TX4) (N := 13) hx hb hts hin4 hown hK hP (9 + 0) (ap_r (wf_len 9 _ _) (wf_at (by decide) rfl)) rfl 6 (by decide) hf26 (fun _ h9 => h9) rfl dX4_go_43 ?_
  refine lv_iload_n hx hb dX4_go_46 rfl (lv_at hl 1 rfl) ?_
  refine va_iald hx hb hK hP (9 + 3) 0 (ap_r (wf_len 9 _ _) (wf_at (by decide) rfl)) rfl hx0 dX4_go_47 ?_
  refine lv_aload_n hx hb dX4_go_48 rfl (lv_at hl 0 rfl) ?_
  refine va_get (D := D) (ci := 4) (v := .ref (bs 2)) (C := RX4) (T := TX4) (N := 13) hx hb hts hin4 hown hK hP (9 + 0) (ap_r (wf_len 9 _ _) (wf_at (by decide) rfl)) rfl 5 (by decide) hf23 (fun _ h9 => h9) rfl dX4_go_49 ?_
  refine lv_iload_n hx hb dX4_go_52 rfl (lv_at hl 1 rfl) ?_
  refine va_iald hx hb hK hP (9 + 2) 0 (ap_r (wf_len 9 _ _) (wf_at (by decide) rfl)) rfl hx0 dX4_go_53 ?_
  refine lv_isub hx hb dX4_go_54 ?_
  refine va_mabs hx hb (hml.trans hl.1.symm) hown (hts (.methodLink RX4 89 Lib.Math.abs.name) (by decide +kernel)) (hts (.static Lib.Math.abs.name) (by decide +kernel)) (hts (.initialized "java/lang/Math") (by decide +kernel)) (hts (.code Lib.Math.abs.name Lib.Math.abs.code 1 (some .int)) (by decide +kernel)) (Nat.le_of_ble_eq_true rfl) (Nat.le_of_ble_eq_true rfl) (Nat.le_of_ble_eq_true rfl) (Nat.le_of_ble_eq_true rfl) dX4_go_55 ?_
  refine W.eq (g2 := F0 m 58 ls (.int (ab ((U44 3 (ix x)) - (U44 2 (ix x)))) :: .int (F 5 (ix x)) :: [])) rfl ?_
  refine va_mmin hx hb (hml.trans hl.1.symm) hown (hts (.methodLink RX4 76 Lib.Math.min.name) (by decide +kernel)) (hts (.static Lib.Math.min.name) (by decide +kernel)) (hts (.initialized "java/lang/Math") (by decide +kernel)) (hts (.code Lib.Math.min.name Lib.Math.min.code 2 (some .int)) (by decide +kernel)) (Nat.le_of_ble_eq_true rfl) (Nat.le_of_ble_eq_true rfl) (Nat.le_of_ble_eq_true rfl) (Nat.le_of_ble_eq_true rfl) dX4_go_58 ?_
  refine W.eq (g2 := F0 m 61 ls (.int (mn (F 5 (ix x)) (ab ((U44 3 (ix x)) - (U44 2 (ix x))))) :: [])) rfl ?_
  refine lv_istore_n (lv' := [(2, .int (mn (F 5 (ix x)) (ab ((U44 3 (ix x)) - (U44 2 (ix x)))))), (0, .ref (bs 0)), (1, .int x)]) hx hb dX4_go_61 rfl hl (by decide) rfl (fun ls hl => ?_)
  refine lv_aload_n hx hb dX4_go_62 rfl (lv_at hl 1 rfl) ?_
  refine va_get (D := D) (ci := 4) (v := .ref (bs 2)) (C := RX4) (T := TX4) (N := 13) hx hb hts hin4 hown hK hP (9 + 0) (ap_r (wf_len 9 _ _) (wf_at (by decide) rfl)) rfl 5 (by decide) hf23 (fun _ h9 => h9) rfl dX4_go_63 ?_
  refine lv_iload_n hx hb dX4_go_66 rfl (lv_at hl 2 rfl) ?_
  refine lv_dup2_11 hx hb dX4_go_67 rfl rfl ?_
  refine va_iald hx hb hK hP (9 + 2) 0 (ap_r (wf_len 9 _ _) (wf_at (by decide) rfl)) rfl hx0 dX4_go_68 ?_
  refine lv_aload_n hx hb dX4_go_69 rfl (lv_at hl 1 rfl) ?_
  refine va_get (D := D) (ci := 4) (v := .ref (bs 3)) (C := RX4) (T := TX4) (N := 13) hx hb hts hin4 hown hK hP (9 + 0) (ap_r (wf_len 9 _ _) (wf_at (by decide) rfl)) rfl 6 (by decide) hf26 (fun _ h9 => h9) rfl dX4_go_70 ?_
  refine lv_iload_n hx hb dX4_go_73 rfl (lv_at hl 2 rfl) ?_
  refine va_iald hx hb hK hP (9 + 3) 0 (ap_r (wf_len 9 _ _) (wf_at (by decide) rfl)) rfl hx0 dX4_go_74 ?_
  refine lv_aload_n hx hb dX4_go_75 rfl (lv_at hl 1 rfl) ?_
  refine va_get (D := D) (ci := 4) (v := .ref (bs 2)) (C := RX4) (T := TX4) (N := 13) hx hb hts hin4 hown hK hP (9 + 0) (ap_r (wf_len 9 _ _) (wf_at (by decide) rfl)) rfl 5 (by decide) hf23 (fun _ h9 => h9) rfl dX4_go_76 ?_
  refine lv_iload_n hx hb dX4_go_79 rfl (lv_at hl 2 rfl) ?_
  refine va_iald hx hb hK hP (9 + 2) 0 (ap_r (wf_len 9 _ _) (wf_at (by decide) rfl)) rfl hx0 dX4_go_80 ?_
  refine lv_icmp_le (tgt := 88) hx hb dX4_go_81 (by decide) (fun c_153 => ?_) (fun c_153 => ?_)
  · refine lv_iload_n hx hb dX4_go_88 rfl (lv_at hl 0 rfl) ?_
    refine lv_ineg hx hb dX4_go_89 ?_
    refine lv_iadd hx hb dX4_go_90 ?_
    refine lv_topi (fun x_154 ex_154 => ?_)
    obtain ⟨U45, hU45⟩ : ∃ z, z = va_up U44 2 (upd (U44 2) (ix x) x_154) := ⟨_, rfl⟩
    refine va_iast hx hb hK hP (aD_D hD (show List.map Prod.fst (moW y am s0 a0 F ++ stW y bs (am 0) U44) = _ from by rw [List.map_append, mo_fst y am _ _ _, st_fst y bs _ _])) hS (9 + 2) 0 (ap_r (wf_len 9 _ _) (wf_at (by decide) rfl)) rfl hx0 dX4_go_91 (fun H locs hP _ hS => ?_)
    have hP : va_P D vwCl (moW y am s0 a0 F ++ stW y bs (am 0) U45) H := (by rw [hU45]; exact P_eq (ap_set_r (wf_len 9 _ _) (st_set (k := 2) (upd (U44 2) (ix x) x_154) (by decide) rfl)) hP)
    have e9 : goM F U (ix x) = U45 := by subst hU45 ex_154 hU44 ex_152; unfold goM; rw [if_pos (show gaM F U (ix x) 3 (ix x) ≤ gaM F U (ix x) 2 (ix x) from c_153)]; rfl
    have hP : va_P D vwCl (moW y am s0 a0 F ++ stW y bs (am 0) (goM F U (ix x))) H := (by rw [e9]; exact hP)
    subst hQ
    exact W.vret hx hb hr (fun t ht hW => ⟨⟨(), rfl, trivial, bp_at hK hN hP t ht hW⟩, hS.F ht⟩) hS.2.2 dX4_go_92
  · refine lv_iload_n hx hb dX4_go_84 rfl (lv_at hl 0 rfl) ?_
    refine lv_goto (tgt := 90) hx hb dX4_go_85 (by decide) ?_
    refine lv_iadd hx hb dX4_go_90 ?_
    refine lv_topi (fun x_155 ex_155 => ?_)
    obtain ⟨U46, hU46⟩ : ∃ z, z = va_up U44 2 (upd (U44 2) (ix x) x_155) := ⟨_, rfl⟩
    refine va_iast hx hb hK hP (aD_D hD (show List.map Prod.fst (moW y am s0 a0 F ++ stW y bs (am 0) U44) = _ from by rw [List.map_append, mo_fst y am _ _ _, st_fst y bs _ _])) hS (9 + 2) 0 (ap_r (wf_len 9 _ _) (wf_at (by decide) rfl)) rfl hx0 dX4_go_91 (fun H locs hP _ hS => ?_)
    have hP : va_P D vwCl (moW y am s0 a0 F ++ stW y bs (am 0) U46) H := (by rw [hU46]; exact P_eq (ap_set_r (wf_len 9 _ _) (st_set (k := 2) (upd (U44 2) (ix x) x_155) (by decide) rfl)) hP)
    have e9 : goM F U (ix x) = U46 := by subst hU46 ex_155 hU44 ex_152; unfold goM; rw [if_neg (show ¬ gaM F U (ix x) 3 (ix x) ≤ gaM F U (ix x) 2 (ix x) from c_153)]; rfl
    have hP : va_P D vwCl (moW y am s0 a0 F ++ stW y bs (am 0) (goM F U (ix x))) H := (by rw [e9]; exact hP)
    subst hQ
    exact W.vret hx hb hr (fun t ht hW => ⟨⟨(), rfl, trivial, bp_at hK hN hP t ht hW⟩, hS.F ht⟩) hS.2.2 dX4_go_92
