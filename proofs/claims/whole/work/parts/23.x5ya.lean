/-! ===== the model: the calls of its face ===== -/
def iiC (F : Nat → Nat → Int32) (x : Int32) : Int32 := iiF x 0 (F 0 1 - 1)
def prM (x : Int32) : Int32 := if x = 0 then 4 else if x = 1 then 3 else 1
def buM (U : Nat → Nat → Int32) (x n : Int32) : Nat := if iiF x 0 3 = 0 then 1 else if iiF n 1 40 = 0 then 2 else if n * prM x ≤ U 0 1 then 0 else 3
def buF (F : Nat → Nat → Int32) (x n : Int32) : Nat → Nat → Int32 := if x = 3 then vU F 0 3 (F 0 3 + n) else vU F 8 (ix x) (F 8 (ix x) + n)
def buA (F : Nat → Nat → Int32) (x n : Int32) : Int32 := if x = 3 then F 0 3 + n else F 8 (ix x) + n
def mkC9 (F : Nat → Nat → Int32) (l h s : Int32) : Nat := if iiF h 0 2 = 0 then 1 else if iiF l 4 12 = 0 then 2 else if iiF s 1 6 = 0 then 2 else if F 0 1 = 6 then 3 else if F 0 3 < l then 3 else if F 8 (ix h) = 0 then 3 else 0
def mkF9 (F : Nat → Nat → Int32) (l h s : Int32) : Nat → Nat → Int32 :=
  let F1 := vU F 0 3 (F 0 3 - l)
  let F2 := vU F1 8 (ix h) (F1 8 (ix h) - 1)
  let F3 := vU F2 3 (ix (F 0 1)) l
  let F4 := vU F3 4 (ix (F 0 1)) h
  let F5 := vU F4 5 (ix (F 0 1)) s
  vU F5 0 1 (F 0 1 + 1)
theorem nI_l1 : nI 1 = 1 := by decide +kernel
theorem nI_l2 : nI 2 = 2 := by decide +kernel
theorem nI_l3 : nI 3 = 3 := by decide +kernel
theorem in6' {x : Int32} (h : vp_in x 7) (h6 : ¬ x = 6) : vp_in x 6 := by
  obtain ⟨j, hj, rfl⟩ := vp_in_of h (by decide)
  have e6 : nI 6 = 6 := by decide +kernel
  have h7 : ¬ j = 6 := fun e => h6 (e ▸ e6)
  exact vp_in_nI (by omega) (by decide)
theorem in4' {x : Int32} (h : vp_in x 4) (h6 : ¬ x = 3) : vp_in x 3 := by
  obtain ⟨j, hj, rfl⟩ := vp_in_of h (by decide)
  have e6 : nI 3 = 3 := by decide +kernel
  have h7 : ¬ j = 3 := fun e => h6 (e ▸ e6)
  exact vp_in_nI (by omega) (by decide)
def ntM (F : Nat → Nat → Int32) (a b : Int32) : Nat := if iiF a 0 (F 0 1 - 1) = 0 then 1 else if iiF b 0 (F 0 1 - 1) = 0 then 1 else if a = b then 2 else if noF F a = -1 then (if noF F b = -1 then 0 else 3) else 3
def ntF (F : Nat → Nat → Int32) (a b : Int32) : Nat → Nat → Int32 := vU (vU (vU F 6 (ix (F 0 2)) a) 7 (ix (F 0 2)) b) 0 2 (F 0 2 + 1)
def seM (F : Nat → Nat → Int32) (c g : Int32) : Nat := if iiF c 0 (F 0 1 - 1) = 0 then 1 else if iiF g 0 15 = 0 then 1 else 0
def taM (F U : Nat → Nat → Int32) (c : Int32) : Nat := if iiF c 0 (F 0 1 - 1) = 0 then 1 else if amF U (ix c) = 0 then 2 else if 3 ≤ U 0 1 then 0 else 2
def taU (U : Nat → Nat → Int32) (k : Nat) : Nat → Nat → Int32 := vU (vU (vU U 0 1 (U 0 1 - 3)) 4 k 30) 5 k 0
def laM (F U : Nat → Nat → Int32) (c : Int32) : Nat := if iiF c 0 (F 0 1 - 1) = 0 then 1 else if amF U (ix c) = 0 then 2 else 0
def laU (U : Nat → Nat → Int32) (k : Nat) : Nat → Nat → Int32 :=
  let U1 := vU U 6 k 0
  let U2 := vU U1 0 2 (U1 0 2 + U 6 k)
  vU U2 0 1 (U2 0 1 + 2 * U 6 k)
def abM (F : Nat → Nat → Int32) (c x : Int32) : Nat := if iiF c 0 (F 0 1 - 1) = 0 then 1 else if iiF x 0 9 = 0 then 1 else 0
def toM (F : Nat → Nat → Int32) (n x : Int32) : Nat := if iiF n 0 (F 0 2 - 1) = 0 then 1 else if iiF x 0 3 = 0 then 1 else 0
def reM (r x : Int32) : Nat := if iiF r 0 15 = 0 then 1 else if iiF x 0 1 = 0 then 1 else 0
def coM (x : Int32) : Nat := if iiF x 0 12 = 0 then 1 else 0
def paC9 (h : Int32) : Nat := if iiF h 1 40 = 0 then 1 else 0
def meM (F : Nat → Nat → Int32) (n : Int32) : Nat := if iiF n 0 (F 0 2 - 1) = 0 then 1 else 0
def siM (F : Nat → Nat → Int32) (c : Int32) : Nat := if iiF c 0 (F 0 1 - 1) = 0 then 1 else 0
def foM (h x : Int32) : Nat := if iiF h 1 40 = 0 then 1 else if iiF x 0 12 = 0 then 2 else 0
def adM9 (F : Nat → Nat → Int32) (n h : Int32) : Nat := if iiF n 0 (F 0 2 - 1) = 0 then 1 else if iiF h 1 10 = 0 then 2 else 0
abbrev mtP9 (F U : Nat → Nat → Int32) (n h : Nat) : Int32 := mtM F (psM F U h) n
abbrev siP9 (F U : Nat → Nat → Int32) (c h : Nat) : Int32 := psM F U h 7 c
def glM (F U : Nat → Nat → Int32) (n : Nat) (g : Int32) : Nat → Nat → Int32 := vU (vU U 3 (mA F n) g) 3 (mB F n) g
abbrev cwM (F U : Nat → Nat → Int32) (n h g : Nat) : Int32 := psM F (glM F U n (nI g)) h 8 n
abbrev rmX5_set : Room := { frames := 1, cells := 0, slots := 0, locals := 22 }
set_option maxHeartbeats 4000000 in
set_option maxRecDepth 100000 in
/-- set(table 1, h, b, M) -/
theorem c_X5_set1 (l : Launch) (D : va_G) (y : Nat → ClassId) (sz : Nat) (am : Nat → Nat) (s0 a0 : Nat) (F : Nat → Nat → Int32) (h b M : Int32) (hM9 : 0 ≤ M.toInt) : MdI (S := Nat → Nat → Int32) l D y yX5_set wsX5_set rmX5_set [.ref (am 0), .ref (am 1), .int h, .int b, .int M] (moW y am s0 a0 F) sz (stM h b M) (th F 1 (ix h)) (fun (_ : Nat → Nat → Int32) => moW y am s0 a0 (vU (th F) 1 (ix h) b)) (moW y am s0 a0 (vU (th F) 0 0 (nI (stM h b M)))) := by
  refine mW (fun A => va_Qi (fun r9 (_ : Nat → Nat → Int32) => (stM h b M) = 0 → r9 = (th F 1 (ix h))) (fun u9 t9 => ((stM h b M) = 0 → Bp D y ((fun (_ : Nat → Nat → Int32) => moW y am s0 a0 (vU (th F) 1 (ix h) b)) u9) t9) ∧ (¬ (stM h b M) = 0 → Bp D y (moW y am s0 a0 (vU (th F) 0 0 (nI (stM h b M)))) t9)) A) (C := RX5) (cc := cX5_set) (maxL := 6) (ret := (some .int)) (by decide) rfl rfl (Nat.le_of_ble_eq_true rfl) ?_
  intro p e s m a below meth c ls A Q hQ hsz hx hb hr hts hown hlocks hin hml hP hK hN hD hA hS hl
  have hl : lv_has ls 6 [(0, .ref (am 0)), (1, .ref (am 1)), (2, .int h), (3, .int b), (4, .int M)] := hl
  rw [mo_fst] at hD
  refine lv_aload_n hx hb dX5_set_0 rfl (lv_at hl 0 rfl) ?_
  refine lv_iconst (v := 0) hx hb dX5_set_1 (by decide) ?_
  have hin5 : ∀ w ∈ u_ws RX5 TX5 14, w ∈ wsX5_set := by decide +kernel
  have hf53 := hts (.fieldLink RX5 53 "CoracleMakersModel" "thrown" "I") (by decide +kernel)
  obtain ⟨F74, hF74⟩ : ∃ z, z = va_up F 0 (upd (F 0) 0 0) := ⟨_, rfl⟩
  refine va_put (D := D) (ci := 5) (v := .int 0) (ty := .int) (C := RX5) (T := TX5) (N := 14) hx hb hts hin5 tyX5 tyX5_ok nmX5 hown hK hP (aD_D hD (show List.map Prod.fst (moW y am s0 a0 F) = _ from by rw [mo_fst y am _ _ _])) hS 0 (wf_at (by decide) rfl) rfl 0 (by decide) hf53 (fun _ h9 => h9) rfl (by decide +kernel) rfl rfl (Nat.le_of_ble_eq_true rfl) dX5_set_2 (fun H locs hP _ hS => ?_)
  have hP : va_P D vwCl (moW y am s0 a0 F74) H := (by rw [hF74]; exact P_eq (mo_set (k := 0) (upd (F 0) 0 0) (by decide) rfl) hP)
  rw [show F74 = th F from hF74] at hP
  clear hF74
  clear F74
  refine lv_iload_n hx hb dX5_set_5 rfl (lv_at hl 2 rfl) ?_
  refine lv_iconst (v := 0) hx hb dX5_set_6 (by decide) ?_
  refine lv_bipush (v := 7) hx hb dX5_set_7 (by decide) ?_
  refine cRI_S (As := [.int h, .int 0, .int 7]) (rest := []) ⟨hx, hb, hml, hown, hts⟩ (c_X5_isIn l D y h 0 7) (va_cwS 3 hts gX5_set_X5_isIn rfl rfl rfl (by decide +kernel) ⟨Nat.le_of_ble_eq_true rfl, Nat.le_of_ble_eq_true rfl⟩) hK hN (P_nil D vwCl _) rfl hl.1 rfl (Nat.le_of_ble_eq_true rfl) dX5_set_9 ⟨Nat.le_of_ble_eq_true rfl, Nat.le_of_ble_eq_true rfl⟩ ?_
  refine lv_if_ne (tgt := 21) hx hb dX5_set_12 (by decide) (fun c_187 => ?_) (fun c_187 => ?_)
  · refine lv_iload_n hx hb dX5_set_21 rfl (lv_at hl 3 rfl) ?_
    refine lv_iconst (v := 0) hx hb dX5_set_22 (by decide) ?_
    refine lv_iload hx hb dX5_set_23 (lv_at hl 4 rfl) ?_
    refine cRI_S (As := [.int b, .int 0, .int M]) (rest := []) ⟨hx, hb, hml, hown, hts⟩ (c_X5_isIn l D y b 0 M) (va_cwS 3 hts gX5_set_X5_isIn rfl rfl rfl (by decide +kernel) ⟨Nat.le_of_ble_eq_true rfl, Nat.le_of_ble_eq_true rfl⟩) hK hN (P_nil D vwCl _) rfl hl.1 rfl (Nat.le_of_ble_eq_true rfl) dX5_set_25 ⟨Nat.le_of_ble_eq_true rfl, Nat.le_of_ble_eq_true rfl⟩ ?_
    refine lv_if_ne (tgt := 37) hx hb dX5_set_28 (by decide) (fun c_188 => ?_) (fun c_188 => ?_)
    · refine lv_aload_n hx hb dX5_set_37 rfl (lv_at hl 1 rfl) ?_
      refine lv_iload_n hx hb dX5_set_38 rfl (lv_at hl 2 rfl) ?_
      refine va_iald hx hb hK hP 1 0 (wf_at (by decide) rfl) rfl (ii_in (n := 8) c_187 (by decide) (by decide)) dX5_set_39 ?_
      refine lv_istore (lv' := [(5, .int ((th F) 1 (ix h))), (0, .ref (am 0)), (1, .ref (am 1)), (2, .int h), (3, .int b), (4, .int M)]) hx hb dX5_set_40 hl (by decide) rfl (fun ls hl => ?_)
      refine lv_aload_n hx hb dX5_set_42 rfl (lv_at hl 2 rfl) ?_
      refine lv_iload_n hx hb dX5_set_43 rfl (lv_at hl 3 rfl) ?_
      refine lv_iload_n hx hb dX5_set_44 rfl (lv_at hl 4 rfl) ?_
      obtain ⟨F75, hF75⟩ : ∃ z, z = va_up (th F) 1 (upd ((th F) 1) (ix h) b) := ⟨_, rfl⟩
      refine va_iast hx hb hK hP (aD_D hD (show List.map Prod.fst (moW y am s0 a0 (th F)) = _ from by rw [mo_fst y am _ _ _])) hS 1 0 (wf_at (by decide) rfl) rfl (ii_in (n := 8) c_187 (by decide) (by decide)) dX5_set_45 (fun H locs hP _ hS => ?_)
      have hP : va_P D vwCl (moW y am s0 a0 F75) H := (by rw [hF75]; exact P_eq (mo_set (k := 1) (upd ((th F) 1) (ix h) b) (by decide) rfl) hP)
      refine lv_iload hx hb dX5_set_46 (lv_at hl 0 rfl) ?_
      have ecd : stM h b M = 0 := by unfold stM; rw [if_neg c_187, if_neg c_188]
      have hP : va_P D vwCl (moW y am s0 a0 (vU (th F) 1 (ix h) b)) H := (by subst hF75; exact hP)
      subst hQ
      exact W.iret (v := (th F) 1 (ix h)) hx hb hr (fun t ht hW => ⟨⟨_, F, rfl, fun _ => rfl, fun _ => bp_at hK hN hP t ht hW, fun h9 => absurd ecd h9⟩, hS.F ht⟩) hS.2.2 dX5_set_48
    · refine lv_aload_n hx hb dX5_set_31 rfl (lv_at hl 0 rfl) ?_
      refine lv_iconst (v := 2) hx hb dX5_set_32 (by decide) ?_
      refine cWI_V (As := [.int 2]) (rest := []) ⟨hx, hb, hml, hown, hts⟩ (c_X5_no l D y _ am s0 a0 (th F) 2) (cwV 1 hts gX5_set_X5_no rfl rfl rfl (by decide +kernel) ⟨Nat.le_of_ble_eq_true rfl, Nat.le_of_ble_eq_true rfl⟩) hK hN hP (by rw [mo_fst]; exact hD) hS hA (va_recv hK hP (ci := 5) (q0 := 0) rfl (wf_at (by decide) rfl)) rfl hl.1 rfl (Nat.le_of_ble_eq_true rfl) dX5_set_33 ⟨Nat.le_of_ble_eq_true rfl, Nat.le_of_ble_eq_true rfl⟩ (fun H locs hP9 hk9 hS => ?_)
      have hP : va_P D vwCl (moW y am s0 a0 (vU (th F) 0 0 2)) H := hP9
      have ecd : stM h b M = 2 := by unfold stM; rw [if_neg c_187, if_pos c_188]
      have ne9 : ¬ stM h b M = 0 := by rw [ecd]; decide
      have hP : va_P D vwCl (moW y am s0 a0 (vU (th F) 0 0 (nI (stM h b M)))) H := by rw [ecd, nI_l2]; exact hP
      subst hQ
      exact W.iret (v := 0) hx hb hr (fun t ht hW => ⟨⟨_, F, rfl, fun h9 => absurd h9 ne9, fun h9 => absurd h9 ne9, fun _ => bp_at hK hN hP t ht hW⟩, hS.F ht⟩) hS.2.2 dX5_set_36
  · refine lv_aload_n hx hb dX5_set_15 rfl (lv_at hl 0 rfl) ?_
    refine lv_iconst (v := 1) hx hb dX5_set_16 (by decide) ?_
    refine cWI_V (As := [.int 1]) (rest := []) ⟨hx, hb, hml, hown, hts⟩ (c_X5_no l D y _ am s0 a0 (th F) 1) (cwV 1 hts gX5_set_X5_no rfl rfl rfl (by decide +kernel) ⟨Nat.le_of_ble_eq_true rfl, Nat.le_of_ble_eq_true rfl⟩) hK hN hP (by rw [mo_fst]; exact hD) hS hA (va_recv hK hP (ci := 5) (q0 := 0) rfl (wf_at (by decide) rfl)) rfl hl.1 rfl (Nat.le_of_ble_eq_true rfl) dX5_set_17 ⟨Nat.le_of_ble_eq_true rfl, Nat.le_of_ble_eq_true rfl⟩ (fun H locs hP9 hk9 hS => ?_)
    have hP : va_P D vwCl (moW y am s0 a0 (vU (th F) 0 0 1)) H := hP9
    have ecd : stM h b M = 1 := by unfold stM; rw [if_pos c_187]
    have ne9 : ¬ stM h b M = 0 := by rw [ecd]; decide
    have hP : va_P D vwCl (moW y am s0 a0 (vU (th F) 0 0 (nI (stM h b M)))) H := by rw [ecd, nI_l1]; exact hP
    subst hQ
    exact W.iret (v := 0) hx hb hr (fun t ht hW => ⟨⟨_, F, rfl, fun h9 => absurd h9 ne9, fun h9 => absurd h9 ne9, fun _ => bp_at hK hN hP t ht hW⟩, hS.F ht⟩) hS.2.2 dX5_set_20
set_option maxHeartbeats 4000000 in
set_option maxRecDepth 100000 in
/-- set(table 2, h, b, M) -/
theorem c_X5_set2 (l : Launch) (D : va_G) (y : Nat → ClassId) (sz : Nat) (am : Nat → Nat) (s0 a0 : Nat) (F : Nat → Nat → Int32) (h b M : Int32) (hM9 : 0 ≤ M.toInt) : MdI (S := Nat → Nat → Int32) l D y yX5_set wsX5_set rmX5_set [.ref (am 0), .ref (am 2), .int h, .int b, .int M] (moW y am s0 a0 F) sz (stM h b M) (th F 2 (ix h)) (fun (_ : Nat → Nat → Int32) => moW y am s0 a0 (vU (th F) 2 (ix h) b)) (moW y am s0 a0 (vU (th F) 0 0 (nI (stM h b M)))) := by
  refine mW (fun A => va_Qi (fun r9 (_ : Nat → Nat → Int32) => (stM h b M) = 0 → r9 = (th F 2 (ix h))) (fun u9 t9 => ((stM h b M) = 0 → Bp D y ((fun (_ : Nat → Nat → Int32) => moW y am s0 a0 (vU (th F) 2 (ix h) b)) u9) t9) ∧ (¬ (stM h b M) = 0 → Bp D y (moW y am s0 a0 (vU (th F) 0 0 (nI (stM h b M)))) t9)) A) (C := RX5) (cc := cX5_set) (maxL := 6) (ret := (some .int)) (by decide) rfl rfl (Nat.le_of_ble_eq_true rfl) ?_
  intro p e s m a below meth c ls A Q hQ hsz hx hb hr hts hown hlocks hin hml hP hK hN hD hA hS hl
  have hl : lv_has ls 6 [(0, .ref (am 0)), (1, .ref (am 2)), (2, .int h), (3, .int b), (4, .int M)] := hl
  rw [mo_fst] at hD
  refine lv_aload_n hx hb dX5_set_0 rfl (lv_at hl 0 rfl) ?_
  refine lv_iconst (v := 0) hx hb dX5_set_1 (by decide) ?_
  have hin5 : ∀ w ∈ u_ws RX5 TX5 14, w ∈ wsX5_set := by decide +kernel
  have hf53 := hts (.fieldLink RX5 53 "CoracleMakersModel" "thrown" "I") (by decide +kernel)
  obtain ⟨F76, hF76⟩ : ∃ z, z = va_up F 0 (upd (F 0) 0 0) := ⟨_, rfl⟩
  refine va_put (D := D) (ci := 5) (v := .int 0) (ty := .int) (C := RX5) (T := TX5) (N := 14) hx hb hts hin5 tyX5 tyX5_ok nmX5 hown hK hP (aD_D hD (show List.map Prod.fst (moW y am s0 a0 F) = _ from by rw [mo_fst y am _ _ _])) hS 0 (wf_at (by decide) rfl) rfl 0 (by decide) hf53 (fun _ h9 => h9) rfl (by decide +kernel) rfl rfl (Nat.le_of_ble_eq_true rfl) dX5_set_2 (fun H locs hP _ hS => ?_)
  have hP : va_P D vwCl (moW y am s0 a0 F76) H := (by rw [hF76]; exact P_eq (mo_set (k := 0) (upd (F 0) 0 0) (by decide) rfl) hP)
  rw [show F76 = th F from hF76] at hP
  clear hF76
  clear F76
  refine lv_iload_n hx hb dX5_set_5 rfl (lv_at hl 2 rfl) ?_
  refine lv_iconst (v := 0) hx hb dX5_set_6 (by decide) ?_
  refine lv_bipush (v := 7) hx hb dX5_set_7 (by decide) ?_
  refine cRI_S (As := [.int h, .int 0, .int 7]) (rest := []) ⟨hx, hb, hml, hown, hts⟩ (c_X5_isIn l D y h 0 7) (va_cwS 3 hts gX5_set_X5_isIn rfl rfl rfl (by decide +kernel) ⟨Nat.le_of_ble_eq_true rfl, Nat.le_of_ble_eq_true rfl⟩) hK hN (P_nil D vwCl _) rfl hl.1 rfl (Nat.le_of_ble_eq_true rfl) dX5_set_9 ⟨Nat.le_of_ble_eq_true rfl, Nat.le_of_ble_eq_true rfl⟩ ?_
  refine lv_if_ne (tgt := 21) hx hb dX5_set_12 (by decide) (fun c_189 => ?_) (fun c_189 => ?_)
  · refine lv_iload_n hx hb dX5_set_21 rfl (lv_at hl 3 rfl) ?_
    refine lv_iconst (v := 0) hx hb dX5_set_22 (by decide) ?_
    refine lv_iload hx hb dX5_set_23 (lv_at hl 4 rfl) ?_
    refine cRI_S (As := [.int b, .int 0, .int M]) (rest := []) ⟨hx, hb, hml, hown, hts⟩ (c_X5_isIn l D y b 0 M) (va_cwS 3 hts gX5_set_X5_isIn rfl rfl rfl (by decide +kernel) ⟨Nat.le_of_ble_eq_true rfl, Nat.le_of_ble_eq_true rfl⟩) hK hN (P_nil D vwCl _) rfl hl.1 rfl (Nat.le_of_ble_eq_true rfl) dX5_set_25 ⟨Nat.le_of_ble_eq_true rfl, Nat.le_of_ble_eq_true rfl⟩ ?_
    refine lv_if_ne (tgt := 37) hx hb dX5_set_28 (by decide) (fun c_190 => ?_) (fun c_190 => ?_)
    · refine lv_aload_n hx hb dX5_set_37 rfl (lv_at hl 1 rfl) ?_
      refine lv_iload_n hx hb dX5_set_38 rfl (lv_at hl 2 rfl) ?_
      refine va_iald hx hb hK hP 2 0 (wf_at (by decide) rfl) rfl (ii_in (n := 8) c_189 (by decide) (by decide)) dX5_set_39 ?_
      refine lv_istore (lv' := [(5, .int ((th F) 2 (ix h))), (0, .ref (am 0)), (1, .ref (am 2)), (2, .int h), (3, .int b), (4, .int M)]) hx hb dX5_set_40 hl (by decide) rfl (fun ls hl => ?_)
      refine lv_aload_n hx hb dX5_set_42 rfl (lv_at hl 2 rfl) ?_
      refine lv_iload_n hx hb dX5_set_43 rfl (lv_at hl 3 rfl) ?_
      refine lv_iload_n hx hb dX5_set_44 rfl (lv_at hl 4 rfl) ?_
      obtain ⟨F77, hF77⟩ : ∃ z, z = va_up (th F) 2 (upd ((th F) 2) (ix h) b) := ⟨_, rfl⟩
      refine va_iast hx hb hK hP (aD_D hD (show List.map Prod.fst (moW y am s0 a0 (th F)) = _ from by rw [mo_fst y am _ _ _])) hS 2 0 (wf_at (by decide) rfl) rfl (ii_in (n := 8) c_189 (by decide) (by decide)) dX5_set_45 (fun H locs hP _ hS => ?_)
      have hP : va_P D vwCl (moW y am s0 a0 F77) H := (by rw [hF77]; exact P_eq (mo_set (k := 2) (upd ((th F) 2) (ix h) b) (by decide) rfl) hP)
      refine lv_iload hx hb dX5_set_46 (lv_at hl 0 rfl) ?_
      have ecd : stM h b M = 0 := by unfold stM; rw [if_neg c_189, if_neg c_190]
      have hP : va_P D vwCl (moW y am s0 a0 (vU (th F) 2 (ix h) b)) H := (by subst hF77; exact hP)
      subst hQ
      exact W.iret (v := (th F) 2 (ix h)) hx hb hr (fun t ht hW => ⟨⟨_, F, rfl, fun _ => rfl, fun _ => bp_at hK hN hP t ht hW, fun h9 => absurd ecd h9⟩, hS.F ht⟩) hS.2.2 dX5_set_48
    · refine lv_aload_n hx hb dX5_set_31 rfl (lv_at hl 0 rfl) ?_
      refine lv_iconst (v := 2) hx hb dX5_set_32 (by decide) ?_
      refine cWI_V (As := [.int 2]) (rest := []) ⟨hx, hb, hml, hown, hts⟩ (c_X5_no l D y _ am s0 a0 (th F) 2) (cwV 1 hts gX5_set_X5_no rfl rfl rfl (by decide +kernel) ⟨Nat.le_of_ble_eq_true rfl, Nat.le_of_ble_eq_true rfl⟩) hK hN hP (by rw [mo_fst]; exact hD) hS hA (va_recv hK hP (ci := 5) (q0 := 0) rfl (wf_at (by decide) rfl)) rfl hl.1 rfl (Nat.le_of_ble_eq_true rfl) dX5_set_33 ⟨Nat.le_of_ble_eq_true rfl, Nat.le_of_ble_eq_true rfl⟩ (fun H locs hP9 hk9 hS => ?_)
      have hP : va_P D vwCl (moW y am s0 a0 (vU (th F) 0 0 2)) H := hP9
      have ecd : stM h b M = 2 := by unfold stM; rw [if_neg c_189, if_pos c_190]
      have ne9 : ¬ stM h b M = 0 := by rw [ecd]; decide
      have hP : va_P D vwCl (moW y am s0 a0 (vU (th F) 0 0 (nI (stM h b M)))) H := by rw [ecd, nI_l2]; exact hP
      subst hQ
      exact W.iret (v := 0) hx hb hr (fun t ht hW => ⟨⟨_, F, rfl, fun h9 => absurd h9 ne9, fun h9 => absurd h9 ne9, fun _ => bp_at hK hN hP t ht hW⟩, hS.F ht⟩) hS.2.2 dX5_set_36
  · refine lv_aload_n hx hb dX5_set_15 rfl (lv_at hl 0 rfl) ?_
    refine lv_iconst (v := 1) hx hb dX5_set_16 (by decide) ?_
    refine cWI_V (As := [.int 1]) (rest := []) ⟨hx, hb, hml, hown, hts⟩ (c_X5_no l D y _ am s0 a0 (th F) 1) (cwV 1 hts gX5_set_X5_no rfl rfl rfl (by decide +kernel) ⟨Nat.le_of_ble_eq_true rfl, Nat.le_of_ble_eq_true rfl⟩) hK hN hP (by rw [mo_fst]; exact hD) hS hA (va_recv hK hP (ci := 5) (q0 := 0) rfl (wf_at (by decide) rfl)) rfl hl.1 rfl (Nat.le_of_ble_eq_true rfl) dX5_set_17 ⟨Nat.le_of_ble_eq_true rfl, Nat.le_of_ble_eq_true rfl⟩ (fun H locs hP9 hk9 hS => ?_)
    have hP : va_P D vwCl (moW y am s0 a0 (vU (th F) 0 0 1)) H := hP9
    have ecd : stM h b M = 1 := by unfold stM; rw [if_pos c_189]
    have ne9 : ¬ stM h b M = 0 := by rw [ecd]; decide
    have hP : va_P D vwCl (moW y am s0 a0 (vU (th F) 0 0 (nI (stM h b M)))) H := by rw [ecd, nI_l1]; exact hP
    subst hQ
    exact W.iret (v := 0) hx hb hr (fun t ht hW => ⟨⟨_, F, rfl, fun h9 => absurd h9 ne9, fun h9 => absurd h9 ne9, fun _ => bp_at hK hN hP t ht hW⟩, hS.F ht⟩) hS.2.2 dX5_set_20
