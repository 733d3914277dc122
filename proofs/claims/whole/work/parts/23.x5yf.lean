abbrev rmX5_send : Room := { frames := 2, cells := 0, slots := 0, locals := 43 }
set_option maxHeartbeats 4000000 in
set_option maxRecDepth 100000 in
/-- send(xc, g) -/
theorem c_X5_send (l : Launch) (D : va_G) (y : Nat → ClassId) (sz : Nat) (am bs ba : Nat → Nat) (F U X : Nat → Nat → Int32) (xc g : Int32) (hC : vp_in (th F 0 1) 7) : MdI (S := Nat → Nat → Int32) l D y yX5_send wsX5_send rmX5_send [.ref (am 0), .int xc, .int g] (moA y am bs ba F U X) sz (seM (th F) xc g) (U 3 (ix xc)) (fun (u : Nat → Nat → Int32) => moA y am bs ba (th F) (vU U 3 (ix xc) g) u) (moA y am bs ba (vU (th F) 0 0 (nI (seM (th F) xc g))) U X) := by
  refine mW (fun A => va_Qi (fun r9 (_ : Nat → Nat → Int32) => (seM (th F) xc g) = 0 → r9 = (U 3 (ix xc))) (fun u9 t9 => ((seM (th F) xc g) = 0 → Bp D y ((fun (u : Nat → Nat → Int32) => moA y am bs ba (th F) (vU U 3 (ix xc) g) u) u9) t9) ∧ (¬ (seM (th F) xc g) = 0 → Bp D y (moA y am bs ba (vU (th F) 0 0 (nI (seM (th F) xc g))) U X) t9)) A) (C := RX5) (cc := cX5_send) (maxL := 4) (ret := (some .int)) (by decide) rfl rfl (Nat.le_of_ble_eq_true rfl) ?_
  intro p e s m a below meth c ls A Q hQ hsz hx hb hr hts hown hlocks hin hml hP hK hN hD hA hS hl
  have hl : lv_has ls 4 [(0, .ref (am 0)), (1, .int xc), (2, .int g)] := hl
  rw [moA_fst] at hD
  refine lv_aload_n hx hb dX5_send_0 rfl (lv_at hl 0 rfl) ?_
  refine lv_iconst (v := 0) hx hb dX5_send_1 (by decide) ?_
  have hin5 : ∀ w ∈ u_ws RX5 TX5 14, w ∈ wsX5_send := by decide +kernel
  have hf53 := hts (.fieldLink RX5 53 "CoracleMakersModel" "thrown" "I") (by decide +kernel)
  obtain ⟨F100, hF100⟩ : ∃ z, z = va_up F 0 (upd (F 0) 0 0) := ⟨_, rfl⟩
  refine va_put (D := D) (ci := 5) (v := .int 0) (ty := .int) (C := RX5) (T := TX5) (N := 14) hx hb hts hin5 tyX5 tyX5_ok nmX5 hown hK hP (aD_D hD (show List.map Prod.fst (moW y am (bs 0) (ba 0) F ++ (stW y bs (am 0) U ++ stW y ba (am 0) X)) = _ from by rw [List.map_append, List.map_append, mo_fst y am _ _ _, st_fst y bs _ _, st_fst y ba _ _])) hS 0 (ap_l (wf_at (by decide) rfl)) rfl 0 (by decide) hf53 (fun _ h9 => h9) rfl (by decide +kernel) rfl rfl (Nat.le_of_ble_eq_true rfl) dX5_send_2 (fun H locs hP _ hS => ?_)
  have hP : va_P D vwCl (moW y am (bs 0) (ba 0) F100 ++ (stW y bs (am 0) U ++ stW y ba (am 0) X)) H := (by rw [hF100]; exact P_eq (ap_set_l (show 0 < (wf _ _ _).length by rw [wf_len]; omega) (mo_set (k := 0) (upd (F 0) 0 0) (by decide) rfl)) hP)
  rw [show F100 = th F from hF100] at hP
  clear hF100
  clear F100
  refine lv_aload_n hx hb dX5_send_5 rfl (lv_at hl 0 rfl) ?_
  refine lv_iload_n hx hb dX5_send_6 rfl (lv_at hl 1 rfl) ?_
  refine cRI_V (As := [.int xc]) (rest := []) ⟨hx, hb, hml, hown, hts⟩ (c_X5_isCoracle l D y am (bs 0) (ba 0) (th F) xc) (cwV 1 hts gX5_send_X5_isCoracle rfl rfl rfl (by decide +kernel) ⟨Nat.le_of_ble_eq_true rfl, Nat.le_of_ble_eq_true rfl⟩) hK hN (P_l hP) (va_recv hK hP (ci := 5) (q0 := 0) rfl (ap_l (wf_at (by decide) rfl))) rfl hl.1 rfl (Nat.le_of_ble_eq_true rfl) dX5_send_7 ⟨Nat.le_of_ble_eq_true rfl, Nat.le_of_ble_eq_true rfl⟩ ?_
  refine lv_if_eq (tgt := 23) hx hb dX5_send_10 (by decide) (fun c_225 => ?_) (fun c_225 => ?_)
  · refine lv_aload_n hx hb dX5_send_23 rfl (lv_at hl 0 rfl) ?_
    refine lv_iconst (v := 1) hx hb dX5_send_24 (by decide) ?_
    refine cWI_V (As := [.int 1]) (rest := []) ⟨hx, hb, hml, hown, hts⟩ (c_X5_no l D y _ am (bs 0) (ba 0) (th F) 1) (cwV 1 hts gX5_send_X5_no rfl rfl rfl (by decide +kernel) ⟨Nat.le_of_ble_eq_true rfl, Nat.le_of_ble_eq_true rfl⟩) hK hN (P_l hP) (by rw [mo_fst]; exact aD_l hD) hS hA (va_recv hK hP (ci := 5) (q0 := 0) rfl (ap_l (wf_at (by decide) rfl))) rfl hl.1 rfl (Nat.le_of_ble_eq_true rfl) dX5_send_25 ⟨Nat.le_of_ble_eq_true rfl, Nat.le_of_ble_eq_true rfl⟩ (fun H locs hP9 hk9 hS => ?_)
    have hP : va_P D vwCl (moW y am (bs 0) (ba 0) (vU (th F) 0 0 1) ++ (stW y bs (am 0) U ++ stW y ba (am 0) X)) H := fr_l hP (by rw [mo_fst, st2_fst]; exact hD) hk9 hP9
    have ecd : seM (th F) xc g = 1 := by unfold seM; rw [if_pos c_225]
    have ne9 : ¬ seM (th F) xc g = 0 := by rw [ecd]; decide
    have hP : va_P D vwCl (moW y am (bs 0) (ba 0) (vU (th F) 0 0 (nI (seM (th F) xc g))) ++ (stW y bs (am 0) U ++ stW y ba (am 0) X)) H := by rw [ecd, nI_l1]; exact hP
    subst hQ
    exact W.iret (v := 0) hx hb hr (fun t ht hW => ⟨⟨_, F, rfl, fun h9 => absurd h9 ne9, fun h9 => absurd h9 ne9, fun _ => bp_at hK hN hP t ht hW⟩, hS.F ht⟩) hS.2.2 dX5_send_28
  · refine lv_iload_n hx hb dX5_send_13 rfl (lv_at hl 2 rfl) ?_
    refine lv_iconst (v := 0) hx hb dX5_send_14 (by decide) ?_
    refine lv_bipush (v := 15) hx hb dX5_send_15 (by decide) ?_
    refine cRI_S (As := [.int g, .int 0, .int 15]) (rest := []) ⟨hx, hb, hml, hown, hts⟩ (c_X5_isIn l D y g 0 15) (va_cwS 3 hts gX5_send_X5_isIn rfl rfl rfl (by decide +kernel) ⟨Nat.le_of_ble_eq_true rfl, Nat.le_of_ble_eq_true rfl⟩) hK hN (P_nil D vwCl _) rfl hl.1 rfl (Nat.le_of_ble_eq_true rfl) dX5_send_17 ⟨Nat.le_of_ble_eq_true rfl, Nat.le_of_ble_eq_true rfl⟩ ?_
    refine lv_if_ne (tgt := 29) hx hb dX5_send_20 (by decide) (fun c_226 => ?_) (fun c_226 => ?_)
    · refine lv_aload_n hx hb dX5_send_29 rfl (lv_at hl 0 rfl) ?_
      have hf43 := hts (.fieldLink RX5 43 "CoracleMakersModel" "s" "LCoracleMakersModel$State;") (by decide +kernel)
      refine va_get (D := D) (ci := 5) (v := .ref (bs 0)) (C := RX5) (T := TX5) (N := 14) hx hb hts hin5 hown hK hP 0 (ap_l (wf_at (by decide) rfl)) rfl 12 (by decide) hf43 (fun _ h9 => h9) rfl dX5_send_30 ?_
      have hin4 : ∀ w ∈ u_ws RX4 TX4 13, w ∈ wsX5_send := by decide +kernel
      have hf87 : (Cond.fieldLinkNest RX5 87 "CoracleMakersModel$State" "goal" "[I" "CoracleMakersModel").before a s = true := va_Nw.use rfl (hN.1 _ (List.mem_of_getElem? (i := 4) rfl))
      refine va_getN (D := D) (ci := 4) (v := .ref (bs 3)) (C := RX4) (T := TX4) (N := 13) hx hb hts hin4 hown hK hP (9 + 0) (ap_r (wf_len 9 _ _) (ap_l (wf_at (by decide) rfl))) rfl 6 (by decide) hf87 (fun _ h9 => h9) rfl dX5_send_33 ?_
      refine lv_iload_n hx hb dX5_send_36 rfl (lv_at hl 1 rfl) ?_
      refine va_iald hx hb hK hP (9 + 3) 0 (ap_r (wf_len 9 _ _) (ap_l (wf_at (by decide) rfl))) rfl (ic_in (n := 6) c_225 hC (by decide)) dX5_send_37 ?_
      refine lv_istore_n (lv' := [(3, .int (U 3 (ix xc))), (0, .ref (am 0)), (1, .int xc), (2, .int g)]) hx hb dX5_send_38 rfl hl (by decide) rfl (fun ls hl => ?_)
      refine lv_aload_n hx hb dX5_send_39 rfl (lv_at hl 1 rfl) ?_
      refine va_get (D := D) (ci := 5) (v := .ref (bs 0)) (C := RX5) (T := TX5) (N := 14) hx hb hts hin5 hown hK hP 0 (ap_l (wf_at (by decide) rfl)) rfl 12 (by decide) hf43 (fun _ h9 => h9) rfl dX5_send_40 ?_
      refine va_getN (D := D) (ci := 4) (v := .ref (bs 3)) (C := RX4) (T := TX4) (N := 13) hx hb hts hin4 hown hK hP (9 + 0) (ap_r (wf_len 9 _ _) (ap_l (wf_at (by decide) rfl))) rfl 6 (by decide) hf87 (fun _ h9 => h9) rfl dX5_send_43 ?_
      refine lv_iload_n hx hb dX5_send_46 rfl (lv_at hl 2 rfl) ?_
      refine lv_iload_n hx hb dX5_send_47 rfl (lv_at hl 3 rfl) ?_
      obtain ⟨U101, hU101⟩ : ∃ z, z = va_up U 3 (upd (U 3) (ix xc) g) := ⟨_, rfl⟩
      refine va_iast hx hb hK hP (aD_D hD (show List.map Prod.fst (moW y am (bs 0) (ba 0) (th F) ++ (stW y bs (am 0) U ++ stW y ba (am 0) X)) = _ from by rw [List.map_append, List.map_append, mo_fst y am _ _ _, st_fst y bs _ _, st_fst y ba _ _])) hS (9 + 3) 0 (ap_r (wf_len 9 _ _) (ap_l (wf_at (by decide) rfl))) rfl (ic_in (n := 6) c_225 hC (by decide)) dX5_send_48 (fun H locs hP _ hS => ?_)
      have hP : va_P D vwCl (moW y am (bs 0) (ba 0) (th F) ++ (stW y bs (am 0) U101 ++ stW y ba (am 0) X)) H := (by rw [hU101]; exact P_eq (ap_set_r (wf_len 9 _ _) (ap_set_l (show 3 < (wf _ _ _).length by rw [wf_len]; omega) (st_set (k := 3) (upd (U 3) (ix xc) g) (by decide) rfl))) hP)
      refine lv_iload_n hx hb dX5_send_49 rfl (lv_at hl 0 rfl) ?_
      have ecd : seM (th F) xc g = 0 := by unfold seM; rw [if_neg c_225, if_neg c_226]
      have hP : va_P D vwCl (moA y am bs ba (th F) (vU U 3 (ix xc) g) X) H := (by subst hU101; exact hP)
      subst hQ
      exact W.iret (v := U 3 (ix xc)) hx hb hr (fun t ht hW => ⟨⟨_, X, rfl, fun _ => rfl, fun _ => bp_at hK hN hP t ht hW, fun h9 => absurd ecd h9⟩, hS.F ht⟩) hS.2.2 dX5_send_50
    · refine lv_aload_n hx hb dX5_send_23 rfl (lv_at hl 0 rfl) ?_
      refine lv_iconst (v := 1) hx hb dX5_send_24 (by decide) ?_
      refine cWI_V (As := [.int 1]) (rest := []) ⟨hx, hb, hml, hown, hts⟩ (c_X5_no l D y _ am (bs 0) (ba 0) (th F) 1) (cwV 1 hts gX5_send_X5_no rfl rfl rfl (by decide +kernel) ⟨Nat.le_of_ble_eq_true rfl, Nat.le_of_ble_eq_true rfl⟩) hK hN (P_l hP) (by rw [mo_fst]; exact aD_l hD) hS hA (va_recv hK hP (ci := 5) (q0 := 0) rfl (ap_l (wf_at (by decide) rfl))) rfl hl.1 rfl (Nat.le_of_ble_eq_true rfl) dX5_send_25 ⟨Nat.le_of_ble_eq_true rfl, Nat.le_of_ble_eq_true rfl⟩ (fun H locs hP9 hk9 hS => ?_)
      have hP : va_P D vwCl (moW y am (bs 0) (ba 0) (vU (th F) 0 0 1) ++ (stW y bs (am 0) U ++ stW y ba (am 0) X)) H := fr_l hP (by rw [mo_fst, st2_fst]; exact hD) hk9 hP9
      have ecd : seM (th F) xc g = 1 := by unfold seM; rw [if_neg c_225, if_pos c_226]
      have ne9 : ¬ seM (th F) xc g = 0 := by rw [ecd]; decide
      have hP : va_P D vwCl (moW y am (bs 0) (ba 0) (vU (th F) 0 0 (nI (seM (th F) xc g))) ++ (stW y bs (am 0) U ++ stW y ba (am 0) X)) H := by rw [ecd, nI_l1]; exact hP
      subst hQ
      exact W.iret (v := 0) hx hb hr (fun t ht hW => ⟨⟨_, F, rfl, fun h9 => absurd h9 ne9, fun h9 => absurd h9 ne9, fun _ => bp_at hK hN hP t ht hW⟩, hS.F ht⟩) hS.2.2 dX5_send_28
abbrev rmX5_tar : Room := { frames := 2, cells := 0, slots := 0, locals := 43 }
set_option maxHeartbeats 4000000 in
set_option maxRecDepth 100000 in
/-- tar(xc) -/
theorem c_X5_tar (l : Launch) (D : va_G) (y : Nat → ClassId) (sz : Nat) (am bs ba : Nat → Nat) (F U X : Nat → Nat → Int32) (xc : Int32) (hC : vp_in (th F 0 1) 7) : MdI (S := Nat → Nat → Int32) l D y yX5_tar wsX5_tar rmX5_tar [.ref (am 0), .int xc] (moA y am bs ba F U X) sz (taM (th F) U xc) (U 5 (ix xc)) (fun (u : Nat → Nat → Int32) => moA y am bs ba (th F) (taU U (ix xc)) u) (moA y am bs ba (vU (th F) 0 0 (nI (taM (th F) U xc))) U X) := by
  refine mW (fun A => va_Qi (fun r9 (_ : Nat → Nat → Int32) => (taM (th F) U xc) = 0 → r9 = (U 5 (ix xc))) (fun u9 t9 => ((taM (th F) U xc) = 0 → Bp D y ((fun (u : Nat → Nat → Int32) => moA y am bs ba (th F) (taU U (ix xc)) u) u9) t9) ∧ (¬ (taM (th F) U xc) = 0 → Bp D y (moA y am bs ba (vU (th F) 0 0 (nI (taM (th F) U xc))) U X) t9)) A) (C := RX5) (cc := cX5_tar) (maxL := 3) (ret := (some .int)) (by decide) rfl rfl (Nat.le_of_ble_eq_true rfl) ?_
  intro p e s m a below meth c ls A Q hQ hsz hx hb hr hts hown hlocks hin hml hP hK hN hD hA hS hl
  have hl : lv_has ls 3 [(0, .ref (am 0)), (1, .int xc)] := hl
  rw [moA_fst] at hD
  refine lv_aload_n hx hb dX5_tar_0 rfl (lv_at hl 0 rfl) ?_
  refine lv_iconst (v := 0) hx hb dX5_tar_1 (by decide) ?_
  have hin5 : ∀ w ∈ u_ws RX5 TX5 14, w ∈ wsX5_tar := by decide +kernel
  have hf53 := hts (.fieldLink RX5 53 "CoracleMakersModel" "thrown" "I") (by decide +kernel)
  obtain ⟨F102, hF102⟩ : ∃ z, z = va_up F 0 (upd (F 0) 0 0) := ⟨_, rfl⟩
  refine va_put (D := D) (ci := 5) (v := .int 0) (ty := .int) (C := RX5) (T := TX5) (N := 14) hx hb hts hin5 tyX5 tyX5_ok nmX5 hown hK hP (aD_D hD (show List.map Prod.fst (moW y am (bs 0) (ba 0) F ++ (stW y bs (am 0) U ++ stW y ba (am 0) X)) = _ from by rw [List.map_append, List.map_append, mo_fst y am _ _ _, st_fst y bs _ _, st_fst y ba _ _])) hS 0 (ap_l (wf_at (by decide) rfl)) rfl 0 (by decide) hf53 (fun _ h9 => h9) rfl (by decide +kernel) rfl rfl (Nat.le_of_ble_eq_true rfl) dX5_tar_2 (fun H locs hP _ hS => ?_)
  have hP : va_P D vwCl (moW y am (bs 0) (ba 0) F102 ++ (stW y bs (am 0) U ++ stW y ba (am 0) X)) H := (by rw [hF102]; exact P_eq (ap_set_l (show 0 < (wf _ _ _).length by rw [wf_len]; omega) (mo_set (k := 0) (upd (F 0) 0 0) (by decide) rfl)) hP)
  rw [show F102 = th F from hF102] at hP
  clear hF102
  clear F102
  refine lv_aload_n hx hb dX5_tar_5 rfl (lv_at hl 0 rfl) ?_
  refine lv_iload_n hx hb dX5_tar_6 rfl (lv_at hl 1 rfl) ?_
  refine cRI_V (As := [.int xc]) (rest := []) ⟨hx, hb, hml, hown, hts⟩ (c_X5_isCoracle l D y am (bs 0) (ba 0) (th F) xc) (cwV 1 hts gX5_tar_X5_isCoracle rfl rfl rfl (by decide +kernel) ⟨Nat.le_of_ble_eq_true rfl, Nat.le_of_ble_eq_true rfl⟩) hK hN (P_l hP) (va_recv hK hP (ci := 5) (q0 := 0) rfl (ap_l (wf_at (by decide) rfl))) rfl hl.1 rfl (Nat.le_of_ble_eq_true rfl) dX5_tar_7 ⟨Nat.le_of_ble_eq_true rfl, Nat.le_of_ble_eq_true rfl⟩ ?_
  refine lv_if_ne (tgt := 19) hx hb dX5_tar_10 (by decide) (fun c_227 => ?_) (fun c_227 => ?_)
  · refine lv_aload_n hx hb dX5_tar_19 rfl (lv_at hl 0 rfl) ?_
    refine lv_iload_n hx hb dX5_tar_20 rfl (lv_at hl 1 rfl) ?_
    refine cRI_V (As := [.int xc]) (rest := []) ⟨hx, hb, hml, hown, hts⟩ (c_X5_isAtMarket l D y am bs (ba 0) (th F) U xc (ic_in (n := 6) c_227 hC (by decide))) (cwV 1 hts gX5_tar_X5_isAtMarket rfl rfl rfl (by decide +kernel) ⟨Nat.le_of_ble_eq_true rfl, Nat.le_of_ble_eq_true rfl⟩) hK hN (P_xw hP) (va_recv hK hP (ci := 5) (q0 := 0) rfl (ap_l (wf_at (by decide) rfl))) rfl hl.1 rfl (Nat.le_of_ble_eq_true rfl) dX5_tar_21 ⟨Nat.le_of_ble_eq_true rfl, Nat.le_of_ble_eq_true rfl⟩ ?_
    refine lv_if_eq (tgt := 38) hx hb dX5_tar_24 (by decide) (fun c_228 => ?_) (fun c_228 => ?_)
    · refine lv_aload_n hx hb dX5_tar_38 rfl (lv_at hl 0 rfl) ?_
      refine lv_iconst (v := 2) hx hb dX5_tar_39 (by decide) ?_
      refine cWI_V (As := [.int 2]) (rest := []) ⟨hx, hb, hml, hown, hts⟩ (c_X5_no l D y _ am (bs 0) (ba 0) (th F) 2) (cwV 1 hts gX5_tar_X5_no rfl rfl rfl (by decide +kernel) ⟨Nat.le_of_ble_eq_true rfl, Nat.le_of_ble_eq_true rfl⟩) hK hN (P_l hP) (by rw [mo_fst]; exact aD_l hD) hS hA (va_recv hK hP (ci := 5) (q0 := 0) rfl (ap_l (wf_at (by decide) rfl))) rfl hl.1 rfl (Nat.le_of_ble_eq_true rfl) dX5_tar_40 ⟨Nat.le_of_ble_eq_true rfl, Nat.le_of_ble_eq_true rfl⟩ (fun H locs hP9 hk9 hS => ?_)
      have hP : va_P D vwCl (moW y am (bs 0) (ba 0) (vU (th F) 0 0 2) ++ (stW y bs (am 0) U ++ stW y ba (am 0) X)) H := fr_l hP (by rw [mo_fst, st2_fst]; exact hD) hk9 hP9
      have ecd : taM (th F) U xc = 2 := by unfold taM; rw [if_neg c_227, if_pos c_228]
      have ne9 : ¬ taM (th F) U xc = 0 := by rw [ecd]; decide
      have hP : va_P D vwCl (moW y am (bs 0) (ba 0) (vU (th F) 0 0 (nI (taM (th F) U xc))) ++ (stW y bs (am 0) U ++ stW y ba (am 0) X)) H := by rw [ecd, nI_l2]; exact hP
      subst hQ
      exact W.iret (v := 0) hx hb hr (fun t ht hW => ⟨⟨_, F, rfl, fun h9 => absurd h9 ne9, fun h9 => absurd h9 ne9, fun _ => bp_at hK hN hP t ht hW⟩, hS.F ht⟩) hS.2.2 dX5_tar_43
    · refine lv_aload_n hx hb dX5_tar_27 rfl (lv_at hl 0 rfl) ?_
      have hf43 := hts (.fieldLink RX5 43 "CoracleMakersModel" "s" "LCoracleMakersModel$State;") (by decide +kernel)
      refine va_get (D := D) (ci := 5) (v := .ref (bs 0)) (C := RX5) (T := TX5) (N := 14) hx hb hts hin5 hown hK hP 0 (ap_l (wf_at (by decide) rfl)) rfl 12 (by decide) hf43 (fun _ h9 => h9) rfl dX5_tar_28 ?_
      have hin4 : ∀ w ∈ u_ws RX4 TX4 13, w ∈ wsX5_tar := by decide +kernel
      have hf74 : (Cond.fieldLinkNest RX5 74 "CoracleMakersModel$State" "coins" "I" "CoracleMakersModel").before a s = true := va_Nw.use rfl (hN.1 _ (List.mem_of_getElem? (i := 0) rfl))
      refine va_getN (D := D) (ci := 4) (v := .int (U 0 1)) (C := RX4) (T := TX4) (N := 13) hx hb hts hin4 hown hK hP (9 + 0) (ap_r (wf_len 9 _ _) (ap_l (wf_at (by decide) rfl))) rfl 1 (by decide) hf74 (fun _ h9 => h9) rfl dX5_tar_31 ?_
      refine lv_iconst (v := 3) hx hb dX5_tar_34 (by decide) ?_
      refine lv_icmp_ge (tgt := 44) hx hb dX5_tar_35 (by decide) (fun c_229 => ?_) (fun c_229 => ?_)
      · refine lv_aload_n hx hb dX5_tar_44 rfl (lv_at hl 0 rfl) ?_
        refine va_get (D := D) (ci := 5) (v := .ref (bs 0)) (C := RX5) (T := TX5) (N := 14) hx hb hts hin5 hown hK hP 0 (ap_l (wf_at (by decide) rfl)) rfl 12 (by decide) hf43 (fun _ h9 => h9) rfl dX5_tar_45 ?_
        have hf100 : (Cond.fieldLinkNest RX5 100 "CoracleMakersModel$State" "water" "[I" "CoracleMakersModel").before a s = true := va_Nw.use rfl (hN.1 _ (List.mem_of_getElem? (i := 6) rfl))
        refine va_getN (D := D) (ci := 4) (v := .ref (bs 5)) (C := RX4) (T := TX4) (N := 13) hx hb hts hin4 hown hK hP (9 + 0) (ap_r (wf_len 9 _ _) (ap_l (wf_at (by decide) rfl))) rfl 8 (by decide) hf100 (fun _ h9 => h9) rfl dX5_tar_48 ?_
        refine lv_iload_n hx hb dX5_tar_51 rfl (lv_at hl 1 rfl) ?_
        refine va_iald hx hb hK hP (9 + 5) 0 (ap_r (wf_len 9 _ _) (ap_l (wf_at (by decide) rfl))) rfl (ic_in (n := 6) c_227 hC (by decide)) dX5_tar_52 ?_
        refine lv_istore_n (lv' := [(2, .int (U 5 (ix xc))), (0, .ref (am 0)), (1, .int xc)]) hx hb dX5_tar_53 rfl hl (by decide) rfl (fun ls hl => ?_)
        refine lv_aload_n hx hb dX5_tar_54 rfl (lv_at hl 1 rfl) ?_
        refine va_get (D := D) (ci := 5) (v := .ref (bs 0)) (C := RX5) (T := TX5) (N := 14) hx hb hts hin5 hown hK hP 0 (ap_l (wf_at (by decide) rfl)) rfl 12 (by decide) hf43 (fun _ h9 => h9) rfl dX5_tar_55 ?_
        refine lv_dup hx hb dX5_tar_58 rfl ?_
        refine va_getN (D := D) (ci := 4) (v := .int (U 0 1)) (C := RX4) (T := TX4) (N := 13) hx hb hts hin4 hown hK hP (9 + 0) (ap_r (wf_len 9 _ _) (ap_l (wf_at (by decide) rfl))) rfl 1 (by decide) hf74 (fun _ h9 => h9) rfl dX5_tar_59 ?_
        refine lv_iconst (v := 3) hx hb dX5_tar_62 (by decide) ?_
        refine lv_isub hx hb dX5_tar_63 ?_
        refine lv_topi (fun x_230 ex_230 => ?_)
        obtain ⟨U103, hU103⟩ : ∃ z, z = va_up U 0 (upd (U 0) 1 x_230) := ⟨_, rfl⟩
        refine va_putN (D := D) (ci := 4) (v := .int x_230) (ty := .int) (C := RX4) (T := TX4) (N := 13) hx hb hts hin4 tyX4 tyX4_ok nmX4 hown hK hP (aD_D hD (show List.map Prod.fst (moW y am (bs 0) (ba 0) (th F) ++ (stW y bs (am 0) U ++ stW y ba (am 0) X)) = _ from by rw [List.map_append, List.map_append, mo_fst y am _ _ _, st_fst y bs _ _, st_fst y ba _ _])) hS (9 + 0) (ap_r (wf_len 9 _ _) (ap_l (wf_at (by decide) rfl))) rfl 1 (by decide) hf74 (fun _ h9 => h9) rfl (by decide +kernel) rfl rfl (Nat.le_of_ble_eq_true rfl) dX5_tar_64 (fun H locs hP _ hS => ?_)
        have hP : va_P D vwCl (moW y am (bs 0) (ba 0) (th F) ++ (stW y bs (am 0) U103 ++ stW y ba (am 0) X)) H := (by rw [hU103]; exact P_eq (ap_set_r (wf_len 9 _ _) (ap_set_l (show 0 < (wf _ _ _).length by rw [wf_len]; omega) (st_set (k := 0) (upd (U 0) 1 x_230) (by decide) rfl))) hP)
        refine lv_aload_n hx hb dX5_tar_67 rfl (lv_at hl 1 rfl) ?_
        refine va_get (D := D) (ci := 5) (v := .ref (bs 0)) (C := RX5) (T := TX5) (N := 14) hx hb hts hin5 hown hK hP 0 (ap_l (wf_at (by decide) rfl)) rfl 12 (by decide) hf43 (fun _ h9 => h9) rfl dX5_tar_68 ?_
        have hf77 : (Cond.fieldLinkNest RX5 77 "CoracleMakersModel$State" "tar" "[I" "CoracleMakersModel").before a s = true := va_Nw.use rfl (hN.1 _ (List.mem_of_getElem? (i := 5) rfl))
        refine va_getN (D := D) (ci := 4) (v := .ref (bs 4)) (C := RX4) (T := TX4) (N := 13) hx hb hts hin4 hown hK hP (9 + 0) (ap_r (wf_len 9 _ _) (ap_l (wf_at (by decide) rfl))) rfl 7 (by decide) hf77 (fun _ h9 => h9) rfl dX5_tar_71 ?_
        refine lv_iload_n hx hb dX5_tar_74 rfl (lv_at hl 2 rfl) ?_
        refine lv_bipush (v := 30) hx hb dX5_tar_75 (by decide) ?_
        obtain ⟨U104, hU104⟩ : ∃ z, z = va_up U103 4 (upd (U103 4) (ix xc) 30) := ⟨_, rfl⟩
        refine va_iast hx hb hK hP (aD_D hD (show List.map Prod.fst (moW y am (bs 0) (ba 0) (th F) ++ (stW y bs (am 0) U103 ++ stW y ba (am 0) X)) = _ from by rw [List.map_append, List.map_append, mo_fst y am _ _ _, st_fst y bs _ _, st_fst y ba _ _])) hS (9 + 4) 0 (ap_r (wf_len 9 _ _) (ap_l (wf_at (by decide) rfl))) rfl (ic_in (n := 6) c_227 hC (by decide)) dX5_tar_77 (fun H locs hP _ hS => ?_)
        have hP : va_P D vwCl (moW y am (bs 0) (ba 0) (th F) ++ (stW y bs (am 0) U104 ++ stW y ba (am 0) X)) H := (by rw [hU104]; exact P_eq (ap_set_r (wf_len 9 _ _) (ap_set_l (show 4 < (wf _ _ _).length by rw [wf_len]; omega) (st_set (k := 4) (upd (U103 4) (ix xc) 30) (by decide) rfl))) hP)
        refine lv_aload_n hx hb dX5_tar_78 rfl (lv_at hl 1 rfl) ?_
        refine va_get (D := D) (ci := 5) (v := .ref (bs 0)) (C := RX5) (T := TX5) (N := 14) hx hb hts hin5 hown hK hP 0 (ap_l (wf_at (by decide) rfl)) rfl 12 (by decide) hf43 (fun _ h9 => h9) rfl dX5_tar_79 ?_
        refine va_getN (D := D) (ci := 4) (v := .ref (bs 5)) (C := RX4) (T := TX4) (N := 13) hx hb hts hin4 hown hK hP (9 + 0) (ap_r (wf_len 9 _ _) (ap_l (wf_at (by decide) rfl))) rfl 8 (by decide) hf100 (fun _ h9 => h9) rfl dX5_tar_82 ?_
        refine lv_iload_n hx hb dX5_tar_85 rfl (lv_at hl 2 rfl) ?_
        refine lv_iconst (v := 0) hx hb dX5_tar_86 (by decide) ?_
        obtain ⟨U105, hU105⟩ : ∃ z, z = va_up U104 5 (upd (U104 5) (ix xc) 0) := ⟨_, rfl⟩
        refine va_iast hx hb hK hP (aD_D hD (show List.map Prod.fst (moW y am (bs 0) (ba 0) (th F) ++ (stW y bs (am 0) U104 ++ stW y ba (am 0) X)) = _ from by rw [List.map_append, List.map_append, mo_fst y am _ _ _, st_fst y bs _ _, st_fst y ba _ _])) hS (9 + 5) 0 (ap_r (wf_len 9 _ _) (ap_l (wf_at (by decide) rfl))) rfl (ic_in (n := 6) c_227 hC (by decide)) dX5_tar_87 (fun H locs hP _ hS => ?_)
        have hP : va_P D vwCl (moW y am (bs 0) (ba 0) (th F) ++ (stW y bs (am 0) U105 ++ stW y ba (am 0) X)) H := (by rw [hU105]; exact P_eq (ap_set_r (wf_len 9 _ _) (ap_set_l (show 5 < (wf _ _ _).length by rw [wf_len]; omega) (st_set (k := 5) (upd (U104 5) (ix xc) 0) (by decide) rfl))) hP)
        refine lv_iload_n hx hb dX5_tar_88 rfl (lv_at hl 0 rfl) ?_
        have ecd : taM (th F) U xc = 0 := by unfold taM; rw [if_neg c_227, if_neg c_228, if_pos c_229]
        have hP : va_P D vwCl (moA y am bs ba (th F) (taU U (ix xc)) X) H := (by subst hU105 hU104 hU103 ex_230; exact hP)
        subst hQ
        exact W.iret (v := U 5 (ix xc)) hx hb hr (fun t ht hW => ⟨⟨_, X, rfl, fun _ => rfl, fun _ => bp_at hK hN hP t ht hW, fun h9 => absurd ecd h9⟩, hS.F ht⟩) hS.2.2 dX5_tar_89
      · refine lv_aload_n hx hb dX5_tar_38 rfl (lv_at hl 0 rfl) ?_
        refine lv_iconst (v := 2) hx hb dX5_tar_39 (by decide) ?_
        refine cWI_V (As := [.int 2]) (rest := []) ⟨hx, hb, hml, hown, hts⟩ (c_X5_no l D y _ am (bs 0) (ba 0) (th F) 2) (cwV 1 hts gX5_tar_X5_no rfl rfl rfl (by decide +kernel) ⟨Nat.le_of_ble_eq_true rfl, Nat.le_of_ble_eq_true rfl⟩) hK hN (P_l hP) (by rw [mo_fst]; exact aD_l hD) hS hA (va_recv hK hP (ci := 5) (q0 := 0) rfl (ap_l (wf_at (by decide) rfl))) rfl hl.1 rfl (Nat.le_of_ble_eq_true rfl) dX5_tar_40 ⟨Nat.le_of_ble_eq_true rfl, Nat.le_of_ble_eq_true rfl⟩ (fun H locs hP9 hk9 hS => ?_)
        have hP : va_P D vwCl (moW y am (bs 0) (ba 0) (vU (th F) 0 0 2) ++ (stW y bs (am 0) U ++ stW y ba (am 0) X)) H := fr_l hP (by rw [mo_fst, st2_fst]; exact hD) hk9 hP9
        have ecd : taM (th F) U xc = 2 := by unfold taM; rw [if_neg c_227, if_neg c_228, if_neg c_229]
        have ne9 : ¬ taM (th F) U xc = 0 := by rw [ecd]; decide
        have hP : va_P D vwCl (moW y am (bs 0) (ba 0) (vU (th F) 0 0 (nI (taM (th F) U xc))) ++ (stW y bs (am 0) U ++ stW y ba (am 0) X)) H := by rw [ecd, nI_l2]; exact hP
        subst hQ
        exact W.iret (v := 0) hx hb hr (fun t ht hW => ⟨⟨_, F, rfl, fun h9 => absurd h9 ne9, fun h9 => absurd h9 ne9, fun _ => bp_at hK hN hP t ht hW⟩, hS.F ht⟩) hS.2.2 dX5_tar_43
  · refine lv_aload_n hx hb dX5_tar_13 rfl (lv_at hl 0 rfl) ?_
    refine lv_iconst (v := 1) hx hb dX5_tar_14 (by decide) ?_
    refine cWI_V (As := [.int 1]) (rest := []) ⟨hx, hb, hml, hown, hts⟩ (c_X5_no l D y _ am (bs 0) (ba 0) (th F) 1) (cwV 1 hts gX5_tar_X5_no rfl rfl rfl (by decide +kernel) ⟨Nat.le_of_ble_eq_true rfl, Nat.le_of_ble_eq_true rfl⟩) hK hN (P_l hP) (by rw [mo_fst]; exact aD_l hD) hS hA (va_recv hK hP (ci := 5) (q0 := 0) rfl (ap_l (wf_at (by decide) rfl))) rfl hl.1 rfl (Nat.le_of_ble_eq_true rfl) dX5_tar_15 ⟨Nat.le_of_ble_eq_true rfl, Nat.le_of_ble_eq_true rfl⟩ (fun H locs hP9 hk9 hS => ?_)
    have hP : va_P D vwCl (moW y am (bs 0) (ba 0) (vU (th F) 0 0 1) ++ (stW y bs (am 0) U ++ stW y ba (am 0) X)) H := fr_l hP (by rw [mo_fst, st2_fst]; exact hD) hk9 hP9
    have ecd : taM (th F) U xc = 1 := by unfold taM; rw [if_pos c_227]
    have ne9 : ¬ taM (th F) U xc = 0 := by rw [ecd]; decide
    have hP : va_P D vwCl (moW y am (bs 0) (ba 0) (vU (th F) 0 0 (nI (taM (th F) U xc))) ++ (stW y bs (am 0) U ++ stW y ba (am 0) X)) H := by rw [ecd, nI_l1]; exact hP
    subst hQ
    exact W.iret (v := 0) hx hb hr (fun t ht hW => ⟨⟨_, F, rfl, fun h9 => absurd h9 ne9, fun h9 => absurd h9 ne9, fun _ => bp_at hK hN hP t ht hW⟩, hS.F ht⟩) hS.2.2 dX5_tar_18
abbrev rmX5_land : Room := { frames := 2, cells := 0, slots := 0, locals := 43 }
set_option maxHeartbeats 4000000 in
set_option maxRecDepth 100000 in
/-- land(xc) -/
theorem c_X5_land (l : Launch) (D : va_G) (y : Nat → ClassId) (sz : Nat) (am bs ba : Nat → Nat) (F U X : Nat → Nat → Int32) (xc : Int32) (hC : vp_in (th F 0 1) 7) : MdI (S := Nat → Nat → Int32) l D y yX5_land wsX5_land rmX5_land [.ref (am 0), .int xc] (moA y am bs ba F U X) sz (laM (th F) U xc) (2 * U 6 (ix xc)) (fun (u : Nat → Nat → Int32) => moA y am bs ba (th F) (laU U (ix xc)) u) (moA y am bs ba (vU (th F) 0 0 (nI (laM (th F) U xc))) U X) := by
  refine mW (fun A => va_Qi (fun r9 (_ : Nat → Nat → Int32) => (laM (th F) U xc) = 0 → r9 = (2 * U 6 (ix xc))) (fun u9 t9 => ((laM (th F) U xc) = 0 → Bp D y ((fun (u : Nat → Nat → Int32) => moA y am bs ba (th F) (laU U (ix xc)) u) u9) t9) ∧ (¬ (laM (th F) U xc) = 0 → Bp D y (moA y am bs ba (vU (th F) 0 0 (nI (laM (th F) U xc))) U X) t9)) A) (C := RX5) (cc := cX5_land) (maxL := 3) (ret := (some .int)) (by decide) rfl rfl (Nat.le_of_ble_eq_true rfl) ?_
  intro p e s m a below meth c ls A Q hQ hsz hx hb hr hts hown hlocks hin hml hP hK hN hD hA hS hl
  have hl : lv_has ls 3 [(0, .ref (am 0)), (1, .int xc)] := hl
  rw [moA_fst] at hD
  refine lv_aload_n hx hb dX5_land_0 rfl (lv_at hl 0 rfl) ?_
  refine lv_iconst (v := 0) hx hb dX5_land_1 (by decide) ?_
  have hin5 : ∀ w ∈ u_ws RX5 TX5 14, w ∈ wsX5_land := by decide +kernel
  have hf53 := hts (.fieldLink RX5 53 "CoracleMakersModel" "thrown" "I") (by decide +kernel)
  obtain ⟨F106, hF106⟩ : ∃ z, z = va_up F 0 (upd (F 0) 0 0) := ⟨_, rfl⟩
  refine va_put (D := D) (ci := 5) (v := .int 0) (ty := .int) (C := RX5) (T := TX5) (N := 14) hx hb hts hin5 tyX5 tyX5_ok nmX5 hown hK hP (aD_D hD (show List.map Prod.fst (moW y am (bs 0) (ba 0) F ++ (stW y bs (am 0) U ++ stW y ba (am 0) X)) = _ from by rw [List.map_append, List.map_append, mo_fst y am _ _ _, st_fst y bs _ _, st_fst y ba _ _])) hS 0 (ap_l (wf_at (by decide) rfl)) rfl 0 (by decide) hf53 (fun _ h9 => h9) rfl (by decide +kernel) rfl rfl (Nat.le_of_ble_eq_true rfl) dX5_land_2 (fun H locs hP _ hS => ?_)
  have hP : va_P D vwCl (moW y am (bs 0) (ba 0) F106 ++ (stW y bs (am 0) U ++ stW y ba (am 0) X)) H := (by rw [hF106]; exact P_eq (ap_set_l (show 0 < (wf _ _ _).length by rw [wf_len]; omega) (mo_set (k := 0) (upd (F 0) 0 0) (by decide) rfl)) hP)
  rw [show F106 = th F from hF106] at hP
  clear hF106
  clear F106
  refine lv_aload_n hx hb dX5_land_5 rfl (lv_at hl 0 rfl) ?_
  refine lv_iload_n hx hb dX5_land_6 rfl (lv_at hl 1 rfl) ?_
  refine cRI_V (As := [.int xc]) (rest := []) ⟨hx, hb, hml, hown, hts⟩ (c_X5_isCoracle l D y am (bs 0) (ba 0) (th F) xc) (cwV 1 hts gX5_land_X5_isCoracle rfl rfl rfl (by decide +kernel) ⟨Nat.le_of_ble_eq_true rfl, Nat.le_of_ble_eq_true rfl⟩) hK hN (P_l hP) (va_recv hK hP (ci := 5) (q0 := 0) rfl (ap_l (wf_at (by decide) rfl))) rfl hl.1 rfl (Nat.le_of_ble_eq_true rfl) dX5_land_7 ⟨Nat.le_of_ble_eq_true rfl, Nat.le_of_ble_eq_true rfl⟩ ?_
  refine lv_if_ne (tgt := 19) hx hb dX5_land_10 (by decide) (fun c_231 => ?_) (fun c_231 => ?_)
  · refine lv_aload_n hx hb dX5_land_19 rfl (lv_at hl 0 rfl) ?_
    refine lv_iload_n hx hb dX5_land_20 rfl (lv_at hl 1 rfl) ?_
    refine cRI_V (As := [.int xc]) (rest := []) ⟨hx, hb, hml, hown, hts⟩ (c_X5_isAtMarket l D y am bs (ba 0) (th F) U xc (ic_in (n := 6) c_231 hC (by decide))) (cwV 1 hts gX5_land_X5_isAtMarket rfl rfl rfl (by decide +kernel) ⟨Nat.le_of_ble_eq_true rfl, Nat.le_of_ble_eq_true rfl⟩) hK hN (P_xw hP) (va_recv hK hP (ci := 5) (q0 := 0) rfl (ap_l (wf_at (by decide) rfl))) rfl hl.1 rfl (Nat.le_of_ble_eq_true rfl) dX5_land_21 ⟨Nat.le_of_ble_eq_true rfl, Nat.le_of_ble_eq_true rfl⟩ ?_
    refine lv_if_ne (tgt := 33) hx hb dX5_land_24 (by decide) (fun c_232 => ?_) (fun c_232 => ?_)
    · refine lv_aload_n hx hb dX5_land_33 rfl (lv_at hl 0 rfl) ?_
      have hf43 := hts (.fieldLink RX5 43 "CoracleMakersModel" "s" "LCoracleMakersModel$State;") (by decide +kernel)
      refine va_get (D := D) (ci := 5) (v := .ref (bs 0)) (C := RX5) (T := TX5) (N := 14) hx hb hts hin5 hown hK hP 0 (ap_l (wf_at (by decide) rfl)) rfl 12 (by decide) hf43 (fun _ h9 => h9) rfl dX5_land_34 ?_
      have hin4 : ∀ w ∈ u_ws RX4 TX4 13, w ∈ wsX5_land := by decide +kernel
      have hf103 : (Cond.fieldLinkNest RX5 103 "CoracleMakersModel$State" "load" "[I" "CoracleMakersModel").before a s = true := va_Nw.use rfl (hN.1 _ (List.mem_of_getElem? (i := 7) rfl))
      refine va_getN (D := D) (ci := 4) (v := .ref (bs 6)) (C := RX4) (T := TX4) (N := 13) hx hb hts hin4 hown hK hP (9 + 0) (ap_r (wf_len 9 _ _) (ap_l (wf_at (by decide) rfl))) rfl 9 (by decide) hf103 (fun _ h9 => h9) rfl dX5_land_37 ?_
      refine lv_iload_n hx hb dX5_land_40 rfl (lv_at hl 1 rfl) ?_
      refine va_iald hx hb hK hP (9 + 6) 0 (ap_r (wf_len 9 _ _) (ap_l (wf_at (by decide) rfl))) rfl (ic_in (n := 6) c_231 hC (by decide)) dX5_land_41 ?_
      refine lv_istore_n (lv' := [(2, .int (U 6 (ix xc))), (0, .ref (am 0)), (1, .int xc)]) hx hb dX5_land_42 rfl hl (by decide) rfl (fun ls hl => ?_)
      refine lv_aload_n hx hb dX5_land_43 rfl (lv_at hl 1 rfl) ?_
      refine va_get (D := D) (ci := 5) (v := .ref (bs 0)) (C := RX5) (T := TX5) (N := 14) hx hb hts hin5 hown hK hP 0 (ap_l (wf_at (by decide) rfl)) rfl 12 (by decide) hf43 (fun _ h9 => h9) rfl dX5_land_44 ?_
      refine va_getN (D := D) (ci := 4) (v := .ref (bs 6)) (C := RX4) (T := TX4) (N := 13) hx hb hts hin4 hown hK hP (9 + 0) (ap_r (wf_len 9 _ _) (ap_l (wf_at (by decide) rfl))) rfl 9 (by decide) hf103 (fun _ h9 => h9) rfl dX5_land_47 ?_
      refine lv_iload_n hx hb dX5_land_50 rfl (lv_at hl 2 rfl) ?_
      refine lv_iconst (v := 0) hx hb dX5_land_51 (by decide) ?_
      obtain ⟨U107, hU107⟩ : ∃ z, z = va_up U 6 (upd (U 6) (ix xc) 0) := ⟨_, rfl⟩
      refine va_iast hx hb hK hP (aD_D hD (show List.map Prod.fst (moW y am (bs 0) (ba 0) (th F) ++ (stW y bs (am 0) U ++ stW y ba (am 0) X)) = _ from by rw [List.map_append, List.map_append, mo_fst y am _ _ _, st_fst y bs _ _, st_fst y ba _ _])) hS (9 + 6) 0 (ap_r (wf_len 9 _ _) (ap_l (wf_at (by decide) rfl))) rfl (ic_in (n := 6) c_231 hC (by decide)) dX5_land_52 (fun H locs hP _ hS => ?_)
      have hP : va_P D vwCl (moW y am (bs 0) (ba 0) (th F) ++ (stW y bs (am 0) U107 ++ stW y ba (am 0) X)) H := (by rw [hU107]; exact P_eq (ap_set_r (wf_len 9 _ _) (ap_set_l (show 6 < (wf _ _ _).length by rw [wf_len]; omega) (st_set (k := 6) (upd (U 6) (ix xc) 0) (by decide) rfl))) hP)
      refine lv_aload_n hx hb dX5_land_53 rfl (lv_at hl 1 rfl) ?_
      refine va_get (D := D) (ci := 5) (v := .ref (bs 0)) (C := RX5) (T := TX5) (N := 14) hx hb hts hin5 hown hK hP 0 (ap_l (wf_at (by decide) rfl)) rfl 12 (by decide) hf43 (fun _ h9 => h9) rfl dX5_land_54 ?_
      refine lv_dup hx hb dX5_land_57 rfl ?_
      have hf106 : (Cond.fieldLinkNest RX5 106 "CoracleMakersModel$State" "sold" "I" "CoracleMakersModel").before a s = true := va_Nw.use rfl (hN.1 _ (List.mem_of_getElem? (i := 1) rfl))
      refine va_getN (D := D) (ci := 4) (v := .int (U107 0 2)) (C := RX4) (T := TX4) (N := 13) hx hb hts hin4 hown hK hP (9 + 0) (ap_r (wf_len 9 _ _) (ap_l (wf_at (by decide) rfl))) rfl 2 (by decide) hf106 (fun _ h9 => h9) rfl dX5_land_58 ?_
      refine lv_iload_n hx hb dX5_land_61 rfl (lv_at hl 0 rfl) ?_
      refine lv_iadd hx hb dX5_land_62 ?_
      refine lv_topi (fun x_233 ex_233 => ?_)
      obtain ⟨U108, hU108⟩ : ∃ z, z = va_up U107 0 (upd (U107 0) 2 x_233) := ⟨_, rfl⟩
      refine va_putN (D := D) (ci := 4) (v := .int x_233) (ty := .int) (C := RX4) (T := TX4) (N := 13) hx hb hts hin4 tyX4 tyX4_ok nmX4 hown hK hP (aD_D hD (show List.map Prod.fst (moW y am (bs 0) (ba 0) (th F) ++ (stW y bs (am 0) U107 ++ stW y ba (am 0) X)) = _ from by rw [List.map_append, List.map_append, mo_fst y am _ _ _, st_fst y bs _ _, st_fst y ba _ _])) hS (9 + 0) (ap_r (wf_len 9 _ _) (ap_l (wf_at (by decide) rfl))) rfl 2 (by decide) hf106 (fun _ h9 => h9) rfl (by decide +kernel) rfl rfl (Nat.le_of_ble_eq_true rfl) dX5_land_63 (fun H locs hP _ hS => ?_)
      have hP : va_P D vwCl (moW y am (bs 0) (ba 0) (th F) ++ (stW y bs (am 0) U108 ++ stW y ba (am 0) X)) H := (by rw [hU108]; exact P_eq (ap_set_r (wf_len 9 _ _) (ap_set_l (show 0 < (wf _ _ _).length by rw [wf_len]; omega) (st_set (k := 0) (upd (U107 0) 2 x_233) (by decide) rfl))) hP)
      refine lv_aload_n hx hb dX5_land_66 rfl (lv_at hl 1 rfl) ?_
      refine va_get (D := D) (ci := 5) (v := .ref (bs 0)) (C := RX5) (T := TX5) (N := 14) hx hb hts hin5 hown hK hP 0 (ap_l (wf_at (by decide) rfl)) rfl 12 (by decide) hf43 (fun _ h9 => h9) rfl dX5_land_67 ?_
      refine lv_dup hx hb dX5_land_70 rfl ?_
      have hf74 : (Cond.fieldLinkNest RX5 74 "CoracleMakersModel$State" "coins" "I" "CoracleMakersModel").before a s = true := va_Nw.use rfl (hN.1 _ (List.mem_of_getElem? (i := 0) rfl))
      refine va_getN (D := D) (ci := 4) (v := .int (U108 0 1)) (C := RX4) (T := TX4) (N := 13) hx hb hts hin4 hown hK hP (9 + 0) (ap_r (wf_len 9 _ _) (ap_l (wf_at (by decide) rfl))) rfl 1 (by decide) hf74 (fun _ h9 => h9) rfl dX5_land_71 ?_
      refine lv_iconst (v := 2) hx hb dX5_land_74 (by decide) ?_
      refine lv_iload_n hx hb dX5_land_75 rfl (lv_at hl 0 rfl) ?_
      refine lv_imul hx hb dX5_land_76 ?_
      refine lv_iadd hx hb dX5_land_77 ?_
      refine lv_topi (fun x_234 ex_234 => ?_)
      obtain ⟨U109, hU109⟩ : ∃ z, z = va_up U108 0 (upd (U108 0) 1 x_234) := ⟨_, rfl⟩
      refine va_putN (D := D) (ci := 4) (v := .int x_234) (ty := .int) (C := RX4) (T := TX4) (N := 13) hx hb hts hin4 tyX4 tyX4_ok nmX4 hown hK hP (aD_D hD (show List.map Prod.fst (moW y am (bs 0) (ba 0) (th F) ++ (stW y bs (am 0) U108 ++ stW y ba (am 0) X)) = _ from by rw [List.map_append, List.map_append, mo_fst y am _ _ _, st_fst y bs _ _, st_fst y ba _ _])) hS (9 + 0) (ap_r (wf_len 9 _ _) (ap_l (wf_at (by decide) rfl))) rfl 1 (by decide) hf74 (fun _ h9 => h9) rfl (by decide +kernel) rfl rfl (Nat.le_of_ble_eq_true rfl) dX5_land_78 (fun H locs hP _ hS => ?_)
      have hP : va_P D vwCl (moW y am (bs 0) (ba 0) (th F) ++ (stW y bs (am 0) U109 ++ stW y ba (am 0) X)) H := (by rw [hU109]; exact P_eq (ap_set_r (wf_len 9 _ _) (ap_set_l (show 0 < (wf _ _ _).length by rw [wf_len]; omega) (st_set (k := 0) (upd (U108 0) 1 x_234) (by decide) rfl))) hP)
      refine lv_iconst (v := 2) hx hb dX5_land_81 (by decide) ?_
      refine lv_iload_n hx hb dX5_land_82 rfl (lv_at hl 0 rfl) ?_
      refine lv_imul hx hb dX5_land_83 ?_
      have ecd : laM (th F) U xc = 0 := by unfold laM; rw [if_neg c_231, if_neg c_232]
      have hP : va_P D vwCl (moA y am bs ba (th F) (laU U (ix xc)) X) H := (by subst hU109 ex_234 hU108 ex_233 hU107; exact hP)
      subst hQ
      exact W.iret (v := 2 * (U 6 (ix xc))) hx hb hr (fun t ht hW => ⟨⟨_, X, rfl, fun _ => rfl, fun _ => bp_at hK hN hP t ht hW, fun h9 => absurd ecd h9⟩, hS.F ht⟩) hS.2.2 dX5_land_84
    · refine lv_aload_n hx hb dX5_land_27 rfl (lv_at hl 0 rfl) ?_
      refine lv_iconst (v := 2) hx hb dX5_land_28 (by decide) ?_
      refine cWI_V (As := [.int 2]) (rest := []) ⟨hx, hb, hml, hown, hts⟩ (c_X5_no l D y _ am (bs 0) (ba 0) (th F) 2) (cwV 1 hts gX5_land_X5_no rfl rfl rfl (by decide +kernel) ⟨Nat.le_of_ble_eq_true rfl, Nat.le_of_ble_eq_true rfl⟩) hK hN (P_l hP) (by rw [mo_fst]; exact aD_l hD) hS hA (va_recv hK hP (ci := 5) (q0 := 0) rfl (ap_l (wf_at (by decide) rfl))) rfl hl.1 rfl (Nat.le_of_ble_eq_true rfl) dX5_land_29 ⟨Nat.le_of_ble_eq_true rfl, Nat.le_of_ble_eq_true rfl⟩ (fun H locs hP9 hk9 hS => ?_)
      have hP : va_P D vwCl (moW y am (bs 0) (ba 0) (vU (th F) 0 0 2) ++ (stW y bs (am 0) U ++ stW y ba (am 0) X)) H := fr_l hP (by rw [mo_fst, st2_fst]; exact hD) hk9 hP9
      have ecd : laM (th F) U xc = 2 := by unfold laM; rw [if_neg c_231, if_pos c_232]
      have ne9 : ¬ laM (th F) U xc = 0 := by rw [ecd]; decide
      have hP : va_P D vwCl (moW y am (bs 0) (ba 0) (vU (th F) 0 0 (nI (laM (th F) U xc))) ++ (stW y bs (am 0) U ++ stW y ba (am 0) X)) H := by rw [ecd, nI_l2]; exact hP
      subst hQ
      exact W.iret (v := 0) hx hb hr (fun t ht hW => ⟨⟨_, F, rfl, fun h9 => absurd h9 ne9, fun h9 => absurd h9 ne9, fun _ => bp_at hK hN hP t ht hW⟩, hS.F ht⟩) hS.2.2 dX5_land_32
  · refine lv_aload_n hx hb dX5_land_13 rfl (lv_at hl 0 rfl) ?_
    refine lv_iconst (v := 1) hx hb dX5_land_14 (by decide) ?_
    refine cWI_V (As := [.int 1]) (rest := []) ⟨hx, hb, hml, hown, hts⟩ (c_X5_no l D y _ am (bs 0) (ba 0) (th F) 1) (cwV 1 hts gX5_land_X5_no rfl rfl rfl (by decide +kernel) ⟨Nat.le_of_ble_eq_true rfl, Nat.le_of_ble_eq_true rfl⟩) hK hN (P_l hP) (by rw [mo_fst]; exact aD_l hD) hS hA (va_recv hK hP (ci := 5) (q0 := 0) rfl (ap_l (wf_at (by decide) rfl))) rfl hl.1 rfl (Nat.le_of_ble_eq_true rfl) dX5_land_15 ⟨Nat.le_of_ble_eq_true rfl, Nat.le_of_ble_eq_true rfl⟩ (fun H locs hP9 hk9 hS => ?_)
    have hP : va_P D vwCl (moW y am (bs 0) (ba 0) (vU (th F) 0 0 1) ++ (stW y bs (am 0) U ++ stW y ba (am 0) X)) H := fr_l hP (by rw [mo_fst, st2_fst]; exact hD) hk9 hP9
    have ecd : laM (th F) U xc = 1 := by unfold laM; rw [if_pos c_231]
    have ne9 : ¬ laM (th F) U xc = 0 := by rw [ecd]; decide
    have hP : va_P D vwCl (moW y am (bs 0) (ba 0) (vU (th F) 0 0 (nI (laM (th F) U xc))) ++ (stW y bs (am 0) U ++ stW y ba (am 0) X)) H := by rw [ecd, nI_l1]; exact hP
    subst hQ
    exact W.iret (v := 0) hx hb hr (fun t ht hW => ⟨⟨_, F, rfl, fun h9 => absurd h9 ne9, fun h9 => absurd h9 ne9, fun _ => bp_at hK hN hP t ht hW⟩, hS.F ht⟩) hS.2.2 dX5_land_18
