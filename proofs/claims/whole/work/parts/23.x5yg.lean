abbrev rmX5_about : Room := { frames := 3, cells := 0, slots := 0, locals := 66 }
set_option maxHeartbeats 4000000 in
set_option maxRecDepth 100000 in
/-- about(xc, x) -/
theorem c_X5_about (l : Launch) (D : va_G) (y : Nat → ClassId) (sz : Nat) (am bs ba : Nat → Nat) (F U X : Nat → Nat → Int32) (xc x : Int32) (hC : vp_in (th F 0 1) 7) (hT : vp_in (th F 0 2) 4) : MdI (S := Nat → Nat → Int32) l D y yX5_about wsX5_about rmX5_about [.ref (am 0), .int xc, .int x] (moA y am bs ba F U X) sz (abM (th F) xc x) (ctM (th F) U xc x) (fun (u : Nat → Nat → Int32) => moA y am bs ba (th F) U u) (moA y am bs ba (vU (th F) 0 0 (nI (abM (th F) xc x))) U X) := by
  refine mW (fun A => va_Qi (fun r9 (_ : Nat → Nat → Int32) => (abM (th F) xc x) = 0 → r9 = (ctM (th F) U xc x)) (fun u9 t9 => ((abM (th F) xc x) = 0 → Bp D y ((fun (u : Nat → Nat → Int32) => moA y am bs ba (th F) U u) u9) t9) ∧ (¬ (abM (th F) xc x) = 0 → Bp D y (moA y am bs ba (vU (th F) 0 0 (nI (abM (th F) xc x))) U X) t9)) A) (C := RX5) (cc := cX5_about) (maxL := 3) (ret := (some .int)) (by decide) rfl rfl (Nat.le_of_ble_eq_true rfl) ?_
  intro p e s m a below meth c ls A Q hQ hsz hx hb hr hts hown hlocks hin hml hP hK hN hD hA hS hl
  have hl : lv_has ls 3 [(0, .ref (am 0)), (1, .int xc), (2, .int x)] := hl
  rw [moA_fst] at hD
  refine lv_aload_n hx hb dX5_about_0 rfl (lv_at hl 0 rfl) ?_
  refine lv_iconst (v := 0) hx hb dX5_about_1 (by decide) ?_
  have hin5 : ∀ w ∈ u_ws RX5 TX5 14, w ∈ wsX5_about := by decide +kernel
  have hf53 := hts (.fieldLink RX5 53 "CoracleMakersModel" "thrown" "I") (by decide +kernel)
  obtain ⟨F110, hF110⟩ : ∃ z, z = va_up F 0 (upd (F 0) 0 0) := ⟨_, rfl⟩
  refine va_put (D := D) (ci := 5) (v := .int 0) (ty := .int) (C := RX5) (T := TX5) (N := 14) hx hb hts hin5 tyX5 tyX5_ok nmX5 hown hK hP (aD_D hD (show List.map Prod.fst (moW y am (bs 0) (ba 0) F ++ (stW y bs (am 0) U ++ stW y ba (am 0) X)) = _ from by rw [List.map_append, List.map_append, mo_fst y am _ _ _, st_fst y bs _ _, st_fst y ba _ _])) hS 0 (ap_l (wf_at (by decide) rfl)) rfl 0 (by decide) hf53 (fun _ h9 => h9) rfl (by decide +kernel) rfl rfl (Nat.le_of_ble_eq_true rfl) dX5_about_2 (fun H locs hP _ hS => ?_)
  have hP : va_P D vwCl (moW y am (bs 0) (ba 0) F110 ++ (stW y bs (am 0) U ++ stW y ba (am 0) X)) H := (by rw [hF110]; exact P_eq (ap_set_l (show 0 < (wf _ _ _).length by rw [wf_len]; omega) (mo_set (k := 0) (upd (F 0) 0 0) (by decide) rfl)) hP)
  rw [show F110 = th F from hF110] at hP
  clear hF110
  clear F110
  refine lv_aload_n hx hb dX5_about_5 rfl (lv_at hl 0 rfl) ?_
  refine lv_iload_n hx hb dX5_about_6 rfl (lv_at hl 1 rfl) ?_
  refine cRI_V (As := [.int xc]) (rest := []) ⟨hx, hb, hml, hown, hts⟩ (c_X5_isCoracle l D y am (bs 0) (ba 0) (th F) xc) (cwV 1 hts gX5_about_X5_isCoracle rfl rfl rfl (by decide +kernel) ⟨Nat.le_of_ble_eq_true rfl, Nat.le_of_ble_eq_true rfl⟩) hK hN (P_l hP) (va_recv hK hP (ci := 5) (q0 := 0) rfl (ap_l (wf_at (by decide) rfl))) rfl hl.1 rfl (Nat.le_of_ble_eq_true rfl) dX5_about_7 ⟨Nat.le_of_ble_eq_true rfl, Nat.le_of_ble_eq_true rfl⟩ ?_
  refine lv_if_eq (tgt := 32) hx hb dX5_about_10 (by decide) (fun c_235 => ?_) (fun c_235 => ?_)
  · refine lv_aload_n hx hb dX5_about_32 rfl (lv_at hl 0 rfl) ?_
    refine lv_iconst (v := 1) hx hb dX5_about_33 (by decide) ?_
    refine cWI_V (As := [.int 1]) (rest := []) ⟨hx, hb, hml, hown, hts⟩ (c_X5_no l D y _ am (bs 0) (ba 0) (th F) 1) (cwV 1 hts gX5_about_X5_no rfl rfl rfl (by decide +kernel) ⟨Nat.le_of_ble_eq_true rfl, Nat.le_of_ble_eq_true rfl⟩) hK hN (P_l hP) (by rw [mo_fst]; exact aD_l hD) hS hA (va_recv hK hP (ci := 5) (q0 := 0) rfl (ap_l (wf_at (by decide) rfl))) rfl hl.1 rfl (Nat.le_of_ble_eq_true rfl) dX5_about_34 ⟨Nat.le_of_ble_eq_true rfl, Nat.le_of_ble_eq_true rfl⟩ (fun H locs hP9 hk9 hS => ?_)
    have hP : va_P D vwCl (moW y am (bs 0) (ba 0) (vU (th F) 0 0 1) ++ (stW y bs (am 0) U ++ stW y ba (am 0) X)) H := fr_l hP (by rw [mo_fst, st2_fst]; exact hD) hk9 hP9
    have ecd : abM (th F) xc x = 1 := by unfold abM; rw [if_pos c_235]
    have ne9 : ¬ abM (th F) xc x = 0 := by rw [ecd]; decide
    have hP : va_P D vwCl (moW y am (bs 0) (ba 0) (vU (th F) 0 0 (nI (abM (th F) xc x))) ++ (stW y bs (am 0) U ++ stW y ba (am 0) X)) H := by rw [ecd, nI_l1]; exact hP
    subst hQ
    exact W.iret (v := 0) hx hb hr (fun t ht hW => ⟨⟨_, F, rfl, fun h9 => absurd h9 ne9, fun h9 => absurd h9 ne9, fun _ => bp_at hK hN hP t ht hW⟩, hS.F ht⟩) hS.2.2 dX5_about_37
  · refine lv_iload_n hx hb dX5_about_13 rfl (lv_at hl 2 rfl) ?_
    refine lv_iconst (v := 0) hx hb dX5_about_14 (by decide) ?_
    refine lv_bipush (v := 9) hx hb dX5_about_15 (by decide) ?_
    refine cRI_S (As := [.int x, .int 0, .int 9]) (rest := []) ⟨hx, hb, hml, hown, hts⟩ (c_X5_isIn l D y x 0 9) (va_cwS 3 hts gX5_about_X5_isIn rfl rfl rfl (by decide +kernel) ⟨Nat.le_of_ble_eq_true rfl, Nat.le_of_ble_eq_true rfl⟩) hK hN (P_nil D vwCl _) rfl hl.1 rfl (Nat.le_of_ble_eq_true rfl) dX5_about_17 ⟨Nat.le_of_ble_eq_true rfl, Nat.le_of_ble_eq_true rfl⟩ ?_
    refine lv_if_eq (tgt := 32) hx hb dX5_about_20 (by decide) (fun c_236 => ?_) (fun c_236 => ?_)
    · refine lv_aload_n hx hb dX5_about_32 rfl (lv_at hl 0 rfl) ?_
      refine lv_iconst (v := 1) hx hb dX5_about_33 (by decide) ?_
      refine cWI_V (As := [.int 1]) (rest := []) ⟨hx, hb, hml, hown, hts⟩ (c_X5_no l D y _ am (bs 0) (ba 0) (th F) 1) (cwV 1 hts gX5_about_X5_no rfl rfl rfl (by decide +kernel) ⟨Nat.le_of_ble_eq_true rfl, Nat.le_of_ble_eq_true rfl⟩) hK hN (P_l hP) (by rw [mo_fst]; exact aD_l hD) hS hA (va_recv hK hP (ci := 5) (q0 := 0) rfl (ap_l (wf_at (by decide) rfl))) rfl hl.1 rfl (Nat.le_of_ble_eq_true rfl) dX5_about_34 ⟨Nat.le_of_ble_eq_true rfl, Nat.le_of_ble_eq_true rfl⟩ (fun H locs hP9 hk9 hS => ?_)
      have hP : va_P D vwCl (moW y am (bs 0) (ba 0) (vU (th F) 0 0 1) ++ (stW y bs (am 0) U ++ stW y ba (am 0) X)) H := fr_l hP (by rw [mo_fst, st2_fst]; exact hD) hk9 hP9
      have ecd : abM (th F) xc x = 1 := by unfold abM; rw [if_neg c_235, if_pos c_236]
      have ne9 : ¬ abM (th F) xc x = 0 := by rw [ecd]; decide
      have hP : va_P D vwCl (moW y am (bs 0) (ba 0) (vU (th F) 0 0 (nI (abM (th F) xc x))) ++ (stW y bs (am 0) U ++ stW y ba (am 0) X)) H := by rw [ecd, nI_l1]; exact hP
      subst hQ
      exact W.iret (v := 0) hx hb hr (fun t ht hW => ⟨⟨_, F, rfl, fun h9 => absurd h9 ne9, fun h9 => absurd h9 ne9, fun _ => bp_at hK hN hP t ht hW⟩, hS.F ht⟩) hS.2.2 dX5_about_37
    · refine lv_aload_n hx hb dX5_about_23 rfl (lv_at hl 0 rfl) ?_
      refine lv_iload_n hx hb dX5_about_24 rfl (lv_at hl 1 rfl) ?_
      refine lv_iload_n hx hb dX5_about_25 rfl (lv_at hl 2 rfl) ?_
      refine cRI_V (As := [.int xc, .int x]) (rest := []) ⟨hx, hb, hml, hown, hts⟩ (c_X5_coracleTold l D y am bs (ba 0) (th F) U xc x (ic_in (n := 6) c_235 hC (by decide)) hT) (cwV 2 hts gX5_about_X5_coracleTold rfl rfl rfl (by decide +kernel) ⟨Nat.le_of_ble_eq_true rfl, Nat.le_of_ble_eq_true rfl⟩) hK hN (P_xw hP) (va_recv hK hP (ci := 5) (q0 := 0) rfl (ap_l (wf_at (by decide) rfl))) rfl hl.1 rfl (Nat.le_of_ble_eq_true rfl) dX5_about_26 ⟨Nat.le_of_ble_eq_true rfl, Nat.le_of_ble_eq_true rfl⟩ ?_
      refine lv_goto (tgt := 37) hx hb dX5_about_29 (by decide) ?_
      have ecd : abM (th F) xc x = 0 := by unfold abM; rw [if_neg c_235, if_neg c_236]
      have hP : va_P D vwCl (moA y am bs ba (th F) U X) H := (by skip; exact hP)
      subst hQ
      exact W.iret (v := ctM (th F) U xc x) hx hb hr (fun t ht hW => ⟨⟨_, X, rfl, fun _ => rfl, fun _ => bp_at hK hN hP t ht hW, fun h9 => absurd ecd h9⟩, hS.F ht⟩) hS.2.2 dX5_about_37
abbrev rmX5_told : Room := { frames := 3, cells := 0, slots := 0, locals := 69 }
set_option maxHeartbeats 4000000 in
set_option maxRecDepth 100000 in
/-- told(n, x) -/
theorem c_X5_told (l : Launch) (D : va_G) (y : Nat → ClassId) (sz : Nat) (am bs ba : Nat → Nat) (F U X : Nat → Nat → Int32) (n x : Int32) (hT : vp_in (th F 0 2) 4) (hF : ∀ n, n < 3 → vp_in (th F 6 n) 6 ∧ vp_in (th F 7 n) 6) (hA9 : ∀ k, k < 6 → vp_in (U 2 k) 16) : MdI (S := Nat → Nat → Int32) l D y yX5_told wsX5_told rmX5_told [.ref (am 0), .int n, .int x] (moA y am bs ba F U X) sz (toM (th F) n x) (nuM (th F) U (ix n) x) (fun (u : Nat → Nat → Int32) => moA y am bs ba (th F) U u) (moA y am bs ba (vU (th F) 0 0 (nI (toM (th F) n x))) U X) := by
  refine mW (fun A => va_Qi (fun r9 (_ : Nat → Nat → Int32) => (toM (th F) n x) = 0 → r9 = (nuM (th F) U (ix n) x)) (fun u9 t9 => ((toM (th F) n x) = 0 → Bp D y ((fun (u : Nat → Nat → Int32) => moA y am bs ba (th F) U u) u9) t9) ∧ (¬ (toM (th F) n x) = 0 → Bp D y (moA y am bs ba (vU (th F) 0 0 (nI (toM (th F) n x))) U X) t9)) A) (C := RX5) (cc := cX5_told) (maxL := 3) (ret := (some .int)) (by decide) rfl rfl (Nat.le_of_ble_eq_true rfl) ?_
  intro p e s m a below meth c ls A Q hQ hsz hx hb hr hts hown hlocks hin hml hP hK hN hD hA hS hl
  have hl : lv_has ls 3 [(0, .ref (am 0)), (1, .int n), (2, .int x)] := hl
  rw [moA_fst] at hD
  refine lv_aload_n hx hb dX5_told_0 rfl (lv_at hl 0 rfl) ?_
  refine lv_iconst (v := 0) hx hb dX5_told_1 (by decide) ?_
  have hin5 : ∀ w ∈ u_ws RX5 TX5 14, w ∈ wsX5_told := by decide +kernel
  have hf53 := hts (.fieldLink RX5 53 "CoracleMakersModel" "thrown" "I") (by decide +kernel)
  obtain ⟨F111, hF111⟩ : ∃ z, z = va_up F 0 (upd (F 0) 0 0) := ⟨_, rfl⟩
  refine va_put (D := D) (ci := 5) (v := .int 0) (ty := .int) (C := RX5) (T := TX5) (N := 14) hx hb hts hin5 tyX5 tyX5_ok nmX5 hown hK hP (aD_D hD (show List.map Prod.fst (moW y am (bs 0) (ba 0) F ++ (stW y bs (am 0) U ++ stW y ba (am 0) X)) = _ from by rw [List.map_append, List.map_append, mo_fst y am _ _ _, st_fst y bs _ _, st_fst y ba _ _])) hS 0 (ap_l (wf_at (by decide) rfl)) rfl 0 (by decide) hf53 (fun _ h9 => h9) rfl (by decide +kernel) rfl rfl (Nat.le_of_ble_eq_true rfl) dX5_told_2 (fun H locs hP _ hS => ?_)
  have hP : va_P D vwCl (moW y am (bs 0) (ba 0) F111 ++ (stW y bs (am 0) U ++ stW y ba (am 0) X)) H := (by rw [hF111]; exact P_eq (ap_set_l (show 0 < (wf _ _ _).length by rw [wf_len]; omega) (mo_set (k := 0) (upd (F 0) 0 0) (by decide) rfl)) hP)
  rw [show F111 = th F from hF111] at hP
  clear hF111
  clear F111
  refine lv_aload_n hx hb dX5_told_5 rfl (lv_at hl 0 rfl) ?_
  refine lv_iload_n hx hb dX5_told_6 rfl (lv_at hl 1 rfl) ?_
  refine cRI_V (As := [.int n]) (rest := []) ⟨hx, hb, hml, hown, hts⟩ (c_X5_isNet l D y am (bs 0) (ba 0) (th F) n) (cwV 1 hts gX5_told_X5_isNet rfl rfl rfl (by decide +kernel) ⟨Nat.le_of_ble_eq_true rfl, Nat.le_of_ble_eq_true rfl⟩) hK hN (P_l hP) (va_recv hK hP (ci := 5) (q0 := 0) rfl (ap_l (wf_at (by decide) rfl))) rfl hl.1 rfl (Nat.le_of_ble_eq_true rfl) dX5_told_7 ⟨Nat.le_of_ble_eq_true rfl, Nat.le_of_ble_eq_true rfl⟩ ?_
  refine lv_if_eq (tgt := 31) hx hb dX5_told_10 (by decide) (fun c_237 => ?_) (fun c_237 => ?_)
  · refine lv_aload_n hx hb dX5_told_31 rfl (lv_at hl 0 rfl) ?_
    refine lv_iconst (v := 1) hx hb dX5_told_32 (by decide) ?_
    refine cWI_V (As := [.int 1]) (rest := []) ⟨hx, hb, hml, hown, hts⟩ (c_X5_no l D y _ am (bs 0) (ba 0) (th F) 1) (cwV 1 hts gX5_told_X5_no rfl rfl rfl (by decide +kernel) ⟨Nat.le_of_ble_eq_true rfl, Nat.le_of_ble_eq_true rfl⟩) hK hN (P_l hP) (by rw [mo_fst]; exact aD_l hD) hS hA (va_recv hK hP (ci := 5) (q0 := 0) rfl (ap_l (wf_at (by decide) rfl))) rfl hl.1 rfl (Nat.le_of_ble_eq_true rfl) dX5_told_33 ⟨Nat.le_of_ble_eq_true rfl, Nat.le_of_ble_eq_true rfl⟩ (fun H locs hP9 hk9 hS => ?_)
    have hP : va_P D vwCl (moW y am (bs 0) (ba 0) (vU (th F) 0 0 1) ++ (stW y bs (am 0) U ++ stW y ba (am 0) X)) H := fr_l hP (by rw [mo_fst, st2_fst]; exact hD) hk9 hP9
    have ecd : toM (th F) n x = 1 := by unfold toM; rw [if_pos c_237]
    have ne9 : ¬ toM (th F) n x = 0 := by rw [ecd]; decide
    have hP : va_P D vwCl (moW y am (bs 0) (ba 0) (vU (th F) 0 0 (nI (toM (th F) n x))) ++ (stW y bs (am 0) U ++ stW y ba (am 0) X)) H := by rw [ecd, nI_l1]; exact hP
    subst hQ
    exact W.iret (v := 0) hx hb hr (fun t ht hW => ⟨⟨_, F, rfl, fun h9 => absurd h9 ne9, fun h9 => absurd h9 ne9, fun _ => bp_at hK hN hP t ht hW⟩, hS.F ht⟩) hS.2.2 dX5_told_36
  · refine lv_iload_n hx hb dX5_told_13 rfl (lv_at hl 2 rfl) ?_
    refine lv_iconst (v := 0) hx hb dX5_told_14 (by decide) ?_
    refine lv_iconst (v := 3) hx hb dX5_told_15 (by decide) ?_
    refine cRI_S (As := [.int x, .int 0, .int 3]) (rest := []) ⟨hx, hb, hml, hown, hts⟩ (c_X5_isIn l D y x 0 3) (va_cwS 3 hts gX5_told_X5_isIn rfl rfl rfl (by decide +kernel) ⟨Nat.le_of_ble_eq_true rfl, Nat.le_of_ble_eq_true rfl⟩) hK hN (P_nil D vwCl _) rfl hl.1 rfl (Nat.le_of_ble_eq_true rfl) dX5_told_16 ⟨Nat.le_of_ble_eq_true rfl, Nat.le_of_ble_eq_true rfl⟩ ?_
    refine lv_if_eq (tgt := 31) hx hb dX5_told_19 (by decide) (fun c_238 => ?_) (fun c_238 => ?_)
    · refine lv_aload_n hx hb dX5_told_31 rfl (lv_at hl 0 rfl) ?_
      refine lv_iconst (v := 1) hx hb dX5_told_32 (by decide) ?_
      refine cWI_V (As := [.int 1]) (rest := []) ⟨hx, hb, hml, hown, hts⟩ (c_X5_no l D y _ am (bs 0) (ba 0) (th F) 1) (cwV 1 hts gX5_told_X5_no rfl rfl rfl (by decide +kernel) ⟨Nat.le_of_ble_eq_true rfl, Nat.le_of_ble_eq_true rfl⟩) hK hN (P_l hP) (by rw [mo_fst]; exact aD_l hD) hS hA (va_recv hK hP (ci := 5) (q0 := 0) rfl (ap_l (wf_at (by decide) rfl))) rfl hl.1 rfl (Nat.le_of_ble_eq_true rfl) dX5_told_33 ⟨Nat.le_of_ble_eq_true rfl, Nat.le_of_ble_eq_true rfl⟩ (fun H locs hP9 hk9 hS => ?_)
      have hP : va_P D vwCl (moW y am (bs 0) (ba 0) (vU (th F) 0 0 1) ++ (stW y bs (am 0) U ++ stW y ba (am 0) X)) H := fr_l hP (by rw [mo_fst, st2_fst]; exact hD) hk9 hP9
      have ecd : toM (th F) n x = 1 := by unfold toM; rw [if_neg c_237, if_pos c_238]
      have ne9 : ¬ toM (th F) n x = 0 := by rw [ecd]; decide
      have hP : va_P D vwCl (moW y am (bs 0) (ba 0) (vU (th F) 0 0 (nI (toM (th F) n x))) ++ (stW y bs (am 0) U ++ stW y ba (am 0) X)) H := by rw [ecd, nI_l1]; exact hP
      subst hQ
      exact W.iret (v := 0) hx hb hr (fun t ht hW => ⟨⟨_, F, rfl, fun h9 => absurd h9 ne9, fun h9 => absurd h9 ne9, fun _ => bp_at hK hN hP t ht hW⟩, hS.F ht⟩) hS.2.2 dX5_told_36
    · refine lv_aload_n hx hb dX5_told_22 rfl (lv_at hl 0 rfl) ?_
      refine lv_iload_n hx hb dX5_told_23 rfl (lv_at hl 1 rfl) ?_
      refine lv_iload_n hx hb dX5_told_24 rfl (lv_at hl 2 rfl) ?_
      refine cRI_V (As := [.int n, .int x]) (rest := []) ⟨hx, hb, hml, hown, hts⟩ (c_X5_netTold l D y am bs (ba 0) (th F) U n x (ic_in (n := 3) c_237 hT (by decide)) hF hA9) (cwV 2 hts gX5_told_X5_netTold rfl rfl rfl (by decide +kernel) ⟨Nat.le_of_ble_eq_true rfl, Nat.le_of_ble_eq_true rfl⟩) hK hN (P_xw hP) (va_recv hK hP (ci := 5) (q0 := 0) rfl (ap_l (wf_at (by decide) rfl))) rfl hl.1 rfl (Nat.le_of_ble_eq_true rfl) dX5_told_25 ⟨Nat.le_of_ble_eq_true rfl, Nat.le_of_ble_eq_true rfl⟩ ?_
      refine lv_goto (tgt := 36) hx hb dX5_told_28 (by decide) ?_
      have ecd : toM (th F) n x = 0 := by unfold toM; rw [if_neg c_237, if_neg c_238]
      have hP : va_P D vwCl (moA y am bs ba (th F) U X) H := (by skip; exact hP)
      subst hQ
      exact W.iret (v := nuM (th F) U (ix n) x) hx hb hr (fun t ht hW => ⟨⟨_, X, rfl, fun _ => rfl, fun _ => bp_at hK hN hP t ht hW, fun h9 => absurd ecd h9⟩, hS.F ht⟩) hS.2.2 dX5_told_36
abbrev rmX5_reach : Room := { frames := 1, cells := 0, slots := 0, locals := 24 }
set_option maxHeartbeats 4000000 in
set_option maxRecDepth 100000 in
/-- reach(xr, x) -/
theorem c_X5_reach (l : Launch) (D : va_G) (y : Nat → ClassId) (sz : Nat) (am bs ba : Nat → Nat) (F U X : Nat → Nat → Int32) (xr x : Int32) (hC : vp_in (th F 0 1) 7) : MdI (S := Nat → Nat → Int32) l D y yX5_reach wsX5_reach rmX5_reach [.ref (am 0), .int xr, .int x] (moA y am bs ba F U X) sz (reM xr x) (rtM (th F) U xr x) (fun (u : Nat → Nat → Int32) => moA y am bs ba (th F) U u) (moA y am bs ba (vU (th F) 0 0 (nI (reM xr x))) U X) := by
  refine mW (fun A => va_Qi (fun r9 (_ : Nat → Nat → Int32) => (reM xr x) = 0 → r9 = (rtM (th F) U xr x)) (fun u9 t9 => ((reM xr x) = 0 → Bp D y ((fun (u : Nat → Nat → Int32) => moA y am bs ba (th F) U u) u9) t9) ∧ (¬ (reM xr x) = 0 → Bp D y (moA y am bs ba (vU (th F) 0 0 (nI (reM xr x))) U X) t9)) A) (C := RX5) (cc := cX5_reach) (maxL := 3) (ret := (some .int)) (by decide) rfl rfl (Nat.le_of_ble_eq_true rfl) ?_
  intro p e s m a below meth c ls A Q hQ hsz hx hb hr hts hown hlocks hin hml hP hK hN hD hA hS hl
  have hl : lv_has ls 3 [(0, .ref (am 0)), (1, .int xr), (2, .int x)] := hl
  rw [moA_fst] at hD
  refine lv_aload_n hx hb dX5_reach_0 rfl (lv_at hl 0 rfl) ?_
  refine lv_iconst (v := 0) hx hb dX5_reach_1 (by decide) ?_
  have hin5 : ∀ w ∈ u_ws RX5 TX5 14, w ∈ wsX5_reach := by decide +kernel
  have hf53 := hts (.fieldLink RX5 53 "CoracleMakersModel" "thrown" "I") (by decide +kernel)
  obtain ⟨F112, hF112⟩ : ∃ z, z = va_up F 0 (upd (F 0) 0 0) := ⟨_, rfl⟩
  refine va_put (D := D) (ci := 5) (v := .int 0) (ty := .int) (C := RX5) (T := TX5) (N := 14) hx hb hts hin5 tyX5 tyX5_ok nmX5 hown hK hP (aD_D hD (show List.map Prod.fst (moW y am (bs 0) (ba 0) F ++ (stW y bs (am 0) U ++ stW y ba (am 0) X)) = _ from by rw [List.map_append, List.map_append, mo_fst y am _ _ _, st_fst y bs _ _, st_fst y ba _ _])) hS 0 (ap_l (wf_at (by decide) rfl)) rfl 0 (by decide) hf53 (fun _ h9 => h9) rfl (by decide +kernel) rfl rfl (Nat.le_of_ble_eq_true rfl) dX5_reach_2 (fun H locs hP _ hS => ?_)
  have hP : va_P D vwCl (moW y am (bs 0) (ba 0) F112 ++ (stW y bs (am 0) U ++ stW y ba (am 0) X)) H := (by rw [hF112]; exact P_eq (ap_set_l (show 0 < (wf _ _ _).length by rw [wf_len]; omega) (mo_set (k := 0) (upd (F 0) 0 0) (by decide) rfl)) hP)
  rw [show F112 = th F from hF112] at hP
  clear hF112
  clear F112
  refine lv_iload_n hx hb dX5_reach_5 rfl (lv_at hl 1 rfl) ?_
  refine lv_iconst (v := 0) hx hb dX5_reach_6 (by decide) ?_
  refine lv_bipush (v := 15) hx hb dX5_reach_7 (by decide) ?_
  refine cRI_S (As := [.int xr, .int 0, .int 15]) (rest := []) ⟨hx, hb, hml, hown, hts⟩ (c_X5_isIn l D y xr 0 15) (va_cwS 3 hts gX5_reach_X5_isIn rfl rfl rfl (by decide +kernel) ⟨Nat.le_of_ble_eq_true rfl, Nat.le_of_ble_eq_true rfl⟩) hK hN (P_nil D vwCl _) rfl hl.1 rfl (Nat.le_of_ble_eq_true rfl) dX5_reach_9 ⟨Nat.le_of_ble_eq_true rfl, Nat.le_of_ble_eq_true rfl⟩ ?_
  refine lv_if_eq (tgt := 33) hx hb dX5_reach_12 (by decide) (fun c_239 => ?_) (fun c_239 => ?_)
  · refine lv_aload_n hx hb dX5_reach_33 rfl (lv_at hl 0 rfl) ?_
    refine lv_iconst (v := 1) hx hb dX5_reach_34 (by decide) ?_
    refine cWI_V (As := [.int 1]) (rest := []) ⟨hx, hb, hml, hown, hts⟩ (c_X5_no l D y _ am (bs 0) (ba 0) (th F) 1) (cwV 1 hts gX5_reach_X5_no rfl rfl rfl (by decide +kernel) ⟨Nat.le_of_ble_eq_true rfl, Nat.le_of_ble_eq_true rfl⟩) hK hN (P_l hP) (by rw [mo_fst]; exact aD_l hD) hS hA (va_recv hK hP (ci := 5) (q0 := 0) rfl (ap_l (wf_at (by decide) rfl))) rfl hl.1 rfl (Nat.le_of_ble_eq_true rfl) dX5_reach_35 ⟨Nat.le_of_ble_eq_true rfl, Nat.le_of_ble_eq_true rfl⟩ (fun H locs hP9 hk9 hS => ?_)
    have hP : va_P D vwCl (moW y am (bs 0) (ba 0) (vU (th F) 0 0 1) ++ (stW y bs (am 0) U ++ stW y ba (am 0) X)) H := fr_l hP (by rw [mo_fst, st2_fst]; exact hD) hk9 hP9
    have ecd : reM xr x = 1 := by unfold reM; rw [if_pos c_239]
    have ne9 : ¬ reM xr x = 0 := by rw [ecd]; decide
    have hP : va_P D vwCl (moW y am (bs 0) (ba 0) (vU (th F) 0 0 (nI (reM xr x))) ++ (stW y bs (am 0) U ++ stW y ba (am 0) X)) H := by rw [ecd, nI_l1]; exact hP
    subst hQ
    exact W.iret (v := 0) hx hb hr (fun t ht hW => ⟨⟨_, F, rfl, fun h9 => absurd h9 ne9, fun h9 => absurd h9 ne9, fun _ => bp_at hK hN hP t ht hW⟩, hS.F ht⟩) hS.2.2 dX5_reach_38
  · refine lv_iload_n hx hb dX5_reach_15 rfl (lv_at hl 2 rfl) ?_
    refine lv_iconst (v := 0) hx hb dX5_reach_16 (by decide) ?_
    refine lv_iconst (v := 1) hx hb dX5_reach_17 (by decide) ?_
    refine cRI_S (As := [.int x, .int 0, .int 1]) (rest := []) ⟨hx, hb, hml, hown, hts⟩ (c_X5_isIn l D y x 0 1) (va_cwS 3 hts gX5_reach_X5_isIn rfl rfl rfl (by decide +kernel) ⟨Nat.le_of_ble_eq_true rfl, Nat.le_of_ble_eq_true rfl⟩) hK hN (P_nil D vwCl _) rfl hl.1 rfl (Nat.le_of_ble_eq_true rfl) dX5_reach_18 ⟨Nat.le_of_ble_eq_true rfl, Nat.le_of_ble_eq_true rfl⟩ ?_
    refine lv_if_eq (tgt := 33) hx hb dX5_reach_21 (by decide) (fun c_240 => ?_) (fun c_240 => ?_)
    · refine lv_aload_n hx hb dX5_reach_33 rfl (lv_at hl 0 rfl) ?_
      refine lv_iconst (v := 1) hx hb dX5_reach_34 (by decide) ?_
      refine cWI_V (As := [.int 1]) (rest := []) ⟨hx, hb, hml, hown, hts⟩ (c_X5_no l D y _ am (bs 0) (ba 0) (th F) 1) (cwV 1 hts gX5_reach_X5_no rfl rfl rfl (by decide +kernel) ⟨Nat.le_of_ble_eq_true rfl, Nat.le_of_ble_eq_true rfl⟩) hK hN (P_l hP) (by rw [mo_fst]; exact aD_l hD) hS hA (va_recv hK hP (ci := 5) (q0 := 0) rfl (ap_l (wf_at (by decide) rfl))) rfl hl.1 rfl (Nat.le_of_ble_eq_true rfl) dX5_reach_35 ⟨Nat.le_of_ble_eq_true rfl, Nat.le_of_ble_eq_true rfl⟩ (fun H locs hP9 hk9 hS => ?_)
      have hP : va_P D vwCl (moW y am (bs 0) (ba 0) (vU (th F) 0 0 1) ++ (stW y bs (am 0) U ++ stW y ba (am 0) X)) H := fr_l hP (by rw [mo_fst, st2_fst]; exact hD) hk9 hP9
      have ecd : reM xr x = 1 := by unfold reM; rw [if_neg c_239, if_pos c_240]
      have ne9 : ¬ reM xr x = 0 := by rw [ecd]; decide
      have hP : va_P D vwCl (moW y am (bs 0) (ba 0) (vU (th F) 0 0 (nI (reM xr x))) ++ (stW y bs (am 0) U ++ stW y ba (am 0) X)) H := by rw [ecd, nI_l1]; exact hP
      subst hQ
      exact W.iret (v := 0) hx hb hr (fun t ht hW => ⟨⟨_, F, rfl, fun h9 => absurd h9 ne9, fun h9 => absurd h9 ne9, fun _ => bp_at hK hN hP t ht hW⟩, hS.F ht⟩) hS.2.2 dX5_reach_38
    · refine lv_aload_n hx hb dX5_reach_24 rfl (lv_at hl 0 rfl) ?_
      refine lv_iload_n hx hb dX5_reach_25 rfl (lv_at hl 1 rfl) ?_
      refine lv_iload_n hx hb dX5_reach_26 rfl (lv_at hl 2 rfl) ?_
      refine cRI_V (As := [.int xr, .int x]) (rest := []) ⟨hx, hb, hml, hown, hts⟩ (c_X5_reachTold l D y am bs (ba 0) (th F) U xr x (ii_in (n := 16) c_239 (by decide) (by decide)) hC) (cwV 2 hts gX5_reach_X5_reachTold rfl rfl rfl (by decide +kernel) ⟨Nat.le_of_ble_eq_true rfl, Nat.le_of_ble_eq_true rfl⟩) hK hN (P_xw hP) (va_recv hK hP (ci := 5) (q0 := 0) rfl (ap_l (wf_at (by decide) rfl))) rfl hl.1 rfl (Nat.le_of_ble_eq_true rfl) dX5_reach_27 ⟨Nat.le_of_ble_eq_true rfl, Nat.le_of_ble_eq_true rfl⟩ ?_
      refine lv_goto (tgt := 38) hx hb dX5_reach_30 (by decide) ?_
      have ecd : reM xr x = 0 := by unfold reM; rw [if_neg c_239, if_neg c_240]
      have hP : va_P D vwCl (moA y am bs ba (th F) U X) H := (by skip; exact hP)
      subst hQ
      exact W.iret (v := rtM (th F) U xr x) hx hb hr (fun t ht hW => ⟨⟨_, X, rfl, fun _ => rfl, fun _ => bp_at hK hN hP t ht hW, fun h9 => absurd ecd h9⟩, hS.F ht⟩) hS.2.2 dX5_reach_38
abbrev rmX5_count : Room := { frames := 2, cells := 0, slots := 0, locals := 47 }
set_option maxHeartbeats 4000000 in
set_option maxRecDepth 100000 in
/-- count(x) -/
theorem c_X5_count (l : Launch) (D : va_G) (y : Nat → ClassId) (sz : Nat) (am bs ba : Nat → Nat) (F U X : Nat → Nat → Int32) (x : Int32) (hC : vp_in (th F 0 1) 7) : MdI (S := Nat → Nat → Int32) l D y yX5_count wsX5_count rmX5_count [.ref (am 0), .int x] (moA y am bs ba F U X) sz (coM x) (cuM (th F) U x) (fun (u : Nat → Nat → Int32) => moA y am bs ba (th F) U u) (moA y am bs ba (vU (th F) 0 0 (nI (coM x))) U X) := by
  refine mW (fun A => va_Qi (fun r9 (_ : Nat → Nat → Int32) => (coM x) = 0 → r9 = (cuM (th F) U x)) (fun u9 t9 => ((coM x) = 0 → Bp D y ((fun (u : Nat → Nat → Int32) => moA y am bs ba (th F) U u) u9) t9) ∧ (¬ (coM x) = 0 → Bp D y (moA y am bs ba (vU (th F) 0 0 (nI (coM x))) U X) t9)) A) (C := RX5) (cc := cX5_count) (maxL := 2) (ret := (some .int)) (by decide) rfl rfl (Nat.le_of_ble_eq_true rfl) ?_
  intro p e s m a below meth c ls A Q hQ hsz hx hb hr hts hown hlocks hin hml hP hK hN hD hA hS hl
  have hl : lv_has ls 2 [(0, .ref (am 0)), (1, .int x)] := hl
  rw [moA_fst] at hD
  refine lv_aload_n hx hb dX5_count_0 rfl (lv_at hl 0 rfl) ?_
  refine lv_iconst (v := 0) hx hb dX5_count_1 (by decide) ?_
  have hin5 : ∀ w ∈ u_ws RX5 TX5 14, w ∈ wsX5_count := by decide +kernel
  have hf53 := hts (.fieldLink RX5 53 "CoracleMakersModel" "thrown" "I") (by decide +kernel)
  obtain ⟨F113, hF113⟩ : ∃ z, z = va_up F 0 (upd (F 0) 0 0) := ⟨_, rfl⟩
  refine va_put (D := D) (ci := 5) (v := .int 0) (ty := .int) (C := RX5) (T := TX5) (N := 14) hx hb hts hin5 tyX5 tyX5_ok nmX5 hown hK hP (aD_D hD (show List.map Prod.fst (moW y am (bs 0) (ba 0) F ++ (stW y bs (am 0) U ++ stW y ba (am 0) X)) = _ from by rw [List.map_append, List.map_append, mo_fst y am _ _ _, st_fst y bs _ _, st_fst y ba _ _])) hS 0 (ap_l (wf_at (by decide) rfl)) rfl 0 (by decide) hf53 (fun _ h9 => h9) rfl (by decide +kernel) rfl rfl (Nat.le_of_ble_eq_true rfl) dX5_count_2 (fun H locs hP _ hS => ?_)
  have hP : va_P D vwCl (moW y am (bs 0) (ba 0) F113 ++ (stW y bs (am 0) U ++ stW y ba (am 0) X)) H := (by rw [hF113]; exact P_eq (ap_set_l (show 0 < (wf _ _ _).length by rw [wf_len]; omega) (mo_set (k := 0) (upd (F 0) 0 0) (by decide) rfl)) hP)
  rw [show F113 = th F from hF113] at hP
  clear hF113
  clear F113
  refine lv_iload_n hx hb dX5_count_5 rfl (lv_at hl 1 rfl) ?_
  refine lv_iconst (v := 0) hx hb dX5_count_6 (by decide) ?_
  refine lv_bipush (v := 12) hx hb dX5_count_7 (by decide) ?_
  refine cRI_S (As := [.int x, .int 0, .int 12]) (rest := []) ⟨hx, hb, hml, hown, hts⟩ (c_X5_isIn l D y x 0 12) (va_cwS 3 hts gX5_count_X5_isIn rfl rfl rfl (by decide +kernel) ⟨Nat.le_of_ble_eq_true rfl, Nat.le_of_ble_eq_true rfl⟩) hK hN (P_nil D vwCl _) rfl hl.1 rfl (Nat.le_of_ble_eq_true rfl) dX5_count_9 ⟨Nat.le_of_ble_eq_true rfl, Nat.le_of_ble_eq_true rfl⟩ ?_
  refine lv_if_eq (tgt := 26) hx hb dX5_count_12 (by decide) (fun c_241 => ?_) (fun c_241 => ?_)
  · refine lv_aload_n hx hb dX5_count_26 rfl (lv_at hl 0 rfl) ?_
    refine lv_iconst (v := 1) hx hb dX5_count_27 (by decide) ?_
    refine cWI_V (As := [.int 1]) (rest := []) ⟨hx, hb, hml, hown, hts⟩ (c_X5_no l D y _ am (bs 0) (ba 0) (th F) 1) (cwV 1 hts gX5_count_X5_no rfl rfl rfl (by decide +kernel) ⟨Nat.le_of_ble_eq_true rfl, Nat.le_of_ble_eq_true rfl⟩) hK hN (P_l hP) (by rw [mo_fst]; exact aD_l hD) hS hA (va_recv hK hP (ci := 5) (q0 := 0) rfl (ap_l (wf_at (by decide) rfl))) rfl hl.1 rfl (Nat.le_of_ble_eq_true rfl) dX5_count_28 ⟨Nat.le_of_ble_eq_true rfl, Nat.le_of_ble_eq_true rfl⟩ (fun H locs hP9 hk9 hS => ?_)
    have hP : va_P D vwCl (moW y am (bs 0) (ba 0) (vU (th F) 0 0 1) ++ (stW y bs (am 0) U ++ stW y ba (am 0) X)) H := fr_l hP (by rw [mo_fst, st2_fst]; exact hD) hk9 hP9
    have ecd : coM x = 1 := by unfold coM; rw [if_pos c_241]
    have ne9 : ¬ coM x = 0 := by rw [ecd]; decide
    have hP : va_P D vwCl (moW y am (bs 0) (ba 0) (vU (th F) 0 0 (nI (coM x))) ++ (stW y bs (am 0) U ++ stW y ba (am 0) X)) H := by rw [ecd, nI_l1]; exact hP
    subst hQ
    exact W.iret (v := 0) hx hb hr (fun t ht hW => ⟨⟨_, F, rfl, fun h9 => absurd h9 ne9, fun h9 => absurd h9 ne9, fun _ => bp_at hK hN hP t ht hW⟩, hS.F ht⟩) hS.2.2 dX5_count_31
  · refine lv_aload_n hx hb dX5_count_15 rfl (lv_at hl 0 rfl) ?_
    have hf43 := hts (.fieldLink RX5 43 "CoracleMakersModel" "s" "LCoracleMakersModel$State;") (by decide +kernel)
    refine va_get (D := D) (ci := 5) (v := .ref (bs 0)) (C := RX5) (T := TX5) (N := 14) hx hb hts hin5 hown hK hP 0 (ap_l (wf_at (by decide) rfl)) rfl 12 (by decide) hf43 (fun _ h9 => h9) rfl dX5_count_16 ?_
    refine lv_iload_n hx hb dX5_count_19 rfl (lv_at hl 1 rfl) ?_
    refine cRI_V (As := [.int x]) (rest := []) ⟨hx, hb, hml, hown, hts⟩ (c_X4_counted l D y am bs (bs 0) (ba 0) (th F) U x (ii_in (n := 13) c_241 (by decide) (by decide)) hC) (cwV 1 hts gX5_count_X4_counted rfl rfl rfl (by decide +kernel) ⟨Nat.le_of_ble_eq_true rfl, Nat.le_of_ble_eq_true rfl⟩) hK hN (P_xw hP) (va_recv hK hP (ci := 4) (q0 := (9 + 0)) rfl (ap_r (wf_len 9 _ _) (ap_l (wf_at (by decide) rfl)))) rfl hl.1 rfl (Nat.le_of_ble_eq_true rfl) dX5_count_20 ⟨Nat.le_of_ble_eq_true rfl, Nat.le_of_ble_eq_true rfl⟩ ?_
    refine lv_goto (tgt := 31) hx hb dX5_count_23 (by decide) ?_
    have ecd : coM x = 0 := by unfold coM; rw [if_neg c_241]
    have hP : va_P D vwCl (moA y am bs ba (th F) U X) H := (by skip; exact hP)
    subst hQ
    exact W.iret (v := cuM (th F) U x) hx hb hr (fun t ht hW => ⟨⟨_, X, rfl, fun _ => rfl, fun _ => bp_at hK hN hP t ht hW, fun h9 => absurd ecd h9⟩, hS.F ht⟩) hS.2.2 dX5_count_31
