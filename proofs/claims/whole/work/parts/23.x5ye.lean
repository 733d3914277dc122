abbrev rmX5_net : Room := { frames := 2, cells := 0, slots := 0, locals := 43 }
set_option maxHeartbeats 4000000 in
set_option maxRecDepth 100000 in
/-- net(xa, xb) -/
theorem c_X5_net (l : Launch) (D : va_G) (y : Nat → ClassId) (sz : Nat) (am bs ba : Nat → Nat) (F U X : Nat → Nat → Int32) (xa xb : Int32) (hT : vp_in (th F 0 2) 4) (hT9 : ntM (th F) xa xb = 0 → vp_in (th F 0 2) 3) : MdI (S := Nat → Nat → Int32) l D y yX5_net wsX5_net rmX5_net [.ref (am 0), .int xa, .int xb] (moA y am bs ba F U X) sz (ntM (th F) xa xb) (th F 0 2) (fun (u : Nat → Nat → Int32) => moA y am bs ba (ntF (th F) xa xb) U u) (moA y am bs ba (vU (th F) 0 0 (nI (ntM (th F) xa xb))) U X) := by
  refine mW (fun A => va_Qi (fun r9 (_ : Nat → Nat → Int32) => (ntM (th F) xa xb) = 0 → r9 = (th F 0 2)) (fun u9 t9 => ((ntM (th F) xa xb) = 0 → Bp D y ((fun (u : Nat → Nat → Int32) => moA y am bs ba (ntF (th F) xa xb) U u) u9) t9) ∧ (¬ (ntM (th F) xa xb) = 0 → Bp D y (moA y am bs ba (vU (th F) 0 0 (nI (ntM (th F) xa xb))) U X) t9)) A) (C := RX5) (cc := cX5_net) (maxL := 3) (ret := (some .int)) (by decide) rfl rfl (Nat.le_of_ble_eq_true rfl) ?_
  intro p e s m a below meth c ls A Q hQ hsz hx hb hr hts hown hlocks hin hml hP hK hN hD hA hS hl
  have hl : lv_has ls 3 [(0, .ref (am 0)), (1, .int xa), (2, .int xb)] := hl
  rw [moA_fst] at hD
  refine lv_aload_n hx hb dX5_net_0 rfl (lv_at hl 0 rfl) ?_
  refine lv_iconst (v := 0) hx hb dX5_net_1 (by decide) ?_
  have hin5 : ∀ w ∈ u_ws RX5 TX5 14, w ∈ wsX5_net := by decide +kernel
  have hf53 := hts (.fieldLink RX5 53 "CoracleMakersModel" "thrown" "I") (by decide +kernel)
  obtain ⟨F96, hF96⟩ : ∃ z, z = va_up F 0 (upd (F 0) 0 0) := ⟨_, rfl⟩
  refine va_put (D := D) (ci := 5) (v := .int 0) (ty := .int) (C := RX5) (T := TX5) (N := 14) hx hb hts hin5 tyX5 tyX5_ok nmX5 hown hK hP (aD_D hD (show List.map Prod.fst (moW y am (bs 0) (ba 0) F ++ (stW y bs (am 0) U ++ stW y ba (am 0) X)) = _ from by rw [List.map_append, List.map_append, mo_fst y am _ _ _, st_fst y bs _ _, st_fst y ba _ _])) hS 0 (ap_l (wf_at (by decide) rfl)) rfl 0 (by decide) hf53 (fun _ h9 => h9) rfl (by decide +kernel) rfl rfl (Nat.le_of_ble_eq_true rfl) dX5_net_2 (fun H locs hP _ hS => ?_)
  have hP : va_P D vwCl (moW y am (bs 0) (ba 0) F96 ++ (stW y bs (am 0) U ++ stW y ba (am 0) X)) H := (by rw [hF96]; exact P_eq (ap_set_l (show 0 < (wf _ _ _).length by rw [wf_len]; omega) (mo_set (k := 0) (upd (F 0) 0 0) (by decide) rfl)) hP)
  rw [show F96 = th F from hF96] at hP
  clear hF96
  clear F96
  refine lv_aload_n hx hb dX5_net_5 rfl (lv_at hl 0 rfl) ?_
  refine lv_iload_n hx hb dX5_net_6 rfl (lv_at hl 1 rfl) ?_
  refine cRI_V (As := [.int xa]) (rest := []) ⟨hx, hb, hml, hown, hts⟩ (c_X5_isCoracle l D y am (bs 0) (ba 0) (th F) xa) (cwV 1 hts gX5_net_X5_isCoracle rfl rfl rfl (by decide +kernel) ⟨Nat.le_of_ble_eq_true rfl, Nat.le_of_ble_eq_true rfl⟩) hK hN (P_l hP) (va_recv hK hP (ci := 5) (q0 := 0) rfl (ap_l (wf_at (by decide) rfl))) rfl hl.1 rfl (Nat.le_of_ble_eq_true rfl) dX5_net_7 ⟨Nat.le_of_ble_eq_true rfl, Nat.le_of_ble_eq_true rfl⟩ ?_
  refine lv_if_eq (tgt := 21) hx hb dX5_net_10 (by decide) (fun c_219 => ?_) (fun c_219 => ?_)
  · refine lv_aload_n hx hb dX5_net_21 rfl (lv_at hl 0 rfl) ?_
    refine lv_iconst (v := 1) hx hb dX5_net_22 (by decide) ?_
    refine cWI_V (As := [.int 1]) (rest := []) ⟨hx, hb, hml, hown, hts⟩ (c_X5_no l D y _ am (bs 0) (ba 0) (th F) 1) (cwV 1 hts gX5_net_X5_no rfl rfl rfl (by decide +kernel) ⟨Nat.le_of_ble_eq_true rfl, Nat.le_of_ble_eq_true rfl⟩) hK hN (P_l hP) (by rw [mo_fst]; exact aD_l hD) hS hA (va_recv hK hP (ci := 5) (q0 := 0) rfl (ap_l (wf_at (by decide) rfl))) rfl hl.1 rfl (Nat.le_of_ble_eq_true rfl) dX5_net_23 ⟨Nat.le_of_ble_eq_true rfl, Nat.le_of_ble_eq_true rfl⟩ (fun H locs hP9 hk9 hS => ?_)
    have hP : va_P D vwCl (moW y am (bs 0) (ba 0) (vU (th F) 0 0 1) ++ (stW y bs (am 0) U ++ stW y ba (am 0) X)) H := fr_l hP (by rw [mo_fst, st2_fst]; exact hD) hk9 hP9
    have ecd : ntM (th F) xa xb = 1 := by unfold ntM; rw [if_pos c_219]
    have ne9 : ¬ ntM (th F) xa xb = 0 := by rw [ecd]; decide
    have hP : va_P D vwCl (moW y am (bs 0) (ba 0) (vU (th F) 0 0 (nI (ntM (th F) xa xb))) ++ (stW y bs (am 0) U ++ stW y ba (am 0) X)) H := by rw [ecd, nI_l1]; exact hP
    subst hQ
    exact W.iret (v := 0) hx hb hr (fun t ht hW => ⟨⟨_, F, rfl, fun h9 => absurd h9 ne9, fun h9 => absurd h9 ne9, fun _ => bp_at hK hN hP t ht hW⟩, hS.F ht⟩) hS.2.2 dX5_net_26
  · refine lv_aload_n hx hb dX5_net_13 rfl (lv_at hl 0 rfl) ?_
    refine lv_iload_n hx hb dX5_net_14 rfl (lv_at hl 2 rfl) ?_
    refine cRI_V (As := [.int xb]) (rest := []) ⟨hx, hb, hml, hown, hts⟩ (c_X5_isCoracle l D y am (bs 0) (ba 0) (th F) xb) (cwV 1 hts gX5_net_X5_isCoracle rfl rfl rfl (by decide +kernel) ⟨Nat.le_of_ble_eq_true rfl, Nat.le_of_ble_eq_true rfl⟩) hK hN (P_l hP) (va_recv hK hP (ci := 5) (q0 := 0) rfl (ap_l (wf_at (by decide) rfl))) rfl hl.1 rfl (Nat.le_of_ble_eq_true rfl) dX5_net_15 ⟨Nat.le_of_ble_eq_true rfl, Nat.le_of_ble_eq_true rfl⟩ ?_
    refine lv_if_ne (tgt := 27) hx hb dX5_net_18 (by decide) (fun c_220 => ?_) (fun c_220 => ?_)
    · refine lv_iload_n hx hb dX5_net_27 rfl (lv_at hl 1 rfl) ?_
      refine lv_iload_n hx hb dX5_net_28 rfl (lv_at hl 2 rfl) ?_
      refine lv_icmp_ne (tgt := 38) hx hb dX5_net_29 (by decide) (fun c_221 => ?_) (fun c_221 => ?_)
      · refine lv_aload_n hx hb dX5_net_38 rfl (lv_at hl 0 rfl) ?_
        refine lv_iload_n hx hb dX5_net_39 rfl (lv_at hl 1 rfl) ?_
        refine cRI_V (As := [.int xa]) (rest := []) ⟨hx, hb, hml, hown, hts⟩ (c_X5_netOf l D y am (bs 0) (ba 0) (th F) xa hT) (cwV 1 hts gX5_net_X5_netOf rfl rfl rfl (by decide +kernel) ⟨Nat.le_of_ble_eq_true rfl, Nat.le_of_ble_eq_true rfl⟩) hK hN (P_l hP) (va_recv hK hP (ci := 5) (q0 := 0) rfl (ap_l (wf_at (by decide) rfl))) rfl hl.1 rfl (Nat.le_of_ble_eq_true rfl) dX5_net_40 ⟨Nat.le_of_ble_eq_true rfl, Nat.le_of_ble_eq_true rfl⟩ ?_
        refine lv_iconst (v := (-1)) hx hb dX5_net_43 (by decide) ?_
        refine lv_icmp_ne (tgt := 56) hx hb dX5_net_44 (by decide) (fun c_222 => ?_) (fun c_222 => ?_)
        · refine lv_aload_n hx hb dX5_net_56 rfl (lv_at hl 0 rfl) ?_
          refine lv_iconst (v := 3) hx hb dX5_net_57 (by decide) ?_
          refine cWI_V (As := [.int 3]) (rest := []) ⟨hx, hb, hml, hown, hts⟩ (c_X5_no l D y _ am (bs 0) (ba 0) (th F) 3) (cwV 1 hts gX5_net_X5_no rfl rfl rfl (by decide +kernel) ⟨Nat.le_of_ble_eq_true rfl, Nat.le_of_ble_eq_true rfl⟩) hK hN (P_l hP) (by rw [mo_fst]; exact aD_l hD) hS hA (va_recv hK hP (ci := 5) (q0 := 0) rfl (ap_l (wf_at (by decide) rfl))) rfl hl.1 rfl (Nat.le_of_ble_eq_true rfl) dX5_net_58 ⟨Nat.le_of_ble_eq_true rfl, Nat.le_of_ble_eq_true rfl⟩ (fun H locs hP9 hk9 hS => ?_)
          have hP : va_P D vwCl (moW y am (bs 0) (ba 0) (vU (th F) 0 0 3) ++ (stW y bs (am 0) U ++ stW y ba (am 0) X)) H := fr_l hP (by rw [mo_fst, st2_fst]; exact hD) hk9 hP9
          have ecd : ntM (th F) xa xb = 3 := by unfold ntM; rw [if_neg c_219, if_neg c_220, if_neg c_221, if_neg c_222]
          have ne9 : ¬ ntM (th F) xa xb = 0 := by rw [ecd]; decide
          have hP : va_P D vwCl (moW y am (bs 0) (ba 0) (vU (th F) 0 0 (nI (ntM (th F) xa xb))) ++ (stW y bs (am 0) U ++ stW y ba (am 0) X)) H := by rw [ecd, nI_l3]; exact hP
          subst hQ
          exact W.iret (v := 0) hx hb hr (fun t ht hW => ⟨⟨_, F, rfl, fun h9 => absurd h9 ne9, fun h9 => absurd h9 ne9, fun _ => bp_at hK hN hP t ht hW⟩, hS.F ht⟩) hS.2.2 dX5_net_61
        · refine lv_aload_n hx hb dX5_net_47 rfl (lv_at hl 0 rfl) ?_
          refine lv_iload_n hx hb dX5_net_48 rfl (lv_at hl 2 rfl) ?_
          refine cRI_V (As := [.int xb]) (rest := []) ⟨hx, hb, hml, hown, hts⟩ (c_X5_netOf l D y am (bs 0) (ba 0) (th F) xb hT) (cwV 1 hts gX5_net_X5_netOf rfl rfl rfl (by decide +kernel) ⟨Nat.le_of_ble_eq_true rfl, Nat.le_of_ble_eq_true rfl⟩) hK hN (P_l hP) (va_recv hK hP (ci := 5) (q0 := 0) rfl (ap_l (wf_at (by decide) rfl))) rfl hl.1 rfl (Nat.le_of_ble_eq_true rfl) dX5_net_49 ⟨Nat.le_of_ble_eq_true rfl, Nat.le_of_ble_eq_true rfl⟩ ?_
          refine lv_iconst (v := (-1)) hx hb dX5_net_52 (by decide) ?_
          refine lv_icmp_eq (tgt := 62) hx hb dX5_net_53 (by decide) (fun c_223 => ?_) (fun c_223 => ?_)
          · have h3 : vp_in (th F 0 2) 3 := hT9 (by unfold ntM; rw [if_neg c_219, if_neg c_220, if_neg c_221, if_pos c_222, if_pos c_223])
            refine lv_aload_n hx hb dX5_net_62 rfl (lv_at hl 0 rfl) ?_
            have hf25 := hts (.fieldLink RX5 25 "CoracleMakersModel" "first" "[I") (by decide +kernel)
            refine va_get (D := D) (ci := 5) (v := .ref (am 6)) (C := RX5) (T := TX5) (N := 14) hx hb hts hin5 hown hK hP 0 (ap_l (wf_at (by decide) rfl)) rfl 8 (by decide) hf25 (fun _ h9 => h9) rfl dX5_net_63 ?_
            refine lv_aload_n hx hb dX5_net_66 rfl (lv_at hl 0 rfl) ?_
            have hf63 := hts (.fieldLink RX5 63 "CoracleMakersModel" "nets" "I") (by decide +kernel)
            refine va_get (D := D) (ci := 5) (v := .int ((th F) 0 2)) (C := RX5) (T := TX5) (N := 14) hx hb hts hin5 hown hK hP 0 (ap_l (wf_at (by decide) rfl)) rfl 7 (by decide) hf63 (fun _ h9 => h9) rfl dX5_net_67 ?_
            refine lv_iload_n hx hb dX5_net_70 rfl (lv_at hl 1 rfl) ?_
            obtain ⟨F97, hF97⟩ : ∃ z, z = va_up (th F) 6 (upd ((th F) 6) (ix ((th F) 0 2)) xa) := ⟨_, rfl⟩
            refine va_iast hx hb hK hP (aD_D hD (show List.map Prod.fst (moW y am (bs 0) (ba 0) (th F) ++ (stW y bs (am 0) U ++ stW y ba (am 0) X)) = _ from by rw [List.map_append, List.map_append, mo_fst y am _ _ _, st_fst y bs _ _, st_fst y ba _ _])) hS 6 0 (ap_l (wf_at (by decide) rfl)) rfl h3 dX5_net_71 (fun H locs hP _ hS => ?_)
            have hP : va_P D vwCl (moW y am (bs 0) (ba 0) F97 ++ (stW y bs (am 0) U ++ stW y ba (am 0) X)) H := (by rw [hF97]; exact P_eq (ap_set_l (show 6 < (wf _ _ _).length by rw [wf_len]; omega) (mo_set (k := 6) (upd ((th F) 6) (ix ((th F) 0 2)) xa) (by decide) rfl)) hP)
            refine lv_aload_n hx hb dX5_net_72 rfl (lv_at hl 0 rfl) ?_
            have hf28 := hts (.fieldLink RX5 28 "CoracleMakersModel" "second" "[I") (by decide +kernel)
            refine va_get (D := D) (ci := 5) (v := .ref (am 7)) (C := RX5) (T := TX5) (N := 14) hx hb hts hin5 hown hK hP 0 (ap_l (wf_at (by decide) rfl)) rfl 9 (by decide) hf28 (fun _ h9 => h9) rfl dX5_net_73 ?_
            refine lv_aload_n hx hb dX5_net_76 rfl (lv_at hl 0 rfl) ?_
            refine va_get (D := D) (ci := 5) (v := .int (F97 0 2)) (C := RX5) (T := TX5) (N := 14) hx hb hts hin5 hown hK hP 0 (ap_l (wf_at (by decide) rfl)) rfl 7 (by decide) hf63 (fun _ h9 => h9) rfl dX5_net_77 ?_
            refine lv_iload_n hx hb dX5_net_80 rfl (lv_at hl 2 rfl) ?_
            obtain ⟨F98, hF98⟩ : ∃ z, z = va_up F97 7 (upd (F97 7) (ix (F97 0 2)) xb) := ⟨_, rfl⟩
            refine va_iast hx hb hK hP (aD_D hD (show List.map Prod.fst (moW y am (bs 0) (ba 0) F97 ++ (stW y bs (am 0) U ++ stW y ba (am 0) X)) = _ from by rw [List.map_append, List.map_append, mo_fst y am _ _ _, st_fst y bs _ _, st_fst y ba _ _])) hS 7 0 (ap_l (wf_at (by decide) rfl)) rfl (show vp_in (F97 0 2) 3 from (by subst hF97; exact h3)) dX5_net_81 (fun H locs hP _ hS => ?_)
            have hP : va_P D vwCl (moW y am (bs 0) (ba 0) F98 ++ (stW y bs (am 0) U ++ stW y ba (am 0) X)) H := (by rw [hF98]; exact P_eq (ap_set_l (show 7 < (wf _ _ _).length by rw [wf_len]; omega) (mo_set (k := 7) (upd (F97 7) (ix (F97 0 2)) xb) (by decide) rfl)) hP)
            refine lv_aload_n hx hb dX5_net_82 rfl (lv_at hl 0 rfl) ?_
            refine lv_dup hx hb dX5_net_83 rfl ?_
            refine va_get (D := D) (ci := 5) (v := .int (F98 0 2)) (C := RX5) (T := TX5) (N := 14) hx hb hts hin5 hown hK hP 0 (ap_l (wf_at (by decide) rfl)) rfl 7 (by decide) hf63 (fun _ h9 => h9) rfl dX5_net_84 ?_
            refine lv_iconst (v := 1) hx hb dX5_net_87 (by decide) ?_
            refine lv_iadd hx hb dX5_net_88 ?_
            refine lv_topi (fun x_224 ex_224 => ?_)
            obtain ⟨F99, hF99⟩ : ∃ z, z = va_up F98 0 (upd (F98 0) 2 x_224) := ⟨_, rfl⟩
            refine va_put (D := D) (ci := 5) (v := .int x_224) (ty := .int) (C := RX5) (T := TX5) (N := 14) hx hb hts hin5 tyX5 tyX5_ok nmX5 hown hK hP (aD_D hD (show List.map Prod.fst (moW y am (bs 0) (ba 0) F98 ++ (stW y bs (am 0) U ++ stW y ba (am 0) X)) = _ from by rw [List.map_append, List.map_append, mo_fst y am _ _ _, st_fst y bs _ _, st_fst y ba _ _])) hS 0 (ap_l (wf_at (by decide) rfl)) rfl 7 (by decide) hf63 (fun _ h9 => h9) rfl (by decide +kernel) rfl rfl (Nat.le_of_ble_eq_true rfl) dX5_net_89 (fun H locs hP _ hS => ?_)
            have hP : va_P D vwCl (moW y am (bs 0) (ba 0) F99 ++ (stW y bs (am 0) U ++ stW y ba (am 0) X)) H := (by rw [hF99]; exact P_eq (ap_set_l (show 0 < (wf _ _ _).length by rw [wf_len]; omega) (mo_set (k := 0) (upd (F98 0) 2 x_224) (by decide) rfl)) hP)
            refine lv_aload_n hx hb dX5_net_92 rfl (lv_at hl 0 rfl) ?_
            refine va_get (D := D) (ci := 5) (v := .int (F99 0 2)) (C := RX5) (T := TX5) (N := 14) hx hb hts hin5 hown hK hP 0 (ap_l (wf_at (by decide) rfl)) rfl 7 (by decide) hf63 (fun _ h9 => h9) rfl dX5_net_93 ?_
            refine lv_iconst (v := 1) hx hb dX5_net_96 (by decide) ?_
            refine lv_isub hx hb dX5_net_97 ?_
            have eF : ntF (th F) xa xb = F99 := by subst hF99 ex_224 hF98 hF97; rfl
            have eA : (F99 0 2) - 1 = th F 0 2 := by rw [← eF]; show th F 0 2 + 1 - 1 = th F 0 2; exact Int32.add_sub_cancel _ _
            rw [← eF] at hP
            have ecd : ntM (th F) xa xb = 0 := by unfold ntM; rw [if_neg c_219, if_neg c_220, if_neg c_221, if_pos c_222, if_pos c_223]
            have hP : va_P D vwCl (moA y am bs ba (ntF (th F) xa xb) U X) H := (by skip; exact hP)
            subst hQ
            exact W.iret (v := (F99 0 2) - 1) hx hb hr (fun t ht hW => ⟨⟨_, X, rfl, fun _ => eA, fun _ => bp_at hK hN hP t ht hW, fun h9 => absurd ecd h9⟩, hS.F ht⟩) hS.2.2 dX5_net_98
          · refine lv_aload_n hx hb dX5_net_56 rfl (lv_at hl 0 rfl) ?_
            refine lv_iconst (v := 3) hx hb dX5_net_57 (by decide) ?_
            refine cWI_V (As := [.int 3]) (rest := []) ⟨hx, hb, hml, hown, hts⟩ (c_X5_no l D y _ am (bs 0) (ba 0) (th F) 3) (cwV 1 hts gX5_net_X5_no rfl rfl rfl (by decide +kernel) ⟨Nat.le_of_ble_eq_true rfl, Nat.le_of_ble_eq_true rfl⟩) hK hN (P_l hP) (by rw [mo_fst]; exact aD_l hD) hS hA (va_recv hK hP (ci := 5) (q0 := 0) rfl (ap_l (wf_at (by decide) rfl))) rfl hl.1 rfl (Nat.le_of_ble_eq_true rfl) dX5_net_58 ⟨Nat.le_of_ble_eq_true rfl, Nat.le_of_ble_eq_true rfl⟩ (fun H locs hP9 hk9 hS => ?_)
            have hP : va_P D vwCl (moW y am (bs 0) (ba 0) (vU (th F) 0 0 3) ++ (stW y bs (am 0) U ++ stW y ba (am 0) X)) H := fr_l hP (by rw [mo_fst, st2_fst]; exact hD) hk9 hP9
            have ecd : ntM (th F) xa xb = 3 := by unfold ntM; rw [if_neg c_219, if_neg c_220, if_neg c_221, if_pos c_222, if_neg c_223]
            have ne9 : ¬ ntM (th F) xa xb = 0 := by rw [ecd]; decide
            have hP : va_P D vwCl (moW y am (bs 0) (ba 0) (vU (th F) 0 0 (nI (ntM (th F) xa xb))) ++ (stW y bs (am 0) U ++ stW y ba (am 0) X)) H := by rw [ecd, nI_l3]; exact hP
            subst hQ
            exact W.iret (v := 0) hx hb hr (fun t ht hW => ⟨⟨_, F, rfl, fun h9 => absurd h9 ne9, fun h9 => absurd h9 ne9, fun _ => bp_at hK hN hP t ht hW⟩, hS.F ht⟩) hS.2.2 dX5_net_61
      · refine lv_aload_n hx hb dX5_net_32 rfl (lv_at hl 0 rfl) ?_
        refine lv_iconst (v := 2) hx hb dX5_net_33 (by decide) ?_
        refine cWI_V (As := [.int 2]) (rest := []) ⟨hx, hb, hml, hown, hts⟩ (c_X5_no l D y _ am (bs 0) (ba 0) (th F) 2) (cwV 1 hts gX5_net_X5_no rfl rfl rfl (by decide +kernel) ⟨Nat.le_of_ble_eq_true rfl, Nat.le_of_ble_eq_true rfl⟩) hK hN (P_l hP) (by rw [mo_fst]; exact aD_l hD) hS hA (va_recv hK hP (ci := 5) (q0 := 0) rfl (ap_l (wf_at (by decide) rfl))) rfl hl.1 rfl (Nat.le_of_ble_eq_true rfl) dX5_net_34 ⟨Nat.le_of_ble_eq_true rfl, Nat.le_of_ble_eq_true rfl⟩ (fun H locs hP9 hk9 hS => ?_)
        have hP : va_P D vwCl (moW y am (bs 0) (ba 0) (vU (th F) 0 0 2) ++ (stW y bs (am 0) U ++ stW y ba (am 0) X)) H := fr_l hP (by rw [mo_fst, st2_fst]; exact hD) hk9 hP9
        have ecd : ntM (th F) xa xb = 2 := by unfold ntM; rw [if_neg c_219, if_neg c_220, if_pos c_221]
        have ne9 : ¬ ntM (th F) xa xb = 0 := by rw [ecd]; decide
        have hP : va_P D vwCl (moW y am (bs 0) (ba 0) (vU (th F) 0 0 (nI (ntM (th F) xa xb))) ++ (stW y bs (am 0) U ++ stW y ba (am 0) X)) H := by rw [ecd, nI_l2]; exact hP
        subst hQ
        exact W.iret (v := 0) hx hb hr (fun t ht hW => ⟨⟨_, F, rfl, fun h9 => absurd h9 ne9, fun h9 => absurd h9 ne9, fun _ => bp_at hK hN hP t ht hW⟩, hS.F ht⟩) hS.2.2 dX5_net_37
    · refine lv_aload_n hx hb dX5_net_21 rfl (lv_at hl 0 rfl) ?_
      refine lv_iconst (v := 1) hx hb dX5_net_22 (by decide) ?_
      refine cWI_V (As := [.int 1]) (rest := []) ⟨hx, hb, hml, hown, hts⟩ (c_X5_no l D y _ am (bs 0) (ba 0) (th F) 1) (cwV 1 hts gX5_net_X5_no rfl rfl rfl (by decide +kernel) ⟨Nat.le_of_ble_eq_true rfl, Nat.le_of_ble_eq_true rfl⟩) hK hN (P_l hP) (by rw [mo_fst]; exact aD_l hD) hS hA (va_recv hK hP (ci := 5) (q0 := 0) rfl (ap_l (wf_at (by decide) rfl))) rfl hl.1 rfl (Nat.le_of_ble_eq_true rfl) dX5_net_23 ⟨Nat.le_of_ble_eq_true rfl, Nat.le_of_ble_eq_true rfl⟩ (fun H locs hP9 hk9 hS => ?_)
      have hP : va_P D vwCl (moW y am (bs 0) (ba 0) (vU (th F) 0 0 1) ++ (stW y bs (am 0) U ++ stW y ba (am 0) X)) H := fr_l hP (by rw [mo_fst, st2_fst]; exact hD) hk9 hP9
      have ecd : ntM (th F) xa xb = 1 := by unfold ntM; rw [if_neg c_219, if_pos c_220]
      have ne9 : ¬ ntM (th F) xa xb = 0 := by rw [ecd]; decide
      have hP : va_P D vwCl (moW y am (bs 0) (ba 0) (vU (th F) 0 0 (nI (ntM (th F) xa xb))) ++ (stW y bs (am 0) U ++ stW y ba (am 0) X)) H := by rw [ecd, nI_l1]; exact hP
      subst hQ
      exact W.iret (v := 0) hx hb hr (fun t ht hW => ⟨⟨_, F, rfl, fun h9 => absurd h9 ne9, fun h9 => absurd h9 ne9, fun _ => bp_at hK hN hP t ht hW⟩, hS.F ht⟩) hS.2.2 dX5_net_26
