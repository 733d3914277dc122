abbrev rmX5_make : Room := { frames := 1, cells := 0, slots := 0, locals := 22 }
set_option maxHeartbeats 4000000 in
set_option maxRecDepth 100000 in
/-- make(xa, xb, xc) -/
theorem c_X5_make (l : Launch) (D : va_G) (y : Nat → ClassId) (sz : Nat) (am bs ba : Nat → Nat) (F U X : Nat → Nat → Int32) (xa xb xc : Int32) (hC : vp_in (th F 0 1) 7) : MdI (S := Nat → Nat → Int32) l D y yX5_make wsX5_make rmX5_make [.ref (am 0), .int xa, .int xb, .int xc] (moA y am bs ba F U X) sz (mkC9 (th F) xa xb xc) (th F 0 1) (fun (u : Nat → Nat → Int32) => moA y am bs ba (mkF9 (th F) xa xb xc) (vU U 4 (ix (th F 0 1)) 30) u) (moA y am bs ba (vU (th F) 0 0 (nI (mkC9 (th F) xa xb xc))) U X) := by
  refine mW (fun A => va_Qi (fun r9 (_ : Nat → Nat → Int32) => (mkC9 (th F) xa xb xc) = 0 → r9 = (th F 0 1)) (fun u9 t9 => ((mkC9 (th F) xa xb xc) = 0 → Bp D y ((fun (u : Nat → Nat → Int32) => moA y am bs ba (mkF9 (th F) xa xb xc) (vU U 4 (ix (th F 0 1)) 30) u) u9) t9) ∧ (¬ (mkC9 (th F) xa xb xc) = 0 → Bp D y (moA y am bs ba (vU (th F) 0 0 (nI (mkC9 (th F) xa xb xc))) U X) t9)) A) (C := RX5) (cc := cX5_make) (maxL := 4) (ret := (some .int)) (by decide) rfl rfl (Nat.le_of_ble_eq_true rfl) ?_
  intro p e s m a below meth c ls A Q hQ hsz hx hb hr hts hown hlocks hin hml hP hK hN hD hA hS hl
  have hl : lv_has ls 4 [(0, .ref (am 0)), (1, .int xa), (2, .int xb), (3, .int xc)] := hl
  rw [moA_fst] at hD
  refine lv_aload_n hx hb dX5_make_0 rfl (lv_at hl 0 rfl) ?_
  refine lv_iconst (v := 0) hx hb dX5_make_1 (by decide) ?_
  have hin5 : ∀ w ∈ u_ws RX5 TX5 14, w ∈ wsX5_make := by decide +kernel
  have hf53 := hts (.fieldLink RX5 53 "CoracleMakersModel" "thrown" "I") (by decide +kernel)
  obtain ⟨F88, hF88⟩ : ∃ z, z = va_up F 0 (upd (F 0) 0 0) := ⟨_, rfl⟩
  refine va_put (D := D) (ci := 5) (v := .int 0) (ty := .int) (C := RX5) (T := TX5) (N := 14) hx hb hts hin5 tyX5 tyX5_ok nmX5 hown hK hP (aD_D hD (show List.map Prod.fst (moW y am (bs 0) (ba 0) F ++ (stW y bs (am 0) U ++ stW y ba (am 0) X)) = _ from by rw [List.map_append, List.map_append, mo_fst y am _ _ _, st_fst y bs _ _, st_fst y ba _ _])) hS 0 (ap_l (wf_at (by decide) rfl)) rfl 0 (by decide) hf53 (fun _ h9 => h9) rfl (by decide +kernel) rfl rfl (Nat.le_of_ble_eq_true rfl) dX5_make_2 (fun H locs hP _ hS => ?_)
  have hP : va_P D vwCl (moW y am (bs 0) (ba 0) F88 ++ (stW y bs (am 0) U ++ stW y ba (am 0) X)) H := (by rw [hF88]; exact P_eq (ap_set_l (show 0 < (wf _ _ _).length by rw [wf_len]; omega) (mo_set (k := 0) (upd (F 0) 0 0) (by decide) rfl)) hP)
  rw [show F88 = th F from hF88] at hP
  clear hF88
  clear F88
  refine lv_iload_n hx hb dX5_make_5 rfl (lv_at hl 2 rfl) ?_
  refine lv_iconst (v := 0) hx hb dX5_make_6 (by decide) ?_
  refine lv_iconst (v := 2) hx hb dX5_make_7 (by decide) ?_
  refine cRI_S (As := [.int xb, .int 0, .int 2]) (rest := []) ⟨hx, hb, hml, hown, hts⟩ (c_X5_isIn l D y xb 0 2) (va_cwS 3 hts gX5_make_X5_isIn rfl rfl rfl (by decide +kernel) ⟨Nat.le_of_ble_eq_true rfl, Nat.le_of_ble_eq_true rfl⟩) hK hN (P_nil D vwCl _) rfl hl.1 rfl (Nat.le_of_ble_eq_true rfl) dX5_make_8 ⟨Nat.le_of_ble_eq_true rfl, Nat.le_of_ble_eq_true rfl⟩ ?_
  refine lv_if_ne (tgt := 20) hx hb dX5_make_11 (by decide) (fun c_210 => ?_) (fun c_210 => ?_)
  · have hb3 : vp_in xb 3 := ii_in (n := 3) c_210 (by decide) (by decide)
    refine lv_iload_n hx hb dX5_make_20 rfl (lv_at hl 1 rfl) ?_
    refine lv_iconst (v := 4) hx hb dX5_make_21 (by decide) ?_
    refine lv_bipush (v := 12) hx hb dX5_make_22 (by decide) ?_
    refine cRI_S (As := [.int xa, .int 4, .int 12]) (rest := []) ⟨hx, hb, hml, hown, hts⟩ (c_X5_isIn l D y xa 4 12) (va_cwS 3 hts gX5_make_X5_isIn rfl rfl rfl (by decide +kernel) ⟨Nat.le_of_ble_eq_true rfl, Nat.le_of_ble_eq_true rfl⟩) hK hN (P_nil D vwCl _) rfl hl.1 rfl (Nat.le_of_ble_eq_true rfl) dX5_make_24 ⟨Nat.le_of_ble_eq_true rfl, Nat.le_of_ble_eq_true rfl⟩ ?_
    refine lv_if_eq (tgt := 40) hx hb dX5_make_27 (by decide) (fun c_211 => ?_) (fun c_211 => ?_)
    · refine lv_aload_n hx hb dX5_make_40 rfl (lv_at hl 0 rfl) ?_
      refine lv_iconst (v := 2) hx hb dX5_make_41 (by decide) ?_
      refine cWI_V (As := [.int 2]) (rest := []) ⟨hx, hb, hml, hown, hts⟩ (c_X5_no l D y _ am (bs 0) (ba 0) (th F) 2) (cwV 1 hts gX5_make_X5_no rfl rfl rfl (by decide +kernel) ⟨Nat.le_of_ble_eq_true rfl, Nat.le_of_ble_eq_true rfl⟩) hK hN (P_l hP) (by rw [mo_fst]; exact aD_l hD) hS hA (va_recv hK hP (ci := 5) (q0 := 0) rfl (ap_l (wf_at (by decide) rfl))) rfl hl.1 rfl (Nat.le_of_ble_eq_true rfl) dX5_make_42 ⟨Nat.le_of_ble_eq_true rfl, Nat.le_of_ble_eq_true rfl⟩ (fun H locs hP9 hk9 hS => ?_)
      have hP : va_P D vwCl (moW y am (bs 0) (ba 0) (vU (th F) 0 0 2) ++ (stW y bs (am 0) U ++ stW y ba (am 0) X)) H := fr_l hP (by rw [mo_fst, st2_fst]; exact hD) hk9 hP9
      have ecd : mkC9 (th F) xa xb xc = 2 := by unfold mkC9; rw [if_neg c_210, if_pos c_211]
      have ne9 : ¬ mkC9 (th F) xa xb xc = 0 := by rw [ecd]; decide
      have hP : va_P D vwCl (moW y am (bs 0) (ba 0) (vU (th F) 0 0 (nI (mkC9 (th F) xa xb xc))) ++ (stW y bs (am 0) U ++ stW y ba (am 0) X)) H := by rw [ecd, nI_l2]; exact hP
      subst hQ
      exact W.iret (v := 0) hx hb hr (fun t ht hW => ⟨⟨_, F, rfl, fun h9 => absurd h9 ne9, fun h9 => absurd h9 ne9, fun _ => bp_at hK hN hP t ht hW⟩, hS.F ht⟩) hS.2.2 dX5_make_45
    · refine lv_iload_n hx hb dX5_make_30 rfl (lv_at hl 3 rfl) ?_
      refine lv_iconst (v := 1) hx hb dX5_make_31 (by decide) ?_
      refine lv_bipush (v := 6) hx hb dX5_make_32 (by decide) ?_
      refine cRI_S (As := [.int xc, .int 1, .int 6]) (rest := []) ⟨hx, hb, hml, hown, hts⟩ (c_X5_isIn l D y xc 1 6) (va_cwS 3 hts gX5_make_X5_isIn rfl rfl rfl (by decide +kernel) ⟨Nat.le_of_ble_eq_true rfl, Nat.le_of_ble_eq_true rfl⟩) hK hN (P_nil D vwCl _) rfl hl.1 rfl (Nat.le_of_ble_eq_true rfl) dX5_make_34 ⟨Nat.le_of_ble_eq_true rfl, Nat.le_of_ble_eq_true rfl⟩ ?_
      refine lv_if_ne (tgt := 46) hx hb dX5_make_37 (by decide) (fun c_212 => ?_) (fun c_212 => ?_)
      · refine lv_aload_n hx hb dX5_make_46 rfl (lv_at hl 0 rfl) ?_
        have hf56 := hts (.fieldLink RX5 56 "CoracleMakersModel" "coracles" "I") (by decide +kernel)
        refine va_get (D := D) (ci := 5) (v := .int ((th F) 0 1)) (C := RX5) (T := TX5) (N := 14) hx hb hts hin5 hown hK hP 0 (ap_l (wf_at (by decide) rfl)) rfl 3 (by decide) hf56 (fun _ h9 => h9) rfl dX5_make_47 ?_
        refine lv_bipush (v := 6) hx hb dX5_make_50 (by decide) ?_
        refine lv_icmp_eq (tgt := 72) hx hb dX5_make_52 (by decide) (fun c_213 => ?_) (fun c_213 => ?_)
        · refine lv_aload_n hx hb dX5_make_72 rfl (lv_at hl 0 rfl) ?_
          refine lv_iconst (v := 3) hx hb dX5_make_73 (by decide) ?_
          refine cWI_V (As := [.int 3]) (rest := []) ⟨hx, hb, hml, hown, hts⟩ (c_X5_no l D y _ am (bs 0) (ba 0) (th F) 3) (cwV 1 hts gX5_make_X5_no rfl rfl rfl (by decide +kernel) ⟨Nat.le_of_ble_eq_true rfl, Nat.le_of_ble_eq_true rfl⟩) hK hN (P_l hP) (by rw [mo_fst]; exact aD_l hD) hS hA (va_recv hK hP (ci := 5) (q0 := 0) rfl (ap_l (wf_at (by decide) rfl))) rfl hl.1 rfl (Nat.le_of_ble_eq_true rfl) dX5_make_74 ⟨Nat.le_of_ble_eq_true rfl, Nat.le_of_ble_eq_true rfl⟩ (fun H locs hP9 hk9 hS => ?_)
          have hP : va_P D vwCl (moW y am (bs 0) (ba 0) (vU (th F) 0 0 3) ++ (stW y bs (am 0) U ++ stW y ba (am 0) X)) H := fr_l hP (by rw [mo_fst, st2_fst]; exact hD) hk9 hP9
          have ecd : mkC9 (th F) xa xb xc = 3 := by unfold mkC9; rw [if_neg c_210, if_neg c_211, if_neg c_212, if_pos c_213]
          have ne9 : ¬ mkC9 (th F) xa xb xc = 0 := by rw [ecd]; decide
          have hP : va_P D vwCl (moW y am (bs 0) (ba 0) (vU (th F) 0 0 (nI (mkC9 (th F) xa xb xc))) ++ (stW y bs (am 0) U ++ stW y ba (am 0) X)) H := by rw [ecd, nI_l3]; exact hP
          subst hQ
          exact W.iret (v := 0) hx hb hr (fun t ht hW => ⟨⟨_, F, rfl, fun h9 => absurd h9 ne9, fun h9 => absurd h9 ne9, fun _ => bp_at hK hN hP t ht hW⟩, hS.F ht⟩) hS.2.2 dX5_make_77
        · have h6 : vp_in (th F 0 1) 6 := in6' hC c_213
          refine lv_aload_n hx hb dX5_make_55 rfl (lv_at hl 0 rfl) ?_
          have hf31 := hts (.fieldLink RX5 31 "CoracleMakersModel" "store" "I") (by decide +kernel)
          refine va_get (D := D) (ci := 5) (v := .int ((th F) 0 3)) (C := RX5) (T := TX5) (N := 14) hx hb hts hin5 hown hK hP 0 (ap_l (wf_at (by decide) rfl)) rfl 10 (by decide) hf31 (fun _ h9 => h9) rfl dX5_make_56 ?_
          refine lv_iload_n hx hb dX5_make_59 rfl (lv_at hl 1 rfl) ?_
          refine lv_icmp_lt (tgt := 72) hx hb dX5_make_60 (by decide) (fun c_214 => ?_) (fun c_214 => ?_)
          · refine lv_aload_n hx hb dX5_make_72 rfl (lv_at hl 0 rfl) ?_
            refine lv_iconst (v := 3) hx hb dX5_make_73 (by decide) ?_
            refine cWI_V (As := [.int 3]) (rest := []) ⟨hx, hb, hml, hown, hts⟩ (c_X5_no l D y _ am (bs 0) (ba 0) (th F) 3) (cwV 1 hts gX5_make_X5_no rfl rfl rfl (by decide +kernel) ⟨Nat.le_of_ble_eq_true rfl, Nat.le_of_ble_eq_true rfl⟩) hK hN (P_l hP) (by rw [mo_fst]; exact aD_l hD) hS hA (va_recv hK hP (ci := 5) (q0 := 0) rfl (ap_l (wf_at (by decide) rfl))) rfl hl.1 rfl (Nat.le_of_ble_eq_true rfl) dX5_make_74 ⟨Nat.le_of_ble_eq_true rfl, Nat.le_of_ble_eq_true rfl⟩ (fun H locs hP9 hk9 hS => ?_)
            have hP : va_P D vwCl (moW y am (bs 0) (ba 0) (vU (th F) 0 0 3) ++ (stW y bs (am 0) U ++ stW y ba (am 0) X)) H := fr_l hP (by rw [mo_fst, st2_fst]; exact hD) hk9 hP9
            have ecd : mkC9 (th F) xa xb xc = 3 := by unfold mkC9; rw [if_neg c_210, if_neg c_211, if_neg c_212, if_neg c_213, if_pos c_214]
            have ne9 : ¬ mkC9 (th F) xa xb xc = 0 := by rw [ecd]; decide
            have hP : va_P D vwCl (moW y am (bs 0) (ba 0) (vU (th F) 0 0 (nI (mkC9 (th F) xa xb xc))) ++ (stW y bs (am 0) U ++ stW y ba (am 0) X)) H := by rw [ecd, nI_l3]; exact hP
            subst hQ
            exact W.iret (v := 0) hx hb hr (fun t ht hW => ⟨⟨_, F, rfl, fun h9 => absurd h9 ne9, fun h9 => absurd h9 ne9, fun _ => bp_at hK hN hP t ht hW⟩, hS.F ht⟩) hS.2.2 dX5_make_77
          · refine lv_aload_n hx hb dX5_make_63 rfl (lv_at hl 0 rfl) ?_
            have hf35 := hts (.fieldLink RX5 35 "CoracleMakersModel" "hides" "[I") (by decide +kernel)
            refine va_get (D := D) (ci := 5) (v := .ref (am 8)) (C := RX5) (T := TX5) (N := 14) hx hb hts hin5 hown hK hP 0 (ap_l (wf_at (by decide) rfl)) rfl 11 (by decide) hf35 (fun _ h9 => h9) rfl dX5_make_64 ?_
            refine lv_iload_n hx hb dX5_make_67 rfl (lv_at hl 2 rfl) ?_
            refine va_iald hx hb hK hP 8 0 (ap_l (wf_at (by decide) rfl)) rfl hb3 dX5_make_68 ?_
            refine lv_if_ne (tgt := 78) hx hb dX5_make_69 (by decide) (fun c_215 => ?_) (fun c_215 => ?_)
            · refine lv_aload_n hx hb dX5_make_78 rfl (lv_at hl 0 rfl) ?_
              refine lv_dup hx hb dX5_make_79 rfl ?_
              refine va_get (D := D) (ci := 5) (v := .int ((th F) 0 3)) (C := RX5) (T := TX5) (N := 14) hx hb hts hin5 hown hK hP 0 (ap_l (wf_at (by decide) rfl)) rfl 10 (by decide) hf31 (fun _ h9 => h9) rfl dX5_make_80 ?_
              refine lv_iload_n hx hb dX5_make_83 rfl (lv_at hl 1 rfl) ?_
              refine lv_isub hx hb dX5_make_84 ?_
              refine lv_topi (fun x_216 ex_216 => ?_)
              obtain ⟨F89, hF89⟩ : ∃ z, z = va_up (th F) 0 (upd ((th F) 0) 3 x_216) := ⟨_, rfl⟩
              refine va_put (D := D) (ci := 5) (v := .int x_216) (ty := .int) (C := RX5) (T := TX5) (N := 14) hx hb hts hin5 tyX5 tyX5_ok nmX5 hown hK hP (aD_D hD (show List.map Prod.fst (moW y am (bs 0) (ba 0) (th F) ++ (stW y bs (am 0) U ++ stW y ba (am 0) X)) = _ from by rw [List.map_append, List.map_append, mo_fst y am _ _ _, st_fst y bs _ _, st_fst y ba _ _])) hS 0 (ap_l (wf_at (by decide) rfl)) rfl 10 (by decide) hf31 (fun _ h9 => h9) rfl (by decide +kernel) rfl rfl (Nat.le_of_ble_eq_true rfl) dX5_make_85 (fun H locs hP _ hS => ?_)
              have hP : va_P D vwCl (moW y am (bs 0) (ba 0) F89 ++ (stW y bs (am 0) U ++ stW y ba (am 0) X)) H := (by rw [hF89]; exact P_eq (ap_set_l (show 0 < (wf _ _ _).length by rw [wf_len]; omega) (mo_set (k := 0) (upd ((th F) 0) 3 x_216) (by decide) rfl)) hP)
              refine lv_aload_n hx hb dX5_make_88 rfl (lv_at hl 0 rfl) ?_
              refine va_get (D := D) (ci := 5) (v := .ref (am 8)) (C := RX5) (T := TX5) (N := 14) hx hb hts hin5 hown hK hP 0 (ap_l (wf_at (by decide) rfl)) rfl 11 (by decide) hf35 (fun _ h9 => h9) rfl dX5_make_89 ?_
              refine lv_iload_n hx hb dX5_make_92 rfl (lv_at hl 2 rfl) ?_
              refine lv_dup2_11 hx hb dX5_make_93 rfl rfl ?_
              refine va_iald hx hb hK hP 8 0 (ap_l (wf_at (by decide) rfl)) rfl hb3 dX5_make_94 ?_
              refine lv_iconst (v := 1) hx hb dX5_make_95 (by decide) ?_
              refine lv_isub hx hb dX5_make_96 ?_
              refine lv_topi (fun x_217 ex_217 => ?_)
              obtain ⟨F90, hF90⟩ : ∃ z, z = va_up F89 8 (upd (F89 8) (ix xb) x_217) := ⟨_, rfl⟩
              refine va_iast hx hb hK hP (aD_D hD (show List.map Prod.fst (moW y am (bs 0) (ba 0) F89 ++ (stW y bs (am 0) U ++ stW y ba (am 0) X)) = _ from by rw [List.map_append, List.map_append, mo_fst y am _ _ _, st_fst y bs _ _, st_fst y ba _ _])) hS 8 0 (ap_l (wf_at (by decide) rfl)) rfl hb3 dX5_make_97 (fun H locs hP _ hS => ?_)
              have hP : va_P D vwCl (moW y am (bs 0) (ba 0) F90 ++ (stW y bs (am 0) U ++ stW y ba (am 0) X)) H := (by rw [hF90]; exact P_eq (ap_set_l (show 8 < (wf _ _ _).length by rw [wf_len]; omega) (mo_set (k := 8) (upd (F89 8) (ix xb) x_217) (by decide) rfl)) hP)
              refine lv_aload_n hx hb dX5_make_98 rfl (lv_at hl 0 rfl) ?_
              have hf16 := hts (.fieldLink RX5 16 "CoracleMakersModel" "laths" "[I") (by decide +kernel)
              refine va_get (D := D) (ci := 5) (v := .ref (am 3)) (C := RX5) (T := TX5) (N := 14) hx hb hts hin5 hown hK hP 0 (ap_l (wf_at (by decide) rfl)) rfl 4 (by decide) hf16 (fun _ h9 => h9) rfl dX5_make_99 ?_
              refine lv_aload_n hx hb dX5_make_102 rfl (lv_at hl 0 rfl) ?_
              refine va_get (D := D) (ci := 5) (v := .int (F90 0 1)) (C := RX5) (T := TX5) (N := 14) hx hb hts hin5 hown hK hP 0 (ap_l (wf_at (by decide) rfl)) rfl 3 (by decide) hf56 (fun _ h9 => h9) rfl dX5_make_103 ?_
              refine lv_iload_n hx hb dX5_make_106 rfl (lv_at hl 1 rfl) ?_
              obtain ⟨F91, hF91⟩ : ∃ z, z = va_up F90 3 (upd (F90 3) (ix (F90 0 1)) xa) := ⟨_, rfl⟩
              refine va_iast hx hb hK hP (aD_D hD (show List.map Prod.fst (moW y am (bs 0) (ba 0) F90 ++ (stW y bs (am 0) U ++ stW y ba (am 0) X)) = _ from by rw [List.map_append, List.map_append, mo_fst y am _ _ _, st_fst y bs _ _, st_fst y ba _ _])) hS 3 0 (ap_l (wf_at (by decide) rfl)) rfl (show vp_in (F90 0 1) 6 from (by subst hF90 ex_217 hF89 ex_216; exact h6)) dX5_make_107 (fun H locs hP _ hS => ?_)
              have hP : va_P D vwCl (moW y am (bs 0) (ba 0) F91 ++ (stW y bs (am 0) U ++ stW y ba (am 0) X)) H := (by rw [hF91]; exact P_eq (ap_set_l (show 3 < (wf _ _ _).length by rw [wf_len]; omega) (mo_set (k := 3) (upd (F90 3) (ix (F90 0 1)) xa) (by decide) rfl)) hP)
              refine lv_aload_n hx hb dX5_make_108 rfl (lv_at hl 0 rfl) ?_
              have hf19 := hts (.fieldLink RX5 19 "CoracleMakersModel" "hide" "[I") (by decide +kernel)
              refine va_get (D := D) (ci := 5) (v := .ref (am 4)) (C := RX5) (T := TX5) (N := 14) hx hb hts hin5 hown hK hP 0 (ap_l (wf_at (by decide) rfl)) rfl 5 (by decide) hf19 (fun _ h9 => h9) rfl dX5_make_109 ?_
              refine lv_aload_n hx hb dX5_make_112 rfl (lv_at hl 0 rfl) ?_
              refine va_get (D := D) (ci := 5) (v := .int (F91 0 1)) (C := RX5) (T := TX5) (N := 14) hx hb hts hin5 hown hK hP 0 (ap_l (wf_at (by decide) rfl)) rfl 3 (by decide) hf56 (fun _ h9 => h9) rfl dX5_make_113 ?_
              refine lv_iload_n hx hb dX5_make_116 rfl (lv_at hl 2 rfl) ?_
              obtain ⟨F92, hF92⟩ : ∃ z, z = va_up F91 4 (upd (F91 4) (ix (F91 0 1)) xb) := ⟨_, rfl⟩
              refine va_iast hx hb hK hP (aD_D hD (show List.map Prod.fst (moW y am (bs 0) (ba 0) F91 ++ (stW y bs (am 0) U ++ stW y ba (am 0) X)) = _ from by rw [List.map_append, List.map_append, mo_fst y am _ _ _, st_fst y bs _ _, st_fst y ba _ _])) hS 4 0 (ap_l (wf_at (by decide) rfl)) rfl (show vp_in (F91 0 1) 6 from (by subst hF91 hF90 ex_217 hF89 ex_216; exact h6)) dX5_make_117 (fun H locs hP _ hS => ?_)
              have hP : va_P D vwCl (moW y am (bs 0) (ba 0) F92 ++ (stW y bs (am 0) U ++ stW y ba (am 0) X)) H := (by rw [hF92]; exact P_eq (ap_set_l (show 4 < (wf _ _ _).length by rw [wf_len]; omega) (mo_set (k := 4) (upd (F91 4) (ix (F91 0 1)) xb) (by decide) rfl)) hP)
              refine lv_aload_n hx hb dX5_make_118 rfl (lv_at hl 0 rfl) ?_
              have hf22 := hts (.fieldLink RX5 22 "CoracleMakersModel" "skill" "[I") (by decide +kernel)
              refine va_get (D := D) (ci := 5) (v := .ref (am 5)) (C := RX5) (T := TX5) (N := 14) hx hb hts hin5 hown hK hP 0 (ap_l (wf_at (by decide) rfl)) rfl 6 (by decide) hf22 (fun _ h9 => h9) rfl dX5_make_119 ?_
              refine lv_aload_n hx hb dX5_make_122 rfl (lv_at hl 0 rfl) ?_
              refine va_get (D := D) (ci := 5) (v := .int (F92 0 1)) (C := RX5) (T := TX5) (N := 14) hx hb hts hin5 hown hK hP 0 (ap_l (wf_at (by decide) rfl)) rfl 3 (by decide) hf56 (fun _ h9 => h9) rfl dX5_make_123 ?_
              refine lv_iload_n hx hb dX5_make_126 rfl (lv_at hl 3 rfl) ?_
              obtain ⟨F93, hF93⟩ : ∃ z, z = va_up F92 5 (upd (F92 5) (ix (F92 0 1)) xc) := ⟨_, rfl⟩
              refine va_iast hx hb hK hP (aD_D hD (show List.map Prod.fst (moW y am (bs 0) (ba 0) F92 ++ (stW y bs (am 0) U ++ stW y ba (am 0) X)) = _ from by rw [List.map_append, List.map_append, mo_fst y am _ _ _, st_fst y bs _ _, st_fst y ba _ _])) hS 5 0 (ap_l (wf_at (by decide) rfl)) rfl (show vp_in (F92 0 1) 6 from (by subst hF92 hF91 hF90 ex_217 hF89 ex_216; exact h6)) dX5_make_127 (fun H locs hP _ hS => ?_)
              have hP : va_P D vwCl (moW y am (bs 0) (ba 0) F93 ++ (stW y bs (am 0) U ++ stW y ba (am 0) X)) H := (by rw [hF93]; exact P_eq (ap_set_l (show 5 < (wf _ _ _).length by rw [wf_len]; omega) (mo_set (k := 5) (upd (F92 5) (ix (F92 0 1)) xc) (by decide) rfl)) hP)
              refine lv_aload_n hx hb dX5_make_128 rfl (lv_at hl 0 rfl) ?_
              have hf43 := hts (.fieldLink RX5 43 "CoracleMakersModel" "s" "LCoracleMakersModel$State;") (by decide +kernel)
              refine va_get (D := D) (ci := 5) (v := .ref (bs 0)) (C := RX5) (T := TX5) (N := 14) hx hb hts hin5 hown hK hP 0 (ap_l (wf_at (by decide) rfl)) rfl 12 (by decide) hf43 (fun _ h9 => h9) rfl dX5_make_129 ?_
              have hin4 : ∀ w ∈ u_ws RX4 TX4 13, w ∈ wsX5_make := by decide +kernel
              have hf77 : (Cond.fieldLinkNest RX5 77 "CoracleMakersModel$State" "tar" "[I" "CoracleMakersModel").before a s = true := va_Nw.use rfl (hN.1 _ (List.mem_of_getElem? (i := 5) rfl))
              refine va_getN (D := D) (ci := 4) (v := .ref (bs 4)) (C := RX4) (T := TX4) (N := 13) hx hb hts hin4 hown hK hP (9 + 0) (ap_r (wf_len 9 _ _) (ap_l (wf_at (by decide) rfl))) rfl 7 (by decide) hf77 (fun _ h9 => h9) rfl dX5_make_132 ?_
              refine lv_aload_n hx hb dX5_make_135 rfl (lv_at hl 0 rfl) ?_
              refine va_get (D := D) (ci := 5) (v := .int (F93 0 1)) (C := RX5) (T := TX5) (N := 14) hx hb hts hin5 hown hK hP 0 (ap_l (wf_at (by decide) rfl)) rfl 3 (by decide) hf56 (fun _ h9 => h9) rfl dX5_make_136 ?_
              refine lv_bipush (v := 30) hx hb dX5_make_139 (by decide) ?_
              obtain ⟨U94, hU94⟩ : ∃ z, z = va_up U 4 (upd (U 4) (ix (F93 0 1)) 30) := ⟨_, rfl⟩
              refine va_iast hx hb hK hP (aD_D hD (show List.map Prod.fst (moW y am (bs 0) (ba 0) F93 ++ (stW y bs (am 0) U ++ stW y ba (am 0) X)) = _ from by rw [List.map_append, List.map_append, mo_fst y am _ _ _, st_fst y bs _ _, st_fst y ba _ _])) hS (9 + 4) 0 (ap_r (wf_len 9 _ _) (ap_l (wf_at (by decide) rfl))) rfl (show vp_in (F93 0 1) 6 from (by subst hF93 hF92 hF91 hF90 ex_217 hF89 ex_216; exact h6)) dX5_make_141 (fun H locs hP _ hS => ?_)
              have hP : va_P D vwCl (moW y am (bs 0) (ba 0) F93 ++ (stW y bs (am 0) U94 ++ stW y ba (am 0) X)) H := (by rw [hU94]; exact P_eq (ap_set_r (wf_len 9 _ _) (ap_set_l (show 4 < (wf _ _ _).length by rw [wf_len]; omega) (st_set (k := 4) (upd (U 4) (ix (F93 0 1)) 30) (by decide) rfl))) hP)
              refine lv_aload_n hx hb dX5_make_142 rfl (lv_at hl 0 rfl) ?_
              refine lv_dup hx hb dX5_make_143 rfl ?_
              refine va_get (D := D) (ci := 5) (v := .int (F93 0 1)) (C := RX5) (T := TX5) (N := 14) hx hb hts hin5 hown hK hP 0 (ap_l (wf_at (by decide) rfl)) rfl 3 (by decide) hf56 (fun _ h9 => h9) rfl dX5_make_144 ?_
              refine lv_iconst (v := 1) hx hb dX5_make_147 (by decide) ?_
              refine lv_iadd hx hb dX5_make_148 ?_
              refine lv_topi (fun x_218 ex_218 => ?_)
              obtain ⟨F95, hF95⟩ : ∃ z, z = va_up F93 0 (upd (F93 0) 1 x_218) := ⟨_, rfl⟩
              refine va_put (D := D) (ci := 5) (v := .int x_218) (ty := .int) (C := RX5) (T := TX5) (N := 14) hx hb hts hin5 tyX5 tyX5_ok nmX5 hown hK hP (aD_D hD (show List.map Prod.fst (moW y am (bs 0) (ba 0) F93 ++ (stW y bs (am 0) U94 ++ stW y ba (am 0) X)) = _ from by rw [List.map_append, List.map_append, mo_fst y am _ _ _, st_fst y bs _ _, st_fst y ba _ _])) hS 0 (ap_l (wf_at (by decide) rfl)) rfl 3 (by decide) hf56 (fun _ h9 => h9) rfl (by decide +kernel) rfl rfl (Nat.le_of_ble_eq_true rfl) dX5_make_149 (fun H locs hP _ hS => ?_)
              have hP : va_P D vwCl (moW y am (bs 0) (ba 0) F95 ++ (stW y bs (am 0) U94 ++ stW y ba (am 0) X)) H := (by rw [hF95]; exact P_eq (ap_set_l (show 0 < (wf _ _ _).length by rw [wf_len]; omega) (mo_set (k := 0) (upd (F93 0) 1 x_218) (by decide) rfl)) hP)
              refine lv_aload_n hx hb dX5_make_152 rfl (lv_at hl 0 rfl) ?_
              refine va_get (D := D) (ci := 5) (v := .int (F95 0 1)) (C := RX5) (T := TX5) (N := 14) hx hb hts hin5 hown hK hP 0 (ap_l (wf_at (by decide) rfl)) rfl 3 (by decide) hf56 (fun _ h9 => h9) rfl dX5_make_153 ?_
              refine lv_iconst (v := 1) hx hb dX5_make_156 (by decide) ?_
              refine lv_isub hx hb dX5_make_157 ?_
              have eF : mkF9 (th F) xa xb xc = F95 := by subst hF95 ex_218 hU94 hF93 hF92 hF91 hF90 ex_217 hF89 ex_216; rfl
              have eU : vU U 4 (ix (th F 0 1)) 30 = U94 := by subst hF95 ex_218 hU94 hF93 hF92 hF91 hF90 ex_217 hF89 ex_216; rfl
              have eA : (F95 0 1) - 1 = th F 0 1 := by rw [← eF]; show th F 0 1 + 1 - 1 = th F 0 1; exact Int32.add_sub_cancel _ _
              rw [← eF, ← eU] at hP
              have ecd : mkC9 (th F) xa xb xc = 0 := by unfold mkC9; rw [if_neg c_210, if_neg c_211, if_neg c_212, if_neg c_213, if_neg c_214, if_neg c_215]
              have hP : va_P D vwCl (moA y am bs ba (mkF9 (th F) xa xb xc) (vU U 4 (ix (th F 0 1)) 30) X) H := (by skip; exact hP)
              subst hQ
              exact W.iret (v := (F95 0 1) - 1) hx hb hr (fun t ht hW => ⟨⟨_, X, rfl, fun _ => eA, fun _ => bp_at hK hN hP t ht hW, fun h9 => absurd ecd h9⟩, hS.F ht⟩) hS.2.2 dX5_make_158
            · refine lv_aload_n hx hb dX5_make_72 rfl (lv_at hl 0 rfl) ?_
              refine lv_iconst (v := 3) hx hb dX5_make_73 (by decide) ?_
              refine cWI_V (As := [.int 3]) (rest := []) ⟨hx, hb, hml, hown, hts⟩ (c_X5_no l D y _ am (bs 0) (ba 0) (th F) 3) (cwV 1 hts gX5_make_X5_no rfl rfl rfl (by decide +kernel) ⟨Nat.le_of_ble_eq_true rfl, Nat.le_of_ble_eq_true rfl⟩) hK hN (P_l hP) (by rw [mo_fst]; exact aD_l hD) hS hA (va_recv hK hP (ci := 5) (q0 := 0) rfl (ap_l (wf_at (by decide) rfl))) rfl hl.1 rfl (Nat.le_of_ble_eq_true rfl) dX5_make_74 ⟨Nat.le_of_ble_eq_true rfl, Nat.le_of_ble_eq_true rfl⟩ (fun H locs hP9 hk9 hS => ?_)
              have hP : va_P D vwCl (moW y am (bs 0) (ba 0) (vU (th F) 0 0 3) ++ (stW y bs (am 0) U ++ stW y ba (am 0) X)) H := fr_l hP (by rw [mo_fst, st2_fst]; exact hD) hk9 hP9
              have ecd : mkC9 (th F) xa xb xc = 3 := by unfold mkC9; rw [if_neg c_210, if_neg c_211, if_neg c_212, if_neg c_213, if_neg c_214, if_pos c_215]
              have ne9 : ¬ mkC9 (th F) xa xb xc = 0 := by rw [ecd]; decide
              have hP : va_P D vwCl (moW y am (bs 0) (ba 0) (vU (th F) 0 0 (nI (mkC9 (th F) xa xb xc))) ++ (stW y bs (am 0) U ++ stW y ba (am 0) X)) H := by rw [ecd, nI_l3]; exact hP
              subst hQ
              exact W.iret (v := 0) hx hb hr (fun t ht hW => ⟨⟨_, F, rfl, fun h9 => absurd h9 ne9, fun h9 => absurd h9 ne9, fun _ => bp_at hK hN hP t ht hW⟩, hS.F ht⟩) hS.2.2 dX5_make_77
      · refine lv_aload_n hx hb dX5_make_40 rfl (lv_at hl 0 rfl) ?_
        refine lv_iconst (v := 2) hx hb dX5_make_41 (by decide) ?_
        refine cWI_V (As := [.int 2]) (rest := []) ⟨hx, hb, hml, hown, hts⟩ (c_X5_no l D y _ am (bs 0) (ba 0) (th F) 2) (cwV 1 hts gX5_make_X5_no rfl rfl rfl (by decide +kernel) ⟨Nat.le_of_ble_eq_true rfl, Nat.le_of_ble_eq_true rfl⟩) hK hN (P_l hP) (by rw [mo_fst]; exact aD_l hD) hS hA (va_recv hK hP (ci := 5) (q0 := 0) rfl (ap_l (wf_at (by decide) rfl))) rfl hl.1 rfl (Nat.le_of_ble_eq_true rfl) dX5_make_42 ⟨Nat.le_of_ble_eq_true rfl, Nat.le_of_ble_eq_true rfl⟩ (fun H locs hP9 hk9 hS => ?_)
        have hP : va_P D vwCl (moW y am (bs 0) (ba 0) (vU (th F) 0 0 2) ++ (stW y bs (am 0) U ++ stW y ba (am 0) X)) H := fr_l hP (by rw [mo_fst, st2_fst]; exact hD) hk9 hP9
        have ecd : mkC9 (th F) xa xb xc = 2 := by unfold mkC9; rw [if_neg c_210, if_neg c_211, if_pos c_212]
        have ne9 : ¬ mkC9 (th F) xa xb xc = 0 := by rw [ecd]; decide
        have hP : va_P D vwCl (moW y am (bs 0) (ba 0) (vU (th F) 0 0 (nI (mkC9 (th F) xa xb xc))) ++ (stW y bs (am 0) U ++ stW y ba (am 0) X)) H := by rw [ecd, nI_l2]; exact hP
        subst hQ
        exact W.iret (v := 0) hx hb hr (fun t ht hW => ⟨⟨_, F, rfl, fun h9 => absurd h9 ne9, fun h9 => absurd h9 ne9, fun _ => bp_at hK hN hP t ht hW⟩, hS.F ht⟩) hS.2.2 dX5_make_45
  · refine lv_aload_n hx hb dX5_make_14 rfl (lv_at hl 0 rfl) ?_
    refine lv_iconst (v := 1) hx hb dX5_make_15 (by decide) ?_
    refine cWI_V (As := [.int 1]) (rest := []) ⟨hx, hb, hml, hown, hts⟩ (c_X5_no l D y _ am (bs 0) (ba 0) (th F) 1) (cwV 1 hts gX5_make_X5_no rfl rfl rfl (by decide +kernel) ⟨Nat.le_of_ble_eq_true rfl, Nat.le_of_ble_eq_true rfl⟩) hK hN (P_l hP) (by rw [mo_fst]; exact aD_l hD) hS hA (va_recv hK hP (ci := 5) (q0 := 0) rfl (ap_l (wf_at (by decide) rfl))) rfl hl.1 rfl (Nat.le_of_ble_eq_true rfl) dX5_make_16 ⟨Nat.le_of_ble_eq_true rfl, Nat.le_of_ble_eq_true rfl⟩ (fun H locs hP9 hk9 hS => ?_)
    have hP : va_P D vwCl (moW y am (bs 0) (ba 0) (vU (th F) 0 0 1) ++ (stW y bs (am 0) U ++ stW y ba (am 0) X)) H := fr_l hP (by rw [mo_fst, st2_fst]; exact hD) hk9 hP9
    have ecd : mkC9 (th F) xa xb xc = 1 := by unfold mkC9; rw [if_pos c_210]
    have ne9 : ¬ mkC9 (th F) xa xb xc = 0 := by rw [ecd]; decide
    have hP : va_P D vwCl (moW y am (bs 0) (ba 0) (vU (th F) 0 0 (nI (mkC9 (th F) xa xb xc))) ++ (stW y bs (am 0) U ++ stW y ba (am 0) X)) H := by rw [ecd, nI_l1]; exact hP
    subst hQ
    exact W.iret (v := 0) hx hb hr (fun t ht hW => ⟨⟨_, F, rfl, fun h9 => absurd h9 ne9, fun h9 => absurd h9 ne9, fun _ => bp_at hK hN hP t ht hW⟩, hS.F ht⟩) hS.2.2 dX5_make_19
