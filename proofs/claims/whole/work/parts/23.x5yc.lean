abbrev rmX5_buy : Room := { frames := 1, cells := 0, slots := 0, locals := 22 }
set_option maxHeartbeats 4000000 in
set_option maxRecDepth 100000 in
/-- buy(x, n) -/
theorem c_X5_buy (l : Launch) (D : va_G) (y : Nat → ClassId) (sz : Nat) (am bs ba : Nat → Nat) (F U X : Nat → Nat → Int32) (x n : Int32) : MdI (S := Nat → Nat → Int32) l D y yX5_buy wsX5_buy rmX5_buy [.ref (am 0), .int x, .int n] (moA y am bs ba F U X) sz (buM U x n) (buA (th F) x n) (fun (u : Nat → Nat → Int32) => moA y am bs ba (buF (th F) x n) (vU U 0 1 (U 0 1 - n * prM x)) u) (moA y am bs ba (vU (th F) 0 0 (nI (buM U x n))) U X) := by
  refine mW (fun A => va_Qi (fun r9 (_ : Nat → Nat → Int32) => (buM U x n) = 0 → r9 = (buA (th F) x n)) (fun u9 t9 => ((buM U x n) = 0 → Bp D y ((fun (u : Nat → Nat → Int32) => moA y am bs ba (buF (th F) x n) (vU U 0 1 (U 0 1 - n * prM x)) u) u9) t9) ∧ (¬ (buM U x n) = 0 → Bp D y (moA y am bs ba (vU (th F) 0 0 (nI (buM U x n))) U X) t9)) A) (C := RX5) (cc := cX5_buy) (maxL := 4) (ret := (some .int)) (by decide) rfl rfl (Nat.le_of_ble_eq_true rfl) ?_
  intro p e s m a below meth c ls A Q hQ hsz hx hb hr hts hown hlocks hin hml hP hK hN hD hA hS hl
  have hl : lv_has ls 4 [(0, .ref (am 0)), (1, .int x), (2, .int n)] := hl
  rw [moA_fst] at hD
  refine lv_aload_n hx hb dX5_buy_0 rfl (lv_at hl 0 rfl) ?_
  refine lv_iconst (v := 0) hx hb dX5_buy_1 (by decide) ?_
  have hin5 : ∀ w ∈ u_ws RX5 TX5 14, w ∈ wsX5_buy := by decide +kernel
  have hf53 := hts (.fieldLink RX5 53 "CoracleMakersModel" "thrown" "I") (by decide +kernel)
  obtain ⟨F78, hF78⟩ : ∃ z, z = va_up F 0 (upd (F 0) 0 0) := ⟨_, rfl⟩
  refine va_put (D := D) (ci := 5) (v := .int 0) (ty := .int) (C := RX5) (T := TX5) (N := 14) hx hb hts hin5 tyX5 tyX5_ok nmX5 hown hK hP (aD_D hD (show List.map Prod.fst (moW y am (bs 0) (ba 0) F ++ (stW y bs (am 0) U ++ stW y ba (am 0) X)) = _ from by rw [List.map_append, List.map_append, mo_fst y am _ _ _, st_fst y bs _ _, st_fst y ba _ _])) hS 0 (ap_l (wf_at (by decide) rfl)) rfl 0 (by decide) hf53 (fun _ h9 => h9) rfl (by decide +kernel) rfl rfl (Nat.le_of_ble_eq_true rfl) dX5_buy_2 (fun H locs hP _ hS => ?_)
  have hP : va_P D vwCl (moW y am (bs 0) (ba 0) F78 ++ (stW y bs (am 0) U ++ stW y ba (am 0) X)) H := (by rw [hF78]; exact P_eq (ap_set_l (show 0 < (wf _ _ _).length by rw [wf_len]; omega) (mo_set (k := 0) (upd (F 0) 0 0) (by decide) rfl)) hP)
  rw [show F78 = th F from hF78] at hP
  clear hF78
  clear F78
  refine lv_iload_n hx hb dX5_buy_5 rfl (lv_at hl 1 rfl) ?_
  refine lv_iconst (v := 0) hx hb dX5_buy_6 (by decide) ?_
  refine lv_iconst (v := 3) hx hb dX5_buy_7 (by decide) ?_
  refine cRI_S (As := [.int x, .int 0, .int 3]) (rest := []) ⟨hx, hb, hml, hown, hts⟩ (c_X5_isIn l D y x 0 3) (va_cwS 3 hts gX5_buy_X5_isIn rfl rfl rfl (by decide +kernel) ⟨Nat.le_of_ble_eq_true rfl, Nat.le_of_ble_eq_true rfl⟩) hK hN (P_nil D vwCl _) rfl hl.1 rfl (Nat.le_of_ble_eq_true rfl) dX5_buy_8 ⟨Nat.le_of_ble_eq_true rfl, Nat.le_of_ble_eq_true rfl⟩ ?_
  refine lv_if_ne (tgt := 20) hx hb dX5_buy_11 (by decide) (fun c_191 => ?_) (fun c_191 => ?_)
  · have hx4 : vp_in x 4 := ii_in (n := 4) c_191 (by decide) (by decide)
    refine lv_iload_n hx hb dX5_buy_20 rfl (lv_at hl 2 rfl) ?_
    refine lv_iconst (v := 1) hx hb dX5_buy_21 (by decide) ?_
    refine lv_bipush (v := 40) hx hb dX5_buy_22 (by decide) ?_
    refine cRI_S (As := [.int n, .int 1, .int 40]) (rest := []) ⟨hx, hb, hml, hown, hts⟩ (c_X5_isIn l D y n 1 40) (va_cwS 3 hts gX5_buy_X5_isIn rfl rfl rfl (by decide +kernel) ⟨Nat.le_of_ble_eq_true rfl, Nat.le_of_ble_eq_true rfl⟩) hK hN (P_nil D vwCl _) rfl hl.1 rfl (Nat.le_of_ble_eq_true rfl) dX5_buy_24 ⟨Nat.le_of_ble_eq_true rfl, Nat.le_of_ble_eq_true rfl⟩ ?_
    refine lv_if_ne (tgt := 36) hx hb dX5_buy_27 (by decide) (fun c_192 => ?_) (fun c_192 => ?_)
    · refine lv_iload_n hx hb dX5_buy_36 rfl (lv_at hl 2 rfl) ?_
      refine lv_iload_n hx hb dX5_buy_37 rfl (lv_at hl 1 rfl) ?_
      refine lv_if_ne (tgt := 45) hx hb dX5_buy_38 (by decide) (fun c_193 => ?_) (fun c_193 => ?_)
      · refine lv_iload_n hx hb dX5_buy_45 rfl (lv_at hl 1 rfl) ?_
        refine lv_iconst (v := 1) hx hb dX5_buy_46 (by decide) ?_
        refine lv_icmp_ne (tgt := 54) hx hb dX5_buy_47 (by decide) (fun c_194 => ?_) (fun c_194 => ?_)
        · refine lv_iconst (v := 1) hx hb dX5_buy_54 (by decide) ?_
          have ep : prM x = 1 := by simp [prM, c_193, c_194]
          refine W.eq (g2 := F0 m 55 ls (.int (prM x) :: .int n :: [])) (by rw [ep]) ?_
          refine lv_imul hx hb dX5_buy_55 ?_
          refine lv_istore_n (lv' := [(3, .int (n * (prM x))), (0, .ref (am 0)), (1, .int x), (2, .int n)]) hx hb dX5_buy_56 rfl hl (by decide) rfl (fun ls hl => ?_)
          refine lv_aload_n hx hb dX5_buy_57 rfl (lv_at hl 1 rfl) ?_
          have hf43 := hts (.fieldLink RX5 43 "CoracleMakersModel" "s" "LCoracleMakersModel$State;") (by decide +kernel)
          refine va_get (D := D) (ci := 5) (v := .ref (bs 0)) (C := RX5) (T := TX5) (N := 14) hx hb hts hin5 hown hK hP 0 (ap_l (wf_at (by decide) rfl)) rfl 12 (by decide) hf43 (fun _ h9 => h9) rfl dX5_buy_58 ?_
          have hin4 : ∀ w ∈ u_ws RX4 TX4 13, w ∈ wsX5_buy := by decide +kernel
          have hf74 : (Cond.fieldLinkNest RX5 74 "CoracleMakersModel$State" "coins" "I" "CoracleMakersModel").before a s = true := va_Nw.use rfl (hN.1 _ (List.mem_of_getElem? (i := 0) rfl))
          refine va_getN (D := D) (ci := 4) (v := .int (U 0 1)) (C := RX4) (T := TX4) (N := 13) hx hb hts hin4 hown hK hP (9 + 0) (ap_r (wf_len 9 _ _) (ap_l (wf_at (by decide) rfl))) rfl 1 (by decide) hf74 (fun _ h9 => h9) rfl dX5_buy_61 ?_
          refine lv_iload_n hx hb dX5_buy_64 rfl (lv_at hl 0 rfl) ?_
          refine lv_icmp_ge (tgt := 74) hx hb dX5_buy_65 (by decide) (fun c_195 => ?_) (fun c_195 => ?_)
          · refine lv_aload_n hx hb dX5_buy_74 rfl (lv_at hl 1 rfl) ?_
            refine va_get (D := D) (ci := 5) (v := .ref (bs 0)) (C := RX5) (T := TX5) (N := 14) hx hb hts hin5 hown hK hP 0 (ap_l (wf_at (by decide) rfl)) rfl 12 (by decide) hf43 (fun _ h9 => h9) rfl dX5_buy_75 ?_
            refine lv_dup hx hb dX5_buy_78 rfl ?_
            refine va_getN (D := D) (ci := 4) (v := .int (U 0 1)) (C := RX4) (T := TX4) (N := 13) hx hb hts hin4 hown hK hP (9 + 0) (ap_r (wf_len 9 _ _) (ap_l (wf_at (by decide) rfl))) rfl 1 (by decide) hf74 (fun _ h9 => h9) rfl dX5_buy_79 ?_
            refine lv_iload_n hx hb dX5_buy_82 rfl (lv_at hl 0 rfl) ?_
            refine lv_isub hx hb dX5_buy_83 ?_
            refine lv_topi (fun x_196 ex_196 => ?_)
            obtain ⟨U79, hU79⟩ : ∃ z, z = va_up U 0 (upd (U 0) 1 x_196) := ⟨_, rfl⟩
            refine va_putN (D := D) (ci := 4) (v := .int x_196) (ty := .int) (C := RX4) (T := TX4) (N := 13) hx hb hts hin4 tyX4 tyX4_ok nmX4 hown hK hP (aD_D hD (show List.map Prod.fst (moW y am (bs 0) (ba 0) (th F) ++ (stW y bs (am 0) U ++ stW y ba (am 0) X)) = _ from by rw [List.map_append, List.map_append, mo_fst y am _ _ _, st_fst y bs _ _, st_fst y ba _ _])) hS (9 + 0) (ap_r (wf_len 9 _ _) (ap_l (wf_at (by decide) rfl))) rfl 1 (by decide) hf74 (fun _ h9 => h9) rfl (by decide +kernel) rfl rfl (Nat.le_of_ble_eq_true rfl) dX5_buy_84 (fun H locs hP _ hS => ?_)
            have hP : va_P D vwCl (moW y am (bs 0) (ba 0) (th F) ++ (stW y bs (am 0) U79 ++ stW y ba (am 0) X)) H := (by rw [hU79]; exact P_eq (ap_set_r (wf_len 9 _ _) (ap_set_l (show 0 < (wf _ _ _).length by rw [wf_len]; omega) (st_set (k := 0) (upd (U 0) 1 x_196) (by decide) rfl))) hP)
            refine lv_iload_n hx hb dX5_buy_87 rfl (lv_at hl 2 rfl) ?_
            refine lv_iconst (v := 3) hx hb dX5_buy_88 (by decide) ?_
            refine lv_icmp_ne (tgt := 107) hx hb dX5_buy_89 (by decide) (fun c_197 => ?_) (fun c_197 => ?_)
            · refine lv_aload_n hx hb dX5_buy_107 rfl (lv_at hl 1 rfl) ?_
              have hf35 := hts (.fieldLink RX5 35 "CoracleMakersModel" "hides" "[I") (by decide +kernel)
              refine va_get (D := D) (ci := 5) (v := .ref (am 8)) (C := RX5) (T := TX5) (N := 14) hx hb hts hin5 hown hK hP 0 (ap_l (wf_at (by decide) rfl)) rfl 11 (by decide) hf35 (fun _ h9 => h9) rfl dX5_buy_108 ?_
              refine lv_iload_n hx hb dX5_buy_111 rfl (lv_at hl 2 rfl) ?_
              refine lv_dup2_11 hx hb dX5_buy_112 rfl rfl ?_
              refine va_iald hx hb hK hP 8 0 (ap_l (wf_at (by decide) rfl)) rfl (in4' hx4 c_197) dX5_buy_113 ?_
              refine lv_iload_n hx hb dX5_buy_114 rfl (lv_at hl 3 rfl) ?_
              refine lv_iadd hx hb dX5_buy_115 ?_
              refine lv_topi (fun x_198 ex_198 => ?_)
              obtain ⟨F80, hF80⟩ : ∃ z, z = va_up (th F) 8 (upd ((th F) 8) (ix x) x_198) := ⟨_, rfl⟩
              refine va_iast hx hb hK hP (aD_D hD (show List.map Prod.fst (moW y am (bs 0) (ba 0) (th F) ++ (stW y bs (am 0) U79 ++ stW y ba (am 0) X)) = _ from by rw [List.map_append, List.map_append, mo_fst y am _ _ _, st_fst y bs _ _, st_fst y ba _ _])) hS 8 0 (ap_l (wf_at (by decide) rfl)) rfl (in4' hx4 c_197) dX5_buy_116 (fun H locs hP _ hS => ?_)
              have hP : va_P D vwCl (moW y am (bs 0) (ba 0) F80 ++ (stW y bs (am 0) U79 ++ stW y ba (am 0) X)) H := (by rw [hF80]; exact P_eq (ap_set_l (show 8 < (wf _ _ _).length by rw [wf_len]; omega) (mo_set (k := 8) (upd ((th F) 8) (ix x) x_198) (by decide) rfl)) hP)
              refine lv_aload_n hx hb dX5_buy_117 rfl (lv_at hl 1 rfl) ?_
              refine va_get (D := D) (ci := 5) (v := .ref (am 8)) (C := RX5) (T := TX5) (N := 14) hx hb hts hin5 hown hK hP 0 (ap_l (wf_at (by decide) rfl)) rfl 11 (by decide) hf35 (fun _ h9 => h9) rfl dX5_buy_118 ?_
              refine lv_iload_n hx hb dX5_buy_121 rfl (lv_at hl 2 rfl) ?_
              refine va_iald hx hb hK hP 8 0 (ap_l (wf_at (by decide) rfl)) rfl (in4' hx4 c_197) dX5_buy_122 ?_
              have eF : buF (th F) x n = F80 := by unfold buF; rw [if_neg c_197]; subst hF80 ex_198 hU79 ex_196; rfl
              have eU : vU U 0 1 (U 0 1 - n * prM x) = U79 := by subst hF80 ex_198 hU79 ex_196; rfl
              have eA : buA (th F) x n = F80 8 (ix x) := by rw [← eF]; unfold buA buF; rw [if_neg c_197, if_neg c_197]; exact ((vU_at _ _ _ _ _ _).trans (if_pos ⟨rfl, rfl⟩)).symm
              rw [← eF, ← eU] at hP
              have ecd : buM U x n = 0 := by unfold buM; rw [if_neg c_191, if_neg c_192, if_pos c_195]
              have hP : va_P D vwCl (moA y am bs ba (buF (th F) x n) (vU U 0 1 (U 0 1 - n * prM x)) X) H := (by skip; exact hP)
              subst hQ
              exact W.iret (v := F80 8 (ix x)) hx hb hr (fun t ht hW => ⟨⟨_, X, rfl, fun _ => eA.symm, fun _ => bp_at hK hN hP t ht hW, fun h9 => absurd ecd h9⟩, hS.F ht⟩) hS.2.2 dX5_buy_123
            · refine lv_aload_n hx hb dX5_buy_92 rfl (lv_at hl 1 rfl) ?_
              refine lv_dup hx hb dX5_buy_93 rfl ?_
              have hf31 := hts (.fieldLink RX5 31 "CoracleMakersModel" "store" "I") (by decide +kernel)
              refine va_get (D := D) (ci := 5) (v := .int ((th F) 0 3)) (C := RX5) (T := TX5) (N := 14) hx hb hts hin5 hown hK hP 0 (ap_l (wf_at (by decide) rfl)) rfl 10 (by decide) hf31 (fun _ h9 => h9) rfl dX5_buy_94 ?_
              refine lv_iload_n hx hb dX5_buy_97 rfl (lv_at hl 3 rfl) ?_
              refine lv_iadd hx hb dX5_buy_98 ?_
              refine lv_topi (fun x_199 ex_199 => ?_)
              obtain ⟨F81, hF81⟩ : ∃ z, z = va_up (th F) 0 (upd ((th F) 0) 3 x_199) := ⟨_, rfl⟩
              refine va_put (D := D) (ci := 5) (v := .int x_199) (ty := .int) (C := RX5) (T := TX5) (N := 14) hx hb hts hin5 tyX5 tyX5_ok nmX5 hown hK hP (aD_D hD (show List.map Prod.fst (moW y am (bs 0) (ba 0) (th F) ++ (stW y bs (am 0) U79 ++ stW y ba (am 0) X)) = _ from by rw [List.map_append, List.map_append, mo_fst y am _ _ _, st_fst y bs _ _, st_fst y ba _ _])) hS 0 (ap_l (wf_at (by decide) rfl)) rfl 10 (by decide) hf31 (fun _ h9 => h9) rfl (by decide +kernel) rfl rfl (Nat.le_of_ble_eq_true rfl) dX5_buy_99 (fun H locs hP _ hS => ?_)
              have hP : va_P D vwCl (moW y am (bs 0) (ba 0) F81 ++ (stW y bs (am 0) U79 ++ stW y ba (am 0) X)) H := (by rw [hF81]; exact P_eq (ap_set_l (show 0 < (wf _ _ _).length by rw [wf_len]; omega) (mo_set (k := 0) (upd ((th F) 0) 3 x_199) (by decide) rfl)) hP)
              refine lv_aload_n hx hb dX5_buy_102 rfl (lv_at hl 1 rfl) ?_
              refine va_get (D := D) (ci := 5) (v := .int (F81 0 3)) (C := RX5) (T := TX5) (N := 14) hx hb hts hin5 hown hK hP 0 (ap_l (wf_at (by decide) rfl)) rfl 10 (by decide) hf31 (fun _ h9 => h9) rfl dX5_buy_103 ?_
              have eF : buF (th F) x n = F81 := by unfold buF; rw [if_pos c_197]; subst hF81 ex_199 hU79 ex_196; rfl
              have eU : vU U 0 1 (U 0 1 - n * prM x) = U79 := by subst hF81 ex_199 hU79 ex_196; rfl
              have eA : buA (th F) x n = F81 0 3 := by rw [← eF]; unfold buA buF; rw [if_pos c_197, if_pos c_197]; exact ((vU_at _ _ _ _ _ _).trans (if_pos ⟨rfl, rfl⟩)).symm
              rw [← eF, ← eU] at hP
              have ecd : buM U x n = 0 := by unfold buM; rw [if_neg c_191, if_neg c_192, if_pos c_195]
              have hP : va_P D vwCl (moA y am bs ba (buF (th F) x n) (vU U 0 1 (U 0 1 - n * prM x)) X) H := (by skip; exact hP)
              subst hQ
              exact W.iret (v := F81 0 3) hx hb hr (fun t ht hW => ⟨⟨_, X, rfl, fun _ => eA.symm, fun _ => bp_at hK hN hP t ht hW, fun h9 => absurd ecd h9⟩, hS.F ht⟩) hS.2.2 dX5_buy_106
          · refine lv_aload_n hx hb dX5_buy_68 rfl (lv_at hl 1 rfl) ?_
            refine lv_iconst (v := 3) hx hb dX5_buy_69 (by decide) ?_
            refine cWI_V (As := [.int 3]) (rest := []) ⟨hx, hb, hml, hown, hts⟩ (c_X5_no l D y _ am (bs 0) (ba 0) (th F) 3) (cwV 1 hts gX5_buy_X5_no rfl rfl rfl (by decide +kernel) ⟨Nat.le_of_ble_eq_true rfl, Nat.le_of_ble_eq_true rfl⟩) hK hN (P_l hP) (by rw [mo_fst]; exact aD_l hD) hS hA (va_recv hK hP (ci := 5) (q0 := 0) rfl (ap_l (wf_at (by decide) rfl))) rfl hl.1 rfl (Nat.le_of_ble_eq_true rfl) dX5_buy_70 ⟨Nat.le_of_ble_eq_true rfl, Nat.le_of_ble_eq_true rfl⟩ (fun H locs hP9 hk9 hS => ?_)
            have hP : va_P D vwCl (moW y am (bs 0) (ba 0) (vU (th F) 0 0 3) ++ (stW y bs (am 0) U ++ stW y ba (am 0) X)) H := fr_l hP (by rw [mo_fst, st2_fst]; exact hD) hk9 hP9
            have ecd : buM U x n = 3 := by unfold buM; rw [if_neg c_191, if_neg c_192, if_neg c_195]
            have ne9 : ¬ buM U x n = 0 := by rw [ecd]; decide
            have hP : va_P D vwCl (moW y am (bs 0) (ba 0) (vU (th F) 0 0 (nI (buM U x n))) ++ (stW y bs (am 0) U ++ stW y ba (am 0) X)) H := by rw [ecd, nI_l3]; exact hP
            subst hQ
            exact W.iret (v := 0) hx hb hr (fun t ht hW => ⟨⟨_, F, rfl, fun h9 => absurd h9 ne9, fun h9 => absurd h9 ne9, fun _ => bp_at hK hN hP t ht hW⟩, hS.F ht⟩) hS.2.2 dX5_buy_73
        · refine lv_iconst (v := 3) hx hb dX5_buy_50 (by decide) ?_
          refine lv_goto (tgt := 55) hx hb dX5_buy_51 (by decide) ?_
          have ep : prM x = 3 := by simp [prM, c_193, c_194]
          refine W.eq (g2 := F0 m 55 ls (.int (prM x) :: .int n :: [])) (by rw [ep]) ?_
          refine lv_imul hx hb dX5_buy_55 ?_
          refine lv_istore_n (lv' := [(3, .int (n * (prM x))), (0, .ref (am 0)), (1, .int x), (2, .int n)]) hx hb dX5_buy_56 rfl hl (by decide) rfl (fun ls hl => ?_)
          refine lv_aload_n hx hb dX5_buy_57 rfl (lv_at hl 1 rfl) ?_
          have hf43 := hts (.fieldLink RX5 43 "CoracleMakersModel" "s" "LCoracleMakersModel$State;") (by decide +kernel)
          refine va_get (D := D) (ci := 5) (v := .ref (bs 0)) (C := RX5) (T := TX5) (N := 14) hx hb hts hin5 hown hK hP 0 (ap_l (wf_at (by decide) rfl)) rfl 12 (by decide) hf43 (fun _ h9 => h9) rfl dX5_buy_58 ?_
          have hin4 : ∀ w ∈ u_ws RX4 TX4 13, w ∈ wsX5_buy := by decide +kernel
          have hf74 : (Cond.fieldLinkNest RX5 74 "CoracleMakersModel$State" "coins" "I" "CoracleMakersModel").before a s = true := va_Nw.use rfl (hN.1 _ (List.mem_of_getElem? (i := 0) rfl))
          refine va_getN (D := D) (ci := 4) (v := .int (U 0 1)) (C := RX4) (T := TX4) (N := 13) hx hb hts hin4 hown hK hP (9 + 0) (ap_r (wf_len 9 _ _) (ap_l (wf_at (by decide) rfl))) rfl 1 (by decide) hf74 (fun _ h9 => h9) rfl dX5_buy_61 ?_
          refine lv_iload_n hx hb dX5_buy_64 rfl (lv_at hl 0 rfl) ?_
          refine lv_icmp_ge (tgt := 74) hx hb dX5_buy_65 (by decide) (fun c_200 => ?_) (fun c_200 => ?_)
          · refine lv_aload_n hx hb dX5_buy_74 rfl (lv_at hl 1 rfl) ?_
            refine va_get (D := D) (ci := 5) (v := .ref (bs 0)) (C := RX5) (T := TX5) (N := 14) hx hb hts hin5 hown hK hP 0 (ap_l (wf_at (by decide) rfl)) rfl 12 (by decide) hf43 (fun _ h9 => h9) rfl dX5_buy_75 ?_
            refine lv_dup hx hb dX5_buy_78 rfl ?_
            refine va_getN (D := D) (ci := 4) (v := .int (U 0 1)) (C := RX4) (T := TX4) (N := 13) hx hb hts hin4 hown hK hP (9 + 0) (ap_r (wf_len 9 _ _) (ap_l (wf_at (by decide) rfl))) rfl 1 (by decide) hf74 (fun _ h9 => h9) rfl dX5_buy_79 ?_
            refine lv_iload_n hx hb dX5_buy_82 rfl (lv_at hl 0 rfl) ?_
            refine lv_isub hx hb dX5_buy_83 ?_
            refine lv_topi (fun x_201 ex_201 => ?_)
            obtain ⟨U82, hU82⟩ : ∃ z, z = va_up U 0 (upd (U 0) 1 x_201) := ⟨_, rfl⟩
            refine va_putN (D := D) (ci := 4) (v := .int x_201) (ty := .int) (C := RX4) (T := TX4) (N := 13) hx hb hts hin4 tyX4 tyX4_ok nmX4 hown hK hP (aD_D hD (show List.map Prod.fst (moW y am (bs 0) (ba 0) (th F) ++ (stW y bs (am 0) U ++ stW y ba (am 0) X)) = _ from by rw [List.map_append, List.map_append, mo_fst y am _ _ _, st_fst y bs _ _, st_fst y ba _ _])) hS (9 + 0) (ap_r (wf_len 9 _ _) (ap_l (wf_at (by decide) rfl))) rfl 1 (by decide) hf74 (fun _ h9 => h9) rfl (by decide +kernel) rfl rfl (Nat.le_of_ble_eq_true rfl) dX5_buy_84 (fun H locs hP _ hS => ?_)
            have hP : va_P D vwCl (moW y am (bs 0) (ba 0) (th F) ++ (stW y bs (am 0) U82 ++ stW y ba (am 0) X)) H := (by rw [hU82]; exact P_eq (ap_set_r (wf_len 9 _ _) (ap_set_l (show 0 < (wf _ _ _).length by rw [wf_len]; omega) (st_set (k := 0) (upd (U 0) 1 x_201) (by decide) rfl))) hP)
            refine lv_iload_n hx hb dX5_buy_87 rfl (lv_at hl 2 rfl) ?_
            refine lv_iconst (v := 3) hx hb dX5_buy_88 (by decide) ?_
            refine lv_icmp_ne (tgt := 107) hx hb dX5_buy_89 (by decide) (fun c_202 => ?_) (fun c_202 => ?_)
            · refine lv_aload_n hx hb dX5_buy_107 rfl (lv_at hl 1 rfl) ?_
              have hf35 := hts (.fieldLink RX5 35 "CoracleMakersModel" "hides" "[I") (by decide +kernel)
              refine va_get (D := D) (ci := 5) (v := .ref (am 8)) (C := RX5) (T := TX5) (N := 14) hx hb hts hin5 hown hK hP 0 (ap_l (wf_at (by decide) rfl)) rfl 11 (by decide) hf35 (fun _ h9 => h9) rfl dX5_buy_108 ?_
              refine lv_iload_n hx hb dX5_buy_111 rfl (lv_at hl 2 rfl) ?_
              refine lv_dup2_11 hx hb dX5_buy_112 rfl rfl ?_
              refine va_iald hx hb hK hP 8 0 (ap_l (wf_at (by decide) rfl)) rfl (in4' hx4 c_202) dX5_buy_113 ?_
              refine lv_iload_n hx hb dX5_buy_114 rfl (lv_at hl 3 rfl) ?_
              refine lv_iadd hx hb dX5_buy_115 ?_
              refine lv_topi (fun x_203 ex_203 => ?_)
              obtain ⟨F83, hF83⟩ : ∃ z, z = va_up (th F) 8 (upd ((th F) 8) (ix x) x_203) := ⟨_, rfl⟩
              refine va_iast hx hb hK hP (aD_D hD (show List.map Prod.fst (moW y am (bs 0) (ba 0) (th F) ++ (stW y bs (am 0) U82 ++ stW y ba (am 0) X)) = _ from by rw [List.map_append, List.map_append, mo_fst y am _ _ _, st_fst y bs _ _, st_fst y ba _ _])) hS 8 0 (ap_l (wf_at (by decide) rfl)) rfl (in4' hx4 c_202) dX5_buy_116 (fun H locs hP _ hS => ?_)
              have hP : va_P D vwCl (moW y am (bs 0) (ba 0) F83 ++ (stW y bs (am 0) U82 ++ stW y ba (am 0) X)) H := (by rw [hF83]; exact P_eq (ap_set_l (show 8 < (wf _ _ _).length by rw [wf_len]; omega) (mo_set (k := 8) (upd ((th F) 8) (ix x) x_203) (by decide) rfl)) hP)
              refine lv_aload_n hx hb dX5_buy_117 rfl (lv_at hl 1 rfl) ?_
              refine va_get (D := D) (ci := 5) (v := .ref (am 8)) (C := RX5) (T := TX5) (N := 14) hx hb hts hin5 hown hK hP 0 (ap_l (wf_at (by decide) rfl)) rfl 11 (by decide) hf35 (fun _ h9 => h9) rfl dX5_buy_118 ?_
              refine lv_iload_n hx hb dX5_buy_121 rfl (lv_at hl 2 rfl) ?_
              refine va_iald hx hb hK hP 8 0 (ap_l (wf_at (by decide) rfl)) rfl (in4' hx4 c_202) dX5_buy_122 ?_
              have eF : buF (th F) x n = F83 := by unfold buF; rw [if_neg c_202]; subst hF83 ex_203 hU82 ex_201; rfl
              have eU : vU U 0 1 (U 0 1 - n * prM x) = U82 := by subst hF83 ex_203 hU82 ex_201; rfl
              have eA : buA (th F) x n = F83 8 (ix x) := by rw [← eF]; unfold buA buF; rw [if_neg c_202, if_neg c_202]; exact ((vU_at _ _ _ _ _ _).trans (if_pos ⟨rfl, rfl⟩)).symm
              rw [← eF, ← eU] at hP
              have ecd : buM U x n = 0 := by unfold buM; rw [if_neg c_191, if_neg c_192, if_pos c_200]
              have hP : va_P D vwCl (moA y am bs ba (buF (th F) x n) (vU U 0 1 (U 0 1 - n * prM x)) X) H := (by skip; exact hP)
              subst hQ
              exact W.iret (v := F83 8 (ix x)) hx hb hr (fun t ht hW => ⟨⟨_, X, rfl, fun _ => eA.symm, fun _ => bp_at hK hN hP t ht hW, fun h9 => absurd ecd h9⟩, hS.F ht⟩) hS.2.2 dX5_buy_123
            · refine lv_aload_n hx hb dX5_buy_92 rfl (lv_at hl 1 rfl) ?_
              refine lv_dup hx hb dX5_buy_93 rfl ?_
              have hf31 := hts (.fieldLink RX5 31 "CoracleMakersModel" "store" "I") (by decide +kernel)
              refine va_get (D := D) (ci := 5) (v := .int ((th F) 0 3)) (C := RX5) (T := TX5) (N := 14) hx hb hts hin5 hown hK hP 0 (ap_l (wf_at (by decide) rfl)) rfl 10 (by decide) hf31 (fun _ h9 => h9) rfl dX5_buy_94 ?_
              refine lv_iload_n hx hb dX5_buy_97 rfl (lv_at hl 3 rfl) ?_
              refine lv_iadd hx hb dX5_buy_98 ?_
              refine lv_topi (fun x_204 ex_204 => ?_)
              obtain ⟨F84, hF84⟩ : ∃ z, z = va_up (th F) 0 (upd ((th F) 0) 3 x_204) := ⟨_, rfl⟩
              refine va_put (D := D) (ci := 5) (v := .int x_204) (ty := .int) (C := RX5) (T := TX5) (N := 14) hx hb hts hin5 tyX5 tyX5_ok nmX5 hown hK hP (aD_D hD (show List.map Prod.fst (moW y am (bs 0) (ba 0) (th F) ++ (stW y bs (am 0) U82 ++ stW y ba (am 0) X)) = _ from by rw [List.map_append, List.map_append, mo_fst y am _ _ _, st_fst y bs _ _, st_fst y ba _ _])) hS 0 (ap_l (wf_at (by decide) rfl)) rfl 10 (by decide) hf31 (fun _ h9 => h9) rfl (by decide +kernel) rfl rfl (Nat.le_of_ble_eq_true rfl) dX5_buy_99 (fun H locs hP _ hS => ?_)
              have hP : va_P D vwCl (moW y am (bs 0) (ba 0) F84 ++ (stW y bs (am 0) U82 ++ stW y ba (am 0) X)) H := (by rw [hF84]; exact P_eq (ap_set_l (show 0 < (wf _ _ _).length by rw [wf_len]; omega) (mo_set (k := 0) (upd ((th F) 0) 3 x_204) (by decide) rfl)) hP)
              refine lv_aload_n hx hb dX5_buy_102 rfl (lv_at hl 1 rfl) ?_
              refine va_get (D := D) (ci := 5) (v := .int (F84 0 3)) (C := RX5) (T := TX5) (N := 14) hx hb hts hin5 hown hK hP 0 (ap_l (wf_at (by decide) rfl)) rfl 10 (by decide) hf31 (fun _ h9 => h9) rfl dX5_buy_103 ?_
              have eF : buF (th F) x n = F84 := by unfold buF; rw [if_pos c_202]; subst hF84 ex_204 hU82 ex_201; rfl
              have eU : vU U 0 1 (U 0 1 - n * prM x) = U82 := by subst hF84 ex_204 hU82 ex_201; rfl
              have eA : buA (th F) x n = F84 0 3 := by rw [← eF]; unfold buA buF; rw [if_pos c_202, if_pos c_202]; exact ((vU_at _ _ _ _ _ _).trans (if_pos ⟨rfl, rfl⟩)).symm
              rw [← eF, ← eU] at hP
              have ecd : buM U x n = 0 := by unfold buM; rw [if_neg c_191, if_neg c_192, if_pos c_200]
              have hP : va_P D vwCl (moA y am bs ba (buF (th F) x n) (vU U 0 1 (U 0 1 - n * prM x)) X) H := (by skip; exact hP)
              subst hQ
              exact W.iret (v := F84 0 3) hx hb hr (fun t ht hW => ⟨⟨_, X, rfl, fun _ => eA.symm, fun _ => bp_at hK hN hP t ht hW, fun h9 => absurd ecd h9⟩, hS.F ht⟩) hS.2.2 dX5_buy_106
          · refine lv_aload_n hx hb dX5_buy_68 rfl (lv_at hl 1 rfl) ?_
            refine lv_iconst (v := 3) hx hb dX5_buy_69 (by decide) ?_
            refine cWI_V (As := [.int 3]) (rest := []) ⟨hx, hb, hml, hown, hts⟩ (c_X5_no l D y _ am (bs 0) (ba 0) (th F) 3) (cwV 1 hts gX5_buy_X5_no rfl rfl rfl (by decide +kernel) ⟨Nat.le_of_ble_eq_true rfl, Nat.le_of_ble_eq_true rfl⟩) hK hN (P_l hP) (by rw [mo_fst]; exact aD_l hD) hS hA (va_recv hK hP (ci := 5) (q0 := 0) rfl (ap_l (wf_at (by decide) rfl))) rfl hl.1 rfl (Nat.le_of_ble_eq_true rfl) dX5_buy_70 ⟨Nat.le_of_ble_eq_true rfl, Nat.le_of_ble_eq_true rfl⟩ (fun H locs hP9 hk9 hS => ?_)
            have hP : va_P D vwCl (moW y am (bs 0) (ba 0) (vU (th F) 0 0 3) ++ (stW y bs (am 0) U ++ stW y ba (am 0) X)) H := fr_l hP (by rw [mo_fst, st2_fst]; exact hD) hk9 hP9
            have ecd : buM U x n = 3 := by unfold buM; rw [if_neg c_191, if_neg c_192, if_neg c_200]
            have ne9 : ¬ buM U x n = 0 := by rw [ecd]; decide
            have hP : va_P D vwCl (moW y am (bs 0) (ba 0) (vU (th F) 0 0 (nI (buM U x n))) ++ (stW y bs (am 0) U ++ stW y ba (am 0) X)) H := by rw [ecd, nI_l3]; exact hP
            subst hQ
            exact W.iret (v := 0) hx hb hr (fun t ht hW => ⟨⟨_, F, rfl, fun h9 => absurd h9 ne9, fun h9 => absurd h9 ne9, fun _ => bp_at hK hN hP t ht hW⟩, hS.F ht⟩) hS.2.2 dX5_buy_73
      · refine lv_iconst (v := 4) hx hb dX5_buy_41 (by decide) ?_
        refine lv_goto (tgt := 55) hx hb dX5_buy_42 (by decide) ?_
        have ep : prM x = 4 := by simp [prM, c_193]
        refine W.eq (g2 := F0 m 55 ls (.int (prM x) :: .int n :: [])) (by rw [ep]) ?_
        refine lv_imul hx hb dX5_buy_55 ?_
        refine lv_istore_n (lv' := [(3, .int (n * (prM x))), (0, .ref (am 0)), (1, .int x), (2, .int n)]) hx hb dX5_buy_56 rfl hl (by decide) rfl (fun ls hl => ?_)
        refine lv_aload_n hx hb dX5_buy_57 rfl (lv_at hl 1 rfl) ?_
        have hf43 := hts (.fieldLink RX5 43 "CoracleMakersModel" "s" "LCoracleMakersModel$State;") (by decide +kernel)
        refine va_get (D := D) (ci := 5) (v := .ref (bs 0)) (C := RX5) (T := TX5) (N := 14) hx hb hts hin5 hown hK hP 0 (ap_l (wf_at (by decide) rfl)) rfl 12 (by decide) hf43 (fun _ h9 => h9) rfl dX5_buy_58 ?_
        have hin4 : ∀ w ∈ u_ws RX4 TX4 13, w ∈ wsX5_buy := by decide +kernel
        have hf74 : (Cond.fieldLinkNest RX5 74 "CoracleMakersModel$State" "coins" "I" "CoracleMakersModel").before a s = true := va_Nw.use rfl (hN.1 _ (List.mem_of_getElem? (i := 0) rfl))
        refine va_getN (D := D) (ci := 4) (v := .int (U 0 1)) (C := RX4) (T := TX4) (N := 13) hx hb hts hin4 hown hK hP (9 + 0) (ap_r (wf_len 9 _ _) (ap_l (wf_at (by decide) rfl))) rfl 1 (by decide) hf74 (fun _ h9 => h9) rfl dX5_buy_61 ?_
        refine lv_iload_n hx hb dX5_buy_64 rfl (lv_at hl 0 rfl) ?_
        refine lv_icmp_ge (tgt := 74) hx hb dX5_buy_65 (by decide) (fun c_205 => ?_) (fun c_205 => ?_)
        · refine lv_aload_n hx hb dX5_buy_74 rfl (lv_at hl 1 rfl) ?_
          refine va_get (D := D) (ci := 5) (v := .ref (bs 0)) (C := RX5) (T := TX5) (N := 14) hx hb hts hin5 hown hK hP 0 (ap_l (wf_at (by decide) rfl)) rfl 12 (by decide) hf43 (fun _ h9 => h9) rfl dX5_buy_75 ?_
          refine lv_dup hx hb dX5_buy_78 rfl ?_
          refine va_getN (D := D) (ci := 4) (v := .int (U 0 1)) (C := RX4) (T := TX4) (N := 13) hx hb hts hin4 hown hK hP (9 + 0) (ap_r (wf_len 9 _ _) (ap_l (wf_at (by decide) rfl))) rfl 1 (by decide) hf74 (fun _ h9 => h9) rfl dX5_buy_79 ?_
          refine lv_iload_n hx hb dX5_buy_82 rfl (lv_at hl 0 rfl) ?_
          refine lv_isub hx hb dX5_buy_83 ?_
          refine lv_topi (fun x_206 ex_206 => ?_)
          obtain ⟨U85, hU85⟩ : ∃ z, z = va_up U 0 (upd (U 0) 1 x_206) := ⟨_, rfl⟩
          refine va_putN (D := D) (ci := 4) (v := .int x_206) (ty := .int) (C := RX4) (T := TX4) (N := 13) hx hb hts hin4 tyX4 tyX4_ok nmX4 hown hK hP (aD_D hD (show List.map Prod.fst (moW y am (bs 0) (ba 0) (th F) ++ (stW y bs (am 0) U ++ stW y ba (am 0) X)) = _ from by rw [List.map_append, List.map_append, mo_fst y am _ _ _, st_fst y bs _ _, st_fst y ba _ _])) hS (9 + 0) (ap_r (wf_len 9 _ _) (ap_l (wf_at (by decide) rfl))) rfl 1 (by decide) hf74 (fun _ h9 => h9) rfl (by decide +kernel) rfl rfl (Nat.le_of_ble_eq_true rfl) dX5_buy_84 (fun H locs hP _ hS => ?_)
          have hP : va_P D vwCl (moW y am (bs 0) (ba 0) (th F) ++ (stW y bs (am 0) U85 ++ stW y ba (am 0) X)) H := (by rw [hU85]; exact P_eq (ap_set_r (wf_len 9 _ _) (ap_set_l (show 0 < (wf _ _ _).length by rw [wf_len]; omega) (st_set (k := 0) (upd (U 0) 1 x_206) (by decide) rfl))) hP)
          refine lv_iload_n hx hb dX5_buy_87 rfl (lv_at hl 2 rfl) ?_
          refine lv_iconst (v := 3) hx hb dX5_buy_88 (by decide) ?_
          refine lv_icmp_ne (tgt := 107) hx hb dX5_buy_89 (by decide) (fun c_207 => ?_) (fun c_207 => ?_)
          · refine lv_aload_n hx hb dX5_buy_107 rfl (lv_at hl 1 rfl) ?_
            have hf35 := hts (.fieldLink RX5 35 "CoracleMakersModel" "hides" "[I") (by decide +kernel)
            refine va_get (D := D) (ci := 5) (v := .ref (am 8)) (C := RX5) (T := TX5) (N := 14) hx hb hts hin5 hown hK hP 0 (ap_l (wf_at (by decide) rfl)) rfl 11 (by decide) hf35 (fun _ h9 => h9) rfl dX5_buy_108 ?_
            refine lv_iload_n hx hb dX5_buy_111 rfl (lv_at hl 2 rfl) ?_
            refine lv_dup2_11 hx hb dX5_buy_112 rfl rfl ?_
            refine va_iald hx hb hK hP 8 0 (ap_l (wf_at (by decide) rfl)) rfl (in4' hx4 c_207) dX5_buy_113 ?_
            refine lv_iload_n hx hb dX5_buy_114 rfl (lv_at hl 3 rfl) ?_
            refine lv_iadd hx hb dX5_buy_115 ?_
            refine lv_topi (fun x_208 ex_208 => ?_)
            obtain ⟨F86, hF86⟩ : ∃ z, z = va_up (th F) 8 (upd ((th F) 8) (ix x) x_208) := ⟨_, rfl⟩
            refine va_iast hx hb hK hP (aD_D hD (show List.map Prod.fst (moW y am (bs 0) (ba 0) (th F) ++ (stW y bs (am 0) U85 ++ stW y ba (am 0) X)) = _ from by rw [List.map_append, List.map_append, mo_fst y am _ _ _, st_fst y bs _ _, st_fst y ba _ _])) hS 8 0 (ap_l (wf_at (by decide) rfl)) rfl (in4' hx4 c_207) dX5_buy_116 (fun H locs hP _ hS => ?_)
            have hP : va_P D vwCl (moW y am (bs 0) (ba 0) F86 ++ (stW y bs (am 0) U85 ++ stW y ba (am 0) X)) H := (by rw [hF86]; exact P_eq (ap_set_l (show 8 < (wf _ _ _).length by rw [wf_len]; omega) (mo_set (k := 8) (upd ((th F) 8) (ix x) x_208) (by decide) rfl)) hP)
            refine lv_aload_n hx hb dX5_buy_117 rfl (lv_at hl 1 rfl) ?_
            refine va_get (D := D) (ci := 5) (v := .ref (am 8)) (C := RX5) (T := TX5) (N := 14) hx hb hts hin5 hown hK hP 0 (ap_l (wf_at (by decide) rfl)) rfl 11 (by decide) hf35 (fun _ h9 => h9) rfl dX5_buy_118 ?_
            refine lv_iload_n hx hb dX5_buy_121 rfl (lv_at hl 2 rfl) ?_
            refine va_iald hx hb hK hP 8 0 (ap_l (wf_at (by decide) rfl)) rfl (in4' hx4 c_207) dX5_buy_122 ?_
            have eF : buF (th F) x n = F86 := by unfold buF; rw [if_neg c_207]; subst hF86 ex_208 hU85 ex_206; rfl
            have eU : vU U 0 1 (U 0 1 - n * prM x) = U85 := by subst hF86 ex_208 hU85 ex_206; rfl
            have eA : buA (th F) x n = F86 8 (ix x) := by rw [← eF]; unfold buA buF; rw [if_neg c_207, if_neg c_207]; exact ((vU_at _ _ _ _ _ _).trans (if_pos ⟨rfl, rfl⟩)).symm
            rw [← eF, ← eU] at hP
            have ecd : buM U x n = 0 := by unfold buM; rw [if_neg c_191, if_neg c_192, if_pos c_205]
            have hP : va_P D vwCl (moA y am bs ba (buF (th F) x n) (vU U 0 1 (U 0 1 - n * prM x)) X) H := (by skip; exact hP)
            subst hQ
            exact W.iret (v := F86 8 (ix x)) hx hb hr (fun t ht hW => ⟨⟨_, X, rfl, fun _ => eA.symm, fun _ => bp_at hK hN hP t ht hW, fun h9 => absurd ecd h9⟩, hS.F ht⟩) hS.2.2 dX5_buy_123
          · refine lv_aload_n hx hb dX5_buy_92 rfl (lv_at hl 1 rfl) ?_
            refine lv_dup hx hb dX5_buy_93 rfl ?_
            have hf31 := hts (.fieldLink RX5 31 "CoracleMakersModel" "store" "I") (by decide +kernel)
            refine va_get (D := D) (ci := 5) (v := .int ((th F) 0 3)) (C := RX5) (T := TX5) (N := 14) hx hb hts hin5 hown hK hP 0 (ap_l (wf_at (by decide) rfl)) rfl 10 (by decide) hf31 (fun _ h9 => h9) rfl dX5_buy_94 ?_
            refine lv_iload_n hx hb dX5_buy_97 rfl (lv_at hl 3 rfl) ?_
            refine lv_iadd hx hb dX5_buy_98 ?_
            refine lv_topi (fun x_209 ex_209 => ?_)
            obtain ⟨F87, hF87⟩ : ∃ z, z = va_up (th F) 0 (upd ((th F) 0) 3 x_209) := ⟨_, rfl⟩
            refine va_put (D := D) (ci := 5) (v := .int x_209) (ty := .int) (C := RX5) (T := TX5) (N := 14) hx hb hts hin5 tyX5 tyX5_ok nmX5 hown hK hP (aD_D hD (show List.map Prod.fst (moW y am (bs 0) (ba 0) (th F) ++ (stW y bs (am 0) U85 ++ stW y ba (am 0) X)) = _ from by rw [List.map_append, List.map_append, mo_fst y am _ _ _, st_fst y bs _ _, st_fst y ba _ _])) hS 0 (ap_l (wf_at (by decide) rfl)) rfl 10 (by decide) hf31 (fun _ h9 => h9) rfl (by decide +kernel) rfl rfl (Nat.le_of_ble_eq_true rfl) dX5_buy_99 (fun H locs hP _ hS => ?_)
            have hP : va_P D vwCl (moW y am (bs 0) (ba 0) F87 ++ (stW y bs (am 0) U85 ++ stW y ba (am 0) X)) H := (by rw [hF87]; exact P_eq (ap_set_l (show 0 < (wf _ _ _).length by rw [wf_len]; omega) (mo_set (k := 0) (upd ((th F) 0) 3 x_209) (by decide) rfl)) hP)
            refine lv_aload_n hx hb dX5_buy_102 rfl (lv_at hl 1 rfl) ?_
            refine va_get (D := D) (ci := 5) (v := .int (F87 0 3)) (C := RX5) (T := TX5) (N := 14) hx hb hts hin5 hown hK hP 0 (ap_l (wf_at (by decide) rfl)) rfl 10 (by decide) hf31 (fun _ h9 => h9) rfl dX5_buy_103 ?_
            have eF : buF (th F) x n = F87 := by unfold buF; rw [if_pos c_207]; subst hF87 ex_209 hU85 ex_206; rfl
            have eU : vU U 0 1 (U 0 1 - n * prM x) = U85 := by subst hF87 ex_209 hU85 ex_206; rfl
            have eA : buA (th F) x n = F87 0 3 := by rw [← eF]; unfold buA buF; rw [if_pos c_207, if_pos c_207]; exact ((vU_at _ _ _ _ _ _).trans (if_pos ⟨rfl, rfl⟩)).symm
            rw [← eF, ← eU] at hP
            have ecd : buM U x n = 0 := by unfold buM; rw [if_neg c_191, if_neg c_192, if_pos c_205]
            have hP : va_P D vwCl (moA y am bs ba (buF (th F) x n) (vU U 0 1 (U 0 1 - n * prM x)) X) H := (by skip; exact hP)
            subst hQ
            exact W.iret (v := F87 0 3) hx hb hr (fun t ht hW => ⟨⟨_, X, rfl, fun _ => eA.symm, fun _ => bp_at hK hN hP t ht hW, fun h9 => absurd ecd h9⟩, hS.F ht⟩) hS.2.2 dX5_buy_106
        · refine lv_aload_n hx hb dX5_buy_68 rfl (lv_at hl 1 rfl) ?_
          refine lv_iconst (v := 3) hx hb dX5_buy_69 (by decide) ?_
          refine cWI_V (As := [.int 3]) (rest := []) ⟨hx, hb, hml, hown, hts⟩ (c_X5_no l D y _ am (bs 0) (ba 0) (th F) 3) (cwV 1 hts gX5_buy_X5_no rfl rfl rfl (by decide +kernel) ⟨Nat.le_of_ble_eq_true rfl, Nat.le_of_ble_eq_true rfl⟩) hK hN (P_l hP) (by rw [mo_fst]; exact aD_l hD) hS hA (va_recv hK hP (ci := 5) (q0 := 0) rfl (ap_l (wf_at (by decide) rfl))) rfl hl.1 rfl (Nat.le_of_ble_eq_true rfl) dX5_buy_70 ⟨Nat.le_of_ble_eq_true rfl, Nat.le_of_ble_eq_true rfl⟩ (fun H locs hP9 hk9 hS => ?_)
          have hP : va_P D vwCl (moW y am (bs 0) (ba 0) (vU (th F) 0 0 3) ++ (stW y bs (am 0) U ++ stW y ba (am 0) X)) H := fr_l hP (by rw [mo_fst, st2_fst]; exact hD) hk9 hP9
          have ecd : buM U x n = 3 := by unfold buM; rw [if_neg c_191, if_neg c_192, if_neg c_205]
          have ne9 : ¬ buM U x n = 0 := by rw [ecd]; decide
          have hP : va_P D vwCl (moW y am (bs 0) (ba 0) (vU (th F) 0 0 (nI (buM U x n))) ++ (stW y bs (am 0) U ++ stW y ba (am 0) X)) H := by rw [ecd, nI_l3]; exact hP
          subst hQ
          exact W.iret (v := 0) hx hb hr (fun t ht hW => ⟨⟨_, F, rfl, fun h9 => absurd h9 ne9, fun h9 => absurd h9 ne9, fun _ => bp_at hK hN hP t ht hW⟩, hS.F ht⟩) hS.2.2 dX5_buy_73
    · refine lv_aload_n hx hb dX5_buy_30 rfl (lv_at hl 0 rfl) ?_
      refine lv_iconst (v := 2) hx hb dX5_buy_31 (by decide) ?_
      refine cWI_V (As := [.int 2]) (rest := []) ⟨hx, hb, hml, hown, hts⟩ (c_X5_no l D y _ am (bs 0) (ba 0) (th F) 2) (cwV 1 hts gX5_buy_X5_no rfl rfl rfl (by decide +kernel) ⟨Nat.le_of_ble_eq_true rfl, Nat.le_of_ble_eq_true rfl⟩) hK hN (P_l hP) (by rw [mo_fst]; exact aD_l hD) hS hA (va_recv hK hP (ci := 5) (q0 := 0) rfl (ap_l (wf_at (by decide) rfl))) rfl hl.1 rfl (Nat.le_of_ble_eq_true rfl) dX5_buy_32 ⟨Nat.le_of_ble_eq_true rfl, Nat.le_of_ble_eq_true rfl⟩ (fun H locs hP9 hk9 hS => ?_)
      have hP : va_P D vwCl (moW y am (bs 0) (ba 0) (vU (th F) 0 0 2) ++ (stW y bs (am 0) U ++ stW y ba (am 0) X)) H := fr_l hP (by rw [mo_fst, st2_fst]; exact hD) hk9 hP9
      have ecd : buM U x n = 2 := by unfold buM; rw [if_neg c_191, if_pos c_192]
      have ne9 : ¬ buM U x n = 0 := by rw [ecd]; decide
      have hP : va_P D vwCl (moW y am (bs 0) (ba 0) (vU (th F) 0 0 (nI (buM U x n))) ++ (stW y bs (am 0) U ++ stW y ba (am 0) X)) H := by rw [ecd, nI_l2]; exact hP
      subst hQ
      exact W.iret (v := 0) hx hb hr (fun t ht hW => ⟨⟨_, F, rfl, fun h9 => absurd h9 ne9, fun h9 => absurd h9 ne9, fun _ => bp_at hK hN hP t ht hW⟩, hS.F ht⟩) hS.2.2 dX5_buy_35
  · refine lv_aload_n hx hb dX5_buy_14 rfl (lv_at hl 0 rfl) ?_
    refine lv_iconst (v := 1) hx hb dX5_buy_15 (by decide) ?_
    refine cWI_V (As := [.int 1]) (rest := []) ⟨hx, hb, hml, hown, hts⟩ (c_X5_no l D y _ am (bs 0) (ba 0) (th F) 1) (cwV 1 hts gX5_buy_X5_no rfl rfl rfl (by decide +kernel) ⟨Nat.le_of_ble_eq_true rfl, Nat.le_of_ble_eq_true rfl⟩) hK hN (P_l hP) (by rw [mo_fst]; exact aD_l hD) hS hA (va_recv hK hP (ci := 5) (q0 := 0) rfl (ap_l (wf_at (by decide) rfl))) rfl hl.1 rfl (Nat.le_of_ble_eq_true rfl) dX5_buy_16 ⟨Nat.le_of_ble_eq_true rfl, Nat.le_of_ble_eq_true rfl⟩ (fun H locs hP9 hk9 hS => ?_)
    have hP : va_P D vwCl (moW y am (bs 0) (ba 0) (vU (th F) 0 0 1) ++ (stW y bs (am 0) U ++ stW y ba (am 0) X)) H := fr_l hP (by rw [mo_fst, st2_fst]; exact hD) hk9 hP9
    have ecd : buM U x n = 1 := by unfold buM; rw [if_pos c_191]
    have ne9 : ¬ buM U x n = 0 := by rw [ecd]; decide
    have hP : va_P D vwCl (moW y am (bs 0) (ba 0) (vU (th F) 0 0 (nI (buM U x n))) ++ (stW y bs (am 0) U ++ stW y ba (am 0) X)) H := by rw [ecd, nI_l1]; exact hP
    subst hQ
    exact W.iret (v := 0) hx hb hr (fun t ht hW => ⟨⟨_, F, rfl, fun h9 => absurd h9 ne9, fun h9 => absurd h9 ne9, fun _ => bp_at hK hN hP t ht hW⟩, hS.F ht⟩) hS.2.2 dX5_buy_19
