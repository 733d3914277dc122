abbrev rmX4_draw : Room := { frames := 2, cells := 0, slots := 0, locals := 47 }
set_option maxHeartbeats 4000000 in
set_option maxRecDepth 100000 in
/-- draw(x) -/
theorem c_X4_draw (l : Launch) (D : va_G) (y : Nat → ClassId) (sz : Nat) (am bs : Nat → Nat) (s0 a0 : Nat) (F U : Nat → Nat → Int32) (x : Int32) (hx0 : vp_in x 3) (hF : ∀ n, n < 3 → vp_in (F 6 n) 6 ∧ vp_in (F 7 n) 6) (hA9 : ∀ k, k < 6 → vp_in (U 2 k) 16) : WrV l D y yX4_draw wsX4_draw rmX4_draw [.ref (bs 0), .int x] (moW y am s0 a0 F ++ stW y bs (am 0) U) sz (moW y am s0 a0 F ++ stW y bs (am 0) (drM F U (ix x))) := by
  refine mW (fun A => va_Qv (fun (_ : Unit) => True) (fun _ t9 => Bp D y (moW y am s0 a0 F ++ stW y bs (am 0) (drM F U (ix x))) t9) A) (C := RX4) (cc := cX4_draw) (maxL := 6) (ret := none) (by decide) rfl rfl (Nat.le_of_ble_eq_true rfl) ?_
  intro p e s m a below meth c ls A Q hQ hsz hx hb hr hts hown hlocks hin hml hP hK hN hD hA hS hl
  have hl : lv_has ls 6 [(0, .ref (bs 0)), (1, .int x)] := hl
  rw [mo2_fst] at hD
  refine lv_aload_n hx hb dX4_draw_0 rfl (lv_at hl 0 rfl) ?_
  refine lv_iload_n hx hb dX4_draw_1 rfl (lv_at hl 1 rfl) ?_
  refine cRI_V (As := [.int x]) (rest := []) ⟨hx, hb, hml, hown, hts⟩ (c_X4_catches l D y am bs s0 a0 F U x hx0 hF hA9) (cwV 1 hts gX4_draw_X4_catches rfl rfl rfl (by decide +kernel) ⟨Nat.le_of_ble_eq_true rfl, Nat.le_of_ble_eq_true rfl⟩) hK hN hP (va_recv hK hP (ci := 4) (q0 := (9 + 0)) rfl (ap_r (wf_len 9 _ _) (wf_at (by decide) rfl))) rfl hl.1 rfl (Nat.le_of_ble_eq_true rfl) dX4_draw_2 ⟨Nat.le_of_ble_eq_true rfl, Nat.le_of_ble_eq_true rfl⟩ ?_
  refine lv_istore_n (lv' := [(2, .int (caM F U (ix x))), (0, .ref (bs 0)), (1, .int x)]) hx hb dX4_draw_5 rfl hl (by decide) rfl (fun ls hl => ?_)
  refine lv_aload_n hx hb dX4_draw_6 rfl (lv_at hl 1 rfl) ?_
  have hin4 : ∀ w ∈ u_ws RX4 TX4 13, w ∈ wsX4_draw := by decide +kernel
  have hf3 := hts (.fieldLink RX4 3 "CoracleMakersModel$State" "this$0" "LCoracleMakersModel;") (by decide +kernel)
  refine va_get (D := D) (ci := 4) (v := .ref (am 0)) (C := RX4) (T := TX4) (N := 13) hx hb hts hin4 hown hK hP (9 + 0) (ap_r (wf_len 9 _ _) (wf_at (by decide) rfl)) rfl 12 (by decide) hf3 (fun _ h9 => h9) rfl dX4_draw_7 ?_
  have hin5 : ∀ w ∈ u_ws RX5 TX5 14, w ∈ wsX4_draw := by decide +kernel
  have hf63 : (Cond.fieldLinkNest RX4 63 "CoracleMakersModel" "first" "[I" "CoracleMakersModel").before a s = true := va_Nw.use rfl (hN.1 _ (List.mem_of_getElem? (i := 17) rfl))
  refine va_getN (D := D) (ci := 5) (v := .ref (am 6)) (C := RX5) (T := TX5) (N := 14) hx hb hts hin5 hown hK hP 0 (ap_l (wf_at (by decide) rfl)) rfl 8 (by decide) hf63 (fun _ h9 => h9) rfl dX4_draw_10 ?_
  refine lv_iload_n hx hb dX4_draw_13 rfl (lv_at hl 2 rfl) ?_
  refine va_iald hx hb hK hP 6 0 (ap_l (wf_at (by decide) rfl)) rfl hx0 dX4_draw_14 ?_
  refine lv_istore_n (lv' := [(3, .int (F 6 (ix x))), (2, .int (caM F U (ix x))), (0, .ref (bs 0)), (1, .int x)]) hx hb dX4_draw_15 rfl hl (by decide) rfl (fun ls hl => ?_)
  refine lv_aload_n hx hb dX4_draw_16 rfl (lv_at hl 2 rfl) ?_
  refine va_get (D := D) (ci := 4) (v := .ref (am 0)) (C := RX4) (T := TX4) (N := 13) hx hb hts hin4 hown hK hP (9 + 0) (ap_r (wf_len 9 _ _) (wf_at (by decide) rfl)) rfl 12 (by decide) hf3 (fun _ h9 => h9) rfl dX4_draw_17 ?_
  have hf66 : (Cond.fieldLinkNest RX4 66 "CoracleMakersModel" "second" "[I" "CoracleMakersModel").before a s = true := va_Nw.use rfl (hN.1 _ (List.mem_of_getElem? (i := 18) rfl))
  refine va_getN (D := D) (ci := 5) (v := .ref (am 7)) (C := RX5) (T := TX5) (N := 14) hx hb hts hin5 hown hK hP 0 (ap_l (wf_at (by decide) rfl)) rfl 9 (by decide) hf66 (fun _ h9 => h9) rfl dX4_draw_20 ?_
  refine lv_iload_n hx hb dX4_draw_23 rfl (lv_at hl 3 rfl) ?_
  refine va_iald hx hb hK hP 7 0 (ap_l (wf_at (by decide) rfl)) rfl hx0 dX4_draw_24 ?_
  refine lv_istore (lv' := [(4, .int (F 7 (ix x))), (3, .int (F 6 (ix x))), (2, .int (caM F U (ix x))), (0, .ref (bs 0)), (1, .int x)]) hx hb dX4_draw_25 hl (by decide) rfl (fun ls hl => ?_)
  refine lv_aload_n hx hb dX4_draw_27 rfl (lv_at hl 3 rfl) ?_
  refine lv_iload_n hx hb dX4_draw_28 rfl (lv_at hl 1 rfl) ?_
  refine cRI_V (As := [.int (F 6 (ix x))]) (rest := []) ⟨hx, hb, hml, hown, hts⟩ (c_X4_room l D y am bs s0 a0 F U (F 6 (ix x)) (hF _ (in_ix hx0)).1) (cwV 1 hts gX4_draw_X4_room rfl rfl rfl (by decide +kernel) ⟨Nat.le_of_ble_eq_true rfl, Nat.le_of_ble_eq_true rfl⟩) hK hN hP (va_recv hK hP (ci := 4) (q0 := (9 + 0)) rfl (ap_r (wf_len 9 _ _) (wf_at (by decide) rfl))) rfl hl.1 rfl (Nat.le_of_ble_eq_true rfl) dX4_draw_29 ⟨Nat.le_of_ble_eq_true rfl, Nat.le_of_ble_eq_true rfl⟩ ?_
  refine lv_iload_n hx hb dX4_draw_32 rfl (lv_at hl 2 rfl) ?_
  refine lv_iconst (v := 1) hx hb dX4_draw_33 (by decide) ?_
  refine lv_iadd hx hb dX4_draw_34 ?_
  refine lv_iconst (v := 2) hx hb dX4_draw_35 (by decide) ?_
  refine lv_idiv hx hb dX4_draw_36 (by decide) ?_
  refine lv_iload_n hx hb dX4_draw_37 rfl (lv_at hl 2 rfl) ?_
  refine lv_aload_n hx hb dX4_draw_38 rfl (lv_at hl 3 rfl) ?_
  refine lv_iload hx hb dX4_draw_39 (lv_at hl 0 rfl) ?_
  refine cRI_V (As := [.int (F 7 (ix x))]) (rest := [.int (caM F U (ix x)), .int (((caM F U (ix x)) + 1) / 2), .int (roM F U (ix (F 6 (ix x))))]) ⟨hx, hb, hml, hown, hts⟩ (c_X4_room l D y am bs s0 a0 F U (F 7 (ix x)) (hF _ (in_ix hx0)).2) (cwV 1 hts gX4_draw_X4_room rfl rfl rfl (by decide +kernel) ⟨Nat.le_of_ble_eq_true rfl, Nat.le_of_ble_eq_true rfl⟩) hK hN hP (va_recv hK hP (ci := 4) (q0 := (9 + 0)) rfl (ap_r (wf_len 9 _ _) (wf_at (by decide) rfl))) rfl hl.1 rfl (Nat.le_of_ble_eq_true rfl) dX4_draw_41 ⟨Nat.le_of_ble_eq_true rfl, Nat.le_of_ble_eq_true rfl⟩ ?_
  refine lv_isub hx hb dX4_draw_44 ?_
  refine va_mmax hx hb (hml.trans hl.1.symm) hown (hts (.methodLink RX4 95 Lib.Math.max.name) (by decide +kernel)) (hts (.static Lib.Math.max.name) (by decide +kernel)) (hts (.initialized "java/lang/Math") (by decide +kernel)) (hts (.code Lib.Math.max.name Lib.Math.max.code 2 (some .int)) (by decide +kernel)) (Nat.le_of_ble_eq_true rfl) (Nat.le_of_ble_eq_true rfl) (Nat.le_of_ble_eq_true rfl) (Nat.le_of_ble_eq_true rfl) dX4_draw_45 ?_
  refine W.eq (g2 := F0 m 48 ls (.int (mx (((caM F U (ix x)) + 1) / 2) ((caM F U (ix x)) - (roM F U (ix (F 7 (ix x)))))) :: .int (roM F U (ix (F 6 (ix x)))) :: [])) rfl ?_
  refine va_mmin hx hb (hml.trans hl.1.symm) hown (hts (.methodLink RX4 76 Lib.Math.min.name) (by decide +kernel)) (hts (.static Lib.Math.min.name) (by decide +kernel)) (hts (.initialized "java/lang/Math") (by decide +kernel)) (hts (.code Lib.Math.min.name Lib.Math.min.code 2 (some .int)) (by decide +kernel)) (Nat.le_of_ble_eq_true rfl) (Nat.le_of_ble_eq_true rfl) (Nat.le_of_ble_eq_true rfl) (Nat.le_of_ble_eq_true rfl) dX4_draw_48 ?_
  refine W.eq (g2 := F0 m 51 ls (.int (mn (roM F U (ix (F 6 (ix x)))) (mx (((caM F U (ix x)) + 1) / 2) ((caM F U (ix x)) - (roM F U (ix (F 7 (ix x))))))) :: [])) rfl ?_
  refine W.eq (g2 := F0 m 51 ls (.int (dsM F U (ix x)) :: [])) rfl ?_
  refine lv_istore (lv' := [(5, .int (dsM F U (ix x))), (4, .int (F 7 (ix x))), (3, .int (F 6 (ix x))), (2, .int (caM F U (ix x))), (0, .ref (bs 0)), (1, .int x)]) hx hb dX4_draw_51 hl (by decide) rfl (fun ls hl => ?_)
  refine lv_aload_n hx hb dX4_draw_53 rfl (lv_at hl 4 rfl) ?_
  have hf19 := hts (.fieldLink RX4 19 "CoracleMakersModel$State" "salmon" "[I") (by decide +kernel)
  refine va_get (D := D) (ci := 4) (v := .ref (bs 1)) (C := RX4) (T := TX4) (N := 13) hx hb hts hin4 hown hK hP (9 + 0) (ap_r (wf_len 9 _ _) (wf_at (by decide) rfl)) rfl 4 (by decide) hf19 (fun _ h9 => h9) rfl dX4_draw_54 ?_
  refine lv_aload_n hx hb dX4_draw_57 rfl (lv_at hl 4 rfl) ?_
  have hf23 := hts (.fieldLink RX4 23 "CoracleMakersModel$State" "at" "[I") (by decide +kernel)
  refine va_get (D := D) (ci := 4) (v := .ref (bs 2)) (C := RX4) (T := TX4) (N := 13) hx hb hts hin4 hown hK hP (9 + 0) (ap_r (wf_len 9 _ _) (wf_at (by decide) rfl)) rfl 5 (by decide) hf23 (fun _ h9 => h9) rfl dX4_draw_58 ?_
  refine lv_iload_n hx hb dX4_draw_61 rfl (lv_at hl 2 rfl) ?_
  refine va_iald hx hb hK hP (9 + 2) 0 (ap_r (wf_len 9 _ _) (wf_at (by decide) rfl)) rfl (hF _ (in_ix hx0)).1 dX4_draw_62 ?_
  refine lv_dup2_11 hx hb dX4_draw_63 rfl rfl ?_
  refine va_iald hx hb hK hP (9 + 1) 0 (ap_r (wf_len 9 _ _) (wf_at (by decide) rfl)) rfl (hA9 _ (in_ix (hF _ (in_ix hx0)).1)) dX4_draw_64 ?_
  refine lv_iload_n hx hb dX4_draw_65 rfl (lv_at hl 3 rfl) ?_
  refine lv_isub hx hb dX4_draw_66 ?_
  refine lv_topi (fun x_156 ex_156 => ?_)
  obtain ⟨U47, hU47⟩ : ∃ z, z = va_up U 1 (upd (U 1) (ix (U 2 (ix (F 6 (ix x))))) x_156) := ⟨_, rfl⟩
  refine va_iast hx hb hK hP (aD_D hD (show List.map Prod.fst (moW y am s0 a0 F ++ stW y bs (am 0) U) = _ from by rw [List.map_append, mo_fst y am _ _ _, st_fst y bs _ _])) hS (9 + 1) 0 (ap_r (wf_len 9 _ _) (wf_at (by decide) rfl)) rfl (hA9 _ (in_ix (hF _ (in_ix hx0)).1)) dX4_draw_67 (fun H locs hP _ hS => ?_)
  have hP : va_P D vwCl (moW y am s0 a0 F ++ stW y bs (am 0) U47) H := (by rw [hU47]; exact P_eq (ap_set_r (wf_len 9 _ _) (st_set (k := 1) (upd (U 1) (ix (U 2 (ix (F 6 (ix x))))) x_156) (by decide) rfl)) hP)
  refine lv_aload_n hx hb dX4_draw_68 rfl (lv_at hl 4 rfl) ?_
  have hf35 := hts (.fieldLink RX4 35 "CoracleMakersModel$State" "load" "[I") (by decide +kernel)
  refine va_get (D := D) (ci := 4) (v := .ref (bs 6)) (C := RX4) (T := TX4) (N := 13) hx hb hts hin4 hown hK hP (9 + 0) (ap_r (wf_len 9 _ _) (wf_at (by decide) rfl)) rfl 9 (by decide) hf35 (fun _ h9 => h9) rfl dX4_draw_69 ?_
  refine lv_iload_n hx hb dX4_draw_72 rfl (lv_at hl 2 rfl) ?_
  refine lv_dup2_11 hx hb dX4_draw_73 rfl rfl ?_
  refine va_iald hx hb hK hP (9 + 6) 0 (ap_r (wf_len 9 _ _) (wf_at (by decide) rfl)) rfl (hF _ (in_ix hx0)).1 dX4_draw_74 ?_
  refine lv_iload hx hb dX4_draw_75 (lv_at hl 0 rfl) ?_
  refine lv_iadd hx hb dX4_draw_77 ?_
  refine lv_topi (fun x_157 ex_157 => ?_)
  obtain ⟨U48, hU48⟩ : ∃ z, z = va_up U47 6 (upd (U47 6) (ix (F 6 (ix x))) x_157) := ⟨_, rfl⟩
  refine va_iast hx hb hK hP (aD_D hD (show List.map Prod.fst (moW y am s0 a0 F ++ stW y bs (am 0) U47) = _ from by rw [List.map_append, mo_fst y am _ _ _, st_fst y bs _ _])) hS (9 + 6) 0 (ap_r (wf_len 9 _ _) (wf_at (by decide) rfl)) rfl (hF _ (in_ix hx0)).1 dX4_draw_78 (fun H locs hP _ hS => ?_)
  have hP : va_P D vwCl (moW y am s0 a0 F ++ stW y bs (am 0) U48) H := (by rw [hU48]; exact P_eq (ap_set_r (wf_len 9 _ _) (st_set (k := 6) (upd (U47 6) (ix (F 6 (ix x))) x_157) (by decide) rfl)) hP)
  refine lv_aload_n hx hb dX4_draw_79 rfl (lv_at hl 4 rfl) ?_
  refine va_get (D := D) (ci := 4) (v := .ref (bs 6)) (C := RX4) (T := TX4) (N := 13) hx hb hts hin4 hown hK hP (9 + 0) (ap_r (wf_len 9 _ _) (wf_at (by decide) rfl)) rfl 9 (by decide) hf35 (fun _ h9 => h9) rfl dX4_draw_80 ?_
  refine lv_iload hx hb dX4_draw_83 (lv_at hl 1 rfl) ?_
  refine lv_dup2_11 hx hb dX4_draw_85 rfl rfl ?_
  refine va_iald hx hb hK hP (9 + 6) 0 (ap_r (wf_len 9 _ _) (wf_at (by decide) rfl)) rfl (hF _ (in_ix hx0)).2 dX4_draw_86 ?_
  refine lv_iload_n hx hb dX4_draw_87 rfl (lv_at hl 3 rfl) ?_
  refine lv_iload hx hb dX4_draw_88 (lv_at hl 0 rfl) ?_
  refine lv_isub hx hb dX4_draw_90 ?_
  refine lv_iadd hx hb dX4_draw_91 ?_
  refine lv_topi (fun x_158 ex_158 => ?_)
  obtain ⟨U49, hU49⟩ : ∃ z, z = va_up U48 6 (upd (U48 6) (ix (F 7 (ix x))) x_158) := ⟨_, rfl⟩
  refine va_iast hx hb hK hP (aD_D hD (show List.map Prod.fst (moW y am s0 a0 F ++ stW y bs (am 0) U48) = _ from by rw [List.map_append, mo_fst y am _ _ _, st_fst y bs _ _])) hS (9 + 6) 0 (ap_r (wf_len 9 _ _) (wf_at (by decide) rfl)) rfl (hF _ (in_ix hx0)).2 dX4_draw_92 (fun H locs hP _ hS => ?_)
  have hP : va_P D vwCl (moW y am s0 a0 F ++ stW y bs (am 0) U49) H := (by rw [hU49]; exact P_eq (ap_set_r (wf_len 9 _ _) (st_set (k := 6) (upd (U48 6) (ix (F 7 (ix x))) x_158) (by decide) rfl)) hP)
  refine lv_aload_n hx hb dX4_draw_93 rfl (lv_at hl 4 rfl) ?_
  have hf42 := hts (.fieldLink RX4 42 "CoracleMakersModel$State" "caught" "[I") (by decide +kernel)
  refine va_get (D := D) (ci := 4) (v := .ref (bs 8)) (C := RX4) (T := TX4) (N := 13) hx hb hts hin4 hown hK hP (9 + 0) (ap_r (wf_len 9 _ _) (wf_at (by decide) rfl)) rfl 11 (by decide) hf42 (fun _ h9 => h9) rfl dX4_draw_94 ?_
  refine lv_iload_n hx hb dX4_draw_97 rfl (lv_at hl 5 rfl) ?_
  refine lv_dup2_11 hx hb dX4_draw_98 rfl rfl ?_
  refine va_iald hx hb hK hP (9 + 8) 0 (ap_r (wf_len 9 _ _) (wf_at (by decide) rfl)) rfl hx0 dX4_draw_99 ?_
  refine lv_iload_n hx hb dX4_draw_100 rfl (lv_at hl 3 rfl) ?_
  refine lv_iadd hx hb dX4_draw_101 ?_
  refine lv_topi (fun x_159 ex_159 => ?_)
  obtain ⟨U50, hU50⟩ : ∃ z, z = va_up U49 8 (upd (U49 8) (ix x) x_159) := ⟨_, rfl⟩
  refine va_iast hx hb hK hP (aD_D hD (show List.map Prod.fst (moW y am s0 a0 F ++ stW y bs (am 0) U49) = _ from by rw [List.map_append, mo_fst y am _ _ _, st_fst y bs _ _])) hS (9 + 8) 0 (ap_r (wf_len 9 _ _) (wf_at (by decide) rfl)) rfl hx0 dX4_draw_102 (fun H locs hP _ hS => ?_)
  have hP : va_P D vwCl (moW y am s0 a0 F ++ stW y bs (am 0) U50) H := (by rw [hU50]; exact P_eq (ap_set_r (wf_len 9 _ _) (st_set (k := 8) (upd (U49 8) (ix x) x_159) (by decide) rfl)) hP)
  have hP : va_P D vwCl (moW y am s0 a0 F ++ stW y bs (am 0) (drM F U (ix x))) H := (by subst hU50 ex_159 hU49 ex_158 hU48 ex_157 hU47 ex_156; exact hP)
  subst hQ
  exact W.vret hx hb hr (fun t ht hW => ⟨⟨(), rfl, trivial, bp_at hK hN hP t ht hW⟩, hS.F ht⟩) hS.2.2 dX4_draw_103
abbrev rmX4_soak : Room := { frames := 1, cells := 0, slots := 0, locals := 24 }
set_option maxHeartbeats 4000000 in
set_option maxRecDepth 100000 in
/-- soak(x) -/
theorem c_X4_soak (l : Launch) (D : va_G) (y : Nat → ClassId) (sz : Nat) (am bs : Nat → Nat) (s0 a0 : Nat) (F U : Nat → Nat → Int32) (x : Int32) (hx0 : vp_in x 6) : WrV l D y yX4_soak wsX4_soak rmX4_soak [.ref (bs 0), .int x] (moW y am s0 a0 F ++ stW y bs (am 0) U) sz (moW y am s0 a0 F ++ stW y bs (am 0) (soM F U (ix x))) := by
  refine mW (fun A => va_Qv (fun (_ : Unit) => True) (fun _ t9 => Bp D y (moW y am s0 a0 F ++ stW y bs (am 0) (soM F U (ix x))) t9) A) (C := RX4) (cc := cX4_soak) (maxL := 2) (ret := none) (by decide) rfl rfl (Nat.le_of_ble_eq_true rfl) ?_
  intro p e s m a below meth c ls A Q hQ hsz hx hb hr hts hown hlocks hin hml hP hK hN hD hA hS hl
  have hl : lv_has ls 2 [(0, .ref (bs 0)), (1, .int x)] := hl
  rw [mo2_fst] at hD
  refine lv_aload_n hx hb dX4_soak_0 rfl (lv_at hl 0 rfl) ?_
  have hin4 : ∀ w ∈ u_ws RX4 TX4 13, w ∈ wsX4_soak := by decide +kernel
  have hf29 := hts (.fieldLink RX4 29 "CoracleMakersModel$State" "tar" "[I") (by decide +kernel)
  refine va_get (D := D) (ci := 4) (v := .ref (bs 4)) (C := RX4) (T := TX4) (N := 13) hx hb hts hin4 hown hK hP (9 + 0) (ap_r (wf_len 9 _ _) (wf_at (by decide) rfl)) rfl 7 (by decide) hf29 (fun _ h9 => h9) rfl dX4_soak_1 ?_
  refine lv_iload_n hx hb dX4_soak_4 rfl (lv_at hl 1 rfl) ?_
  refine lv_iconst (v := 0) hx hb dX4_soak_5 (by decide) ?_
  refine lv_aload_n hx hb dX4_soak_6 rfl (lv_at hl 0 rfl) ?_
  refine va_get (D := D) (ci := 4) (v := .ref (bs 4)) (C := RX4) (T := TX4) (N := 13) hx hb hts hin4 hown hK hP (9 + 0) (ap_r (wf_len 9 _ _) (wf_at (by decide) rfl)) rfl 7 (by decide) hf29 (fun _ h9 => h9) rfl dX4_soak_7 ?_
  refine lv_iload_n hx hb dX4_soak_10 rfl (lv_at hl 1 rfl) ?_
  refine va_iald hx hb hK hP (9 + 4) 0 (ap_r (wf_len 9 _ _) (wf_at (by decide) rfl)) rfl hx0 dX4_soak_11 ?_
  refine lv_iconst (v := 1) hx hb dX4_soak_12 (by decide) ?_
  refine lv_isub hx hb dX4_soak_13 ?_
  refine va_mmax hx hb (hml.trans hl.1.symm) hown (hts (.methodLink RX4 95 Lib.Math.max.name) (by decide +kernel)) (hts (.static Lib.Math.max.name) (by decide +kernel)) (hts (.initialized "java/lang/Math") (by decide +kernel)) (hts (.code Lib.Math.max.name Lib.Math.max.code 2 (some .int)) (by decide +kernel)) (Nat.le_of_ble_eq_true rfl) (Nat.le_of_ble_eq_true rfl) (Nat.le_of_ble_eq_true rfl) (Nat.le_of_ble_eq_true rfl) dX4_soak_14 ?_
  refine W.eq (g2 := F0 m 17 ls (.int (mx 0 ((U 4 (ix x)) - 1)) :: .int x :: .ref (bs 4) :: [])) rfl ?_
  refine lv_topi (fun x_160 ex_160 => ?_)
  obtain ⟨U51, hU51⟩ : ∃ z, z = va_up U 4 (upd (U 4) (ix x) x_160) := ⟨_, rfl⟩
  refine va_iast hx hb hK hP (aD_D hD (show List.map Prod.fst (moW y am s0 a0 F ++ stW y bs (am 0) U) = _ from by rw [List.map_append, mo_fst y am _ _ _, st_fst y bs _ _])) hS (9 + 4) 0 (ap_r (wf_len 9 _ _) (wf_at (by decide) rfl)) rfl hx0 dX4_soak_17 (fun H locs hP _ hS => ?_)
  have hP : va_P D vwCl (moW y am s0 a0 F ++ stW y bs (am 0) U51) H := (by rw [hU51]; exact P_eq (ap_set_r (wf_len 9 _ _) (st_set (k := 4) (upd (U 4) (ix x) x_160) (by decide) rfl)) hP)
  refine lv_aload_n hx hb dX4_soak_18 rfl (lv_at hl 0 rfl) ?_
  have hf32 := hts (.fieldLink RX4 32 "CoracleMakersModel$State" "water" "[I") (by decide +kernel)
  refine va_get (D := D) (ci := 4) (v := .ref (bs 5)) (C := RX4) (T := TX4) (N := 13) hx hb hts hin4 hown hK hP (9 + 0) (ap_r (wf_len 9 _ _) (wf_at (by decide) rfl)) rfl 8 (by decide) hf32 (fun _ h9 => h9) rfl dX4_soak_19 ?_
  refine lv_iload_n hx hb dX4_soak_22 rfl (lv_at hl 1 rfl) ?_
  refine lv_dup2_11 hx hb dX4_soak_23 rfl rfl ?_
  refine va_iald hx hb hK hP (9 + 5) 0 (ap_r (wf_len 9 _ _) (wf_at (by decide) rfl)) rfl hx0 dX4_soak_24 ?_
  refine lv_aload_n hx hb dX4_soak_25 rfl (lv_at hl 0 rfl) ?_
  refine lv_iload_n hx hb dX4_soak_26 rfl (lv_at hl 1 rfl) ?_
  refine cRI_V (As := [.int x]) (rest := [.int (U51 5 (ix x)), .int x, .ref (bs 5)]) ⟨hx, hb, hml, hown, hts⟩ (c_X4_leak l D y am bs s0 a0 F U51 x hx0) (cwV 1 hts gX4_soak_X4_leak rfl rfl rfl (by decide +kernel) ⟨Nat.le_of_ble_eq_true rfl, Nat.le_of_ble_eq_true rfl⟩) hK hN hP (va_recv hK hP (ci := 4) (q0 := (9 + 0)) rfl (ap_r (wf_len 9 _ _) (wf_at (by decide) rfl))) rfl hl.1 rfl (Nat.le_of_ble_eq_true rfl) dX4_soak_27 ⟨Nat.le_of_ble_eq_true rfl, Nat.le_of_ble_eq_true rfl⟩ ?_
  refine lv_iadd hx hb dX4_soak_30 ?_
  refine lv_topi (fun x_161 ex_161 => ?_)
  obtain ⟨U52, hU52⟩ : ∃ z, z = va_up U51 5 (upd (U51 5) (ix x) x_161) := ⟨_, rfl⟩
  refine va_iast hx hb hK hP (aD_D hD (show List.map Prod.fst (moW y am s0 a0 F ++ stW y bs (am 0) U51) = _ from by rw [List.map_append, mo_fst y am _ _ _, st_fst y bs _ _])) hS (9 + 5) 0 (ap_r (wf_len 9 _ _) (wf_at (by decide) rfl)) rfl hx0 dX4_soak_31 (fun H locs hP _ hS => ?_)
  have hP : va_P D vwCl (moW y am s0 a0 F ++ stW y bs (am 0) U52) H := (by rw [hU52]; exact P_eq (ap_set_r (wf_len 9 _ _) (st_set (k := 5) (upd (U51 5) (ix x) x_161) (by decide) rfl)) hP)
  refine lv_aload_n hx hb dX4_soak_32 rfl (lv_at hl 0 rfl) ?_
  refine va_get (D := D) (ci := 4) (v := .ref (bs 5)) (C := RX4) (T := TX4) (N := 13) hx hb hts hin4 hown hK hP (9 + 0) (ap_r (wf_len 9 _ _) (wf_at (by decide) rfl)) rfl 8 (by decide) hf32 (fun _ h9 => h9) rfl dX4_soak_33 ?_
  refine lv_iload_n hx hb dX4_soak_36 rfl (lv_at hl 1 rfl) ?_
  refine va_iald hx hb hK hP (9 + 5) 0 (ap_r (wf_len 9 _ _) (wf_at (by decide) rfl)) rfl hx0 dX4_soak_37 ?_
  refine lv_iconst (v := 2) hx hb dX4_soak_38 (by decide) ?_
  refine lv_aload_n hx hb dX4_soak_39 rfl (lv_at hl 0 rfl) ?_
  have hf3 := hts (.fieldLink RX4 3 "CoracleMakersModel$State" "this$0" "LCoracleMakersModel;") (by decide +kernel)
  refine va_get (D := D) (ci := 4) (v := .ref (am 0)) (C := RX4) (T := TX4) (N := 13) hx hb hts hin4 hown hK hP (9 + 0) (ap_r (wf_len 9 _ _) (wf_at (by decide) rfl)) rfl 12 (by decide) hf3 (fun _ h9 => h9) rfl dX4_soak_40 ?_
  have hin5 : ∀ w ∈ u_ws RX5 TX5 14, w ∈ wsX4_soak := by decide +kernel
  have hf60 : (Cond.fieldLinkNest RX4 60 "CoracleMakersModel" "laths" "[I" "CoracleMakersModel").before a s = true := va_Nw.use rfl (hN.1 _ (List.mem_of_getElem? (i := 13) rfl))
  refine va_getN (D := D) (ci := 5) (v := .ref (am 3)) (C := RX5) (T := TX5) (N := 14) hx hb hts hin5 hown hK hP 0 (ap_l (wf_at (by decide) rfl)) rfl 4 (by decide) hf60 (fun _ h9 => h9) rfl dX4_soak_43 ?_
  refine lv_iload_n hx hb dX4_soak_46 rfl (lv_at hl 1 rfl) ?_
  refine va_iald hx hb hK hP 3 0 (ap_l (wf_at (by decide) rfl)) rfl hx0 dX4_soak_47 ?_
  refine lv_imul hx hb dX4_soak_48 ?_
  refine lv_icmp_ge (tgt := 53) hx hb dX4_soak_49 (by decide) (fun c_162 => ?_) (fun c_162 => ?_)
  · refine lv_aload_n hx hb dX4_soak_53 rfl (lv_at hl 0 rfl) ?_
    have hf38 := hts (.fieldLink RX4 38 "CoracleMakersModel$State" "hasSunk" "[Z") (by decide +kernel)
    refine va_get (D := D) (ci := 4) (v := .ref (bs 7)) (C := RX4) (T := TX4) (N := 13) hx hb hts hin4 hown hK hP (9 + 0) (ap_r (wf_len 9 _ _) (wf_at (by decide) rfl)) rfl 10 (by decide) hf38 (fun _ h9 => h9) rfl dX4_soak_54 ?_
    refine lv_iload_n hx hb dX4_soak_57 rfl (lv_at hl 1 rfl) ?_
    refine lv_iconst (v := 1) hx hb dX4_soak_58 (by decide) ?_
    obtain ⟨U53, hU53⟩ : ∃ z, z = va_up U52 7 (upd (U52 7) (ix x) 1) := ⟨_, rfl⟩
    refine va_zast hx hb hK hP (aD_D hD (show List.map Prod.fst (moW y am s0 a0 F ++ stW y bs (am 0) U52) = _ from by rw [List.map_append, mo_fst y am _ _ _, st_fst y bs _ _])) hS (9 + 7) 1 (ap_r (wf_len 9 _ _) (wf_at (by decide) rfl)) rfl hx0 dX4_soak_59 (fun H locs hP _ hS => ?_)
    have hP : va_P D vwCl (moW y am s0 a0 F ++ stW y bs (am 0) U53) H := (by rw [hU53]; exact P_eq (ap_set_r (wf_len 9 _ _) (st_set (k := 7) (upd (U52 7) (ix x) 1) (by decide) rfl)) hP)
    refine lv_aload_n hx hb dX4_soak_60 rfl (lv_at hl 0 rfl) ?_
    have hf35 := hts (.fieldLink RX4 35 "CoracleMakersModel$State" "load" "[I") (by decide +kernel)
    refine va_get (D := D) (ci := 4) (v := .ref (bs 6)) (C := RX4) (T := TX4) (N := 13) hx hb hts hin4 hown hK hP (9 + 0) (ap_r (wf_len 9 _ _) (wf_at (by decide) rfl)) rfl 9 (by decide) hf35 (fun _ h9 => h9) rfl dX4_soak_61 ?_
    refine lv_iload_n hx hb dX4_soak_64 rfl (lv_at hl 1 rfl) ?_
    refine lv_iconst (v := 0) hx hb dX4_soak_65 (by decide) ?_
    obtain ⟨U54, hU54⟩ : ∃ z, z = va_up U53 6 (upd (U53 6) (ix x) 0) := ⟨_, rfl⟩
    refine va_iast hx hb hK hP (aD_D hD (show List.map Prod.fst (moW y am s0 a0 F ++ stW y bs (am 0) U53) = _ from by rw [List.map_append, mo_fst y am _ _ _, st_fst y bs _ _])) hS (9 + 6) 0 (ap_r (wf_len 9 _ _) (wf_at (by decide) rfl)) rfl hx0 dX4_soak_66 (fun H locs hP _ hS => ?_)
    have hP : va_P D vwCl (moW y am s0 a0 F ++ stW y bs (am 0) U54) H := (by rw [hU54]; exact P_eq (ap_set_r (wf_len 9 _ _) (st_set (k := 6) (upd (U53 6) (ix x) 0) (by decide) rfl)) hP)
    have e9 : soM F U (ix x) = U54 := by subst hU54 hU53 hU52 ex_161 hU51 ex_160; unfold soM; rw [if_pos (show 2 * F 3 (ix x) ≤ sbM F U (ix x) 5 (ix x) from c_162)]; rfl
    have hP : va_P D vwCl (moW y am s0 a0 F ++ stW y bs (am 0) (soM F U (ix x))) H := (by rw [e9]; exact hP)
    subst hQ
    exact W.vret hx hb hr (fun t ht hW => ⟨⟨(), rfl, trivial, bp_at hK hN hP t ht hW⟩, hS.F ht⟩) hS.2.2 dX4_soak_67
  · have e9 : soM F U (ix x) = U52 := by subst hU52 ex_161 hU51 ex_160; unfold soM; rw [if_neg (show ¬ 2 * F 3 (ix x) ≤ sbM F U (ix x) 5 (ix x) from c_162)]; rfl
    have hP : va_P D vwCl (moW y am s0 a0 F ++ stW y bs (am 0) (soM F U (ix x))) H := (by rw [e9]; exact hP)
    subst hQ
    exact W.vret hx hb hr (fun t ht hW => ⟨⟨(), rfl, trivial, bp_at hK hN hP t ht hW⟩, hS.F ht⟩) hS.2.2 dX4_soak_52
