abbrev rmX5_pass : Room := { frames := 5, cells := 0, slots := 0, locals := 115 }
set_option maxHeartbeats 4000000 in
set_option maxRecDepth 100000 in
/-- pass(h) -/
theorem c_X5_pass (l : Launch) (D : va_G) (y : Nat → ClassId) (sz : Nat) (am bs ba : Nat → Nat) (F U X : Nat → Nat → Int32) (h : Int32) (hO : paC9 h = 0 → ∀ i, i < ix h → okM (th F) (psM (th F) U i)) : MdI (S := Nat → Nat → Int32) l D y yX5_pass wsX5_pass rmX5_pass [.ref (am 0), .int h] (moA y am bs ba F U X) sz (paC9 h) (alM (psM (th F) U (ix h)) - alM U) (fun (u : Nat → Nat → Int32) => moA y am bs ba (th F) (psM (th F) U (ix h)) u) (moA y am bs ba (vU (th F) 0 0 (nI (paC9 h))) U X) := by
  refine mW (fun A => va_Qi (fun r9 (_ : Nat → Nat → Int32) => (paC9 h) = 0 → r9 = (alM (psM (th F) U (ix h)) - alM U)) (fun u9 t9 => ((paC9 h) = 0 → Bp D y ((fun (u : Nat → Nat → Int32) => moA y am bs ba (th F) (psM (th F) U (ix h)) u) u9) t9) ∧ (¬ (paC9 h) = 0 → Bp D y (moA y am bs ba (vU (th F) 0 0 (nI (paC9 h))) U X) t9)) A) (C := RX5) (cc := cX5_pass) (maxL := 3) (ret := (some .int)) (by decide) rfl rfl (Nat.le_of_ble_eq_true rfl) ?_
  intro p e s m a below meth c ls A Q hQ hsz hx hb hr hts hown hlocks hin hml hP hK hN hD hA hS hl
  have hl : lv_has ls 3 [(0, .ref (am 0)), (1, .int h)] := hl
  rw [moA_fst] at hD
  refine lv_aload_n hx hb dX5_pass_0 rfl (lv_at hl 0 rfl) ?_
  refine lv_iconst (v := 0) hx hb dX5_pass_1 (by decide) ?_
  have hin5 : ∀ w ∈ u_ws RX5 TX5 14, w ∈ wsX5_pass := by decide +kernel
  have hf53 := hts (.fieldLink RX5 53 "CoracleMakersModel" "thrown" "I") (by decide +kernel)
  obtain ⟨F114, hF114⟩ : ∃ z, z = va_up F 0 (upd (F 0) 0 0) := ⟨_, rfl⟩
  refine va_put (D := D) (ci := 5) (v := .int 0) (ty := .int) (C := RX5) (T := TX5) (N := 14) hx hb hts hin5 tyX5 tyX5_ok nmX5 hown hK hP (aD_D hD (show List.map Prod.fst (moW y am (bs 0) (ba 0) F ++ (stW y bs (am 0) U ++ stW y ba (am 0) X)) = _ from by rw [List.map_append, List.map_append, mo_fst y am _ _ _, st_fst y bs _ _, st_fst y ba _ _])) hS 0 (ap_l (wf_at (by decide) rfl)) rfl 0 (by decide) hf53 (fun _ h9 => h9) rfl (by decide +kernel) rfl rfl (Nat.le_of_ble_eq_true rfl) dX5_pass_2 (fun H locs hP _ hS => ?_)
  have hP : va_P D vwCl (moW y am (bs 0) (ba 0) F114 ++ (stW y bs (am 0) U ++ stW y ba (am 0) X)) H := (by rw [hF114]; exact P_eq (ap_set_l (show 0 < (wf _ _ _).length by rw [wf_len]; omega) (mo_set (k := 0) (upd (F 0) 0 0) (by decide) rfl)) hP)
  rw [show F114 = th F from hF114] at hP
  clear hF114
  clear F114
  refine lv_iload_n hx hb dX5_pass_5 rfl (lv_at hl 1 rfl) ?_
  refine lv_iconst (v := 1) hx hb dX5_pass_6 (by decide) ?_
  refine lv_bipush (v := 40) hx hb dX5_pass_7 (by decide) ?_
  refine cRI_S (As := [.int h, .int 1, .int 40]) (rest := []) ⟨hx, hb, hml, hown, hts⟩ (c_X5_isIn l D y h 1 40) (va_cwS 3 hts gX5_pass_X5_isIn rfl rfl rfl (by decide +kernel) ⟨Nat.le_of_ble_eq_true rfl, Nat.le_of_ble_eq_true rfl⟩) hK hN (P_nil D vwCl _) rfl hl.1 rfl (Nat.le_of_ble_eq_true rfl) dX5_pass_9 ⟨Nat.le_of_ble_eq_true rfl, Nat.le_of_ble_eq_true rfl⟩ ?_
  refine lv_if_ne (tgt := 21) hx hb dX5_pass_12 (by decide) (fun c_242 => ?_) (fun c_242 => ?_)
  · have hh : vp_in h 41 := ii_in (n := 41) c_242 (by decide) (by decide)
    have eh : h = nI (ix h) := in_nI hh (by decide)
    have hO2 := hO (by unfold paC9; rw [if_neg c_242])
    refine lv_aload_n hx hb dX5_pass_21 rfl (lv_at hl 0 rfl) ?_
    have hf43 := hts (.fieldLink RX5 43 "CoracleMakersModel" "s" "LCoracleMakersModel$State;") (by decide +kernel)
    refine va_get (D := D) (ci := 5) (v := .ref (bs 0)) (C := RX5) (T := TX5) (N := 14) hx hb hts hin5 hown hK hP 0 (ap_l (wf_at (by decide) rfl)) rfl 12 (by decide) hf43 (fun _ h9 => h9) rfl dX5_pass_22 ?_
    have hin4 : ∀ w ∈ u_ws RX4 TX4 13, w ∈ wsX5_pass := by decide +kernel
    have hf116 : (Cond.fieldLinkNest RX5 116 "CoracleMakersModel$State" "caught" "[I" "CoracleMakersModel").before a s = true := va_Nw.use rfl (hN.1 _ (List.mem_of_getElem? (i := 9) rfl))
    refine va_getN (D := D) (ci := 4) (v := .ref (bs 8)) (C := RX4) (T := TX4) (N := 13) hx hb hts hin4 hown hK hP (9 + 0) (ap_r (wf_len 9 _ _) (ap_l (wf_at (by decide) rfl))) rfl 11 (by decide) hf116 (fun _ h9 => h9) rfl dX5_pass_25 ?_
    refine cRI_S (As := [.ref (bs 8)]) (rest := []) ⟨hx, hb, hml, hown, hts⟩ (c_X5_all l D y (bs 8) (U 8)) (va_cwS 1 hts gX5_pass_X5_all rfl rfl rfl (by decide +kernel) ⟨Nat.le_of_ble_eq_true rfl, Nat.le_of_ble_eq_true rfl⟩) hK hN (P_m hP (k := (9 + 8)) (ap_r (wf_len 9 _ _) (ap_l (wf_at (by decide) rfl)))) rfl hl.1 rfl (Nat.le_of_ble_eq_true rfl) dX5_pass_28 ⟨Nat.le_of_ble_eq_true rfl, Nat.le_of_ble_eq_true rfl⟩ ?_
    refine lv_istore_n (lv' := [(2, .int (alM U)), (0, .ref (am 0)), (1, .int h)]) hx hb dX5_pass_31 rfl hl (by decide) rfl (fun ls hl => ?_)
    refine lv_aload_n hx hb dX5_pass_32 rfl (lv_at hl 1 rfl) ?_
    refine va_get (D := D) (ci := 5) (v := .ref (bs 0)) (C := RX5) (T := TX5) (N := 14) hx hb hts hin5 hown hK hP 0 (ap_l (wf_at (by decide) rfl)) rfl 12 (by decide) hf43 (fun _ h9 => h9) rfl dX5_pass_33 ?_
    refine lv_iload_n hx hb dX5_pass_36 rfl (lv_at hl 2 rfl) ?_
    refine W.eq (g2 := F0 m 37 ls (.int (nI (ix h)) :: .ref (bs 0) :: [])) (by rw [← eh]) ?_
    refine cWV_V (As := [.int (nI (ix h))]) (rest := []) ⟨hx, hb, hml, hown, hts⟩ (c_X4_pass_ l D y _ am bs (bs 0) (ba 0) (th F) U (ix h) (by have := in_ix hh; omega) hO2) (cwV 1 hts gX5_pass_X4_pass_ rfl rfl rfl (by decide +kernel) ⟨Nat.le_of_ble_eq_true rfl, Nat.le_of_ble_eq_true rfl⟩) hK hN (P_xw hP) (by rw [mo2_fst]; exact aD_xw hD) hS hA (va_recv hK hP (ci := 4) (q0 := (9 + 0)) rfl (ap_r (wf_len 9 _ _) (ap_l (wf_at (by decide) rfl)))) rfl hl.1 rfl (Nat.le_of_ble_eq_true rfl) dX5_pass_37 ⟨Nat.le_of_ble_eq_true rfl, Nat.le_of_ble_eq_true rfl⟩ (fun H locs hP9 hk9 hS => ?_)
    have hP : va_P D vwCl (moW y am (bs 0) (ba 0) (th F) ++ (stW y bs (am 0) (psM (th F) U (ix h)) ++ stW y ba (am 0) X)) H := fr_xw hP (by rw [mo_fst, st_fst, st_fst]; exact hD) (fun q h1 h2 => hk9 q h1 (by unfold aW; rw [List.map_append]; exact h2)) hP9
    refine lv_aload_n hx hb dX5_pass_40 rfl (lv_at hl 1 rfl) ?_
    refine va_get (D := D) (ci := 5) (v := .ref (bs 0)) (C := RX5) (T := TX5) (N := 14) hx hb hts hin5 hown hK hP 0 (ap_l (wf_at (by decide) rfl)) rfl 12 (by decide) hf43 (fun _ h9 => h9) rfl dX5_pass_41 ?_
    refine va_getN (D := D) (ci := 4) (v := .ref (bs 8)) (C := RX4) (T := TX4) (N := 13) hx hb hts hin4 hown hK hP (9 + 0) (ap_r (wf_len 9 _ _) (ap_l (wf_at (by decide) rfl))) rfl 11 (by decide) hf116 (fun _ h9 => h9) rfl dX5_pass_44 ?_
    refine cRI_S (As := [.ref (bs 8)]) (rest := []) ⟨hx, hb, hml, hown, hts⟩ (c_X5_all l D y (bs 8) ((psM (th F) U (ix h)) 8)) (va_cwS 1 hts gX5_pass_X5_all rfl rfl rfl (by decide +kernel) ⟨Nat.le_of_ble_eq_true rfl, Nat.le_of_ble_eq_true rfl⟩) hK hN (P_m hP (k := (9 + 8)) (ap_r (wf_len 9 _ _) (ap_l (wf_at (by decide) rfl)))) rfl hl.1 rfl (Nat.le_of_ble_eq_true rfl) dX5_pass_47 ⟨Nat.le_of_ble_eq_true rfl, Nat.le_of_ble_eq_true rfl⟩ ?_
    refine lv_iload_n hx hb dX5_pass_50 rfl (lv_at hl 0 rfl) ?_
    refine lv_isub hx hb dX5_pass_51 ?_
    have ecd : paC9 h = 0 := by unfold paC9; rw [if_neg c_242]
    have hP : va_P D vwCl (moA y am bs ba (th F) (psM (th F) U (ix h)) X) H := (by skip; exact hP)
    subst hQ
    exact W.iret (v := (alM (psM (th F) U (ix h))) - (alM U)) hx hb hr (fun t ht hW => ⟨⟨_, X, rfl, fun _ => rfl, fun _ => bp_at hK hN hP t ht hW, fun h9 => absurd ecd h9⟩, hS.F ht⟩) hS.2.2 dX5_pass_52
  · refine lv_aload_n hx hb dX5_pass_15 rfl (lv_at hl 0 rfl) ?_
    refine lv_iconst (v := 1) hx hb dX5_pass_16 (by decide) ?_
    refine cWI_V (As := [.int 1]) (rest := []) ⟨hx, hb, hml, hown, hts⟩ (c_X5_no l D y _ am (bs 0) (ba 0) (th F) 1) (cwV 1 hts gX5_pass_X5_no rfl rfl rfl (by decide +kernel) ⟨Nat.le_of_ble_eq_true rfl, Nat.le_of_ble_eq_true rfl⟩) hK hN (P_l hP) (by rw [mo_fst]; exact aD_l hD) hS hA (va_recv hK hP (ci := 5) (q0 := 0) rfl (ap_l (wf_at (by decide) rfl))) rfl hl.1 rfl (Nat.le_of_ble_eq_true rfl) dX5_pass_17 ⟨Nat.le_of_ble_eq_true rfl, Nat.le_of_ble_eq_true rfl⟩ (fun H locs hP9 hk9 hS => ?_)
    have hP : va_P D vwCl (moW y am (bs 0) (ba 0) (vU (th F) 0 0 1) ++ (stW y bs (am 0) U ++ stW y ba (am 0) X)) H := fr_l hP (by rw [mo_fst, st2_fst]; exact hD) hk9 hP9
    have ecd : paC9 h = 1 := by unfold paC9; rw [if_pos c_242]
    have ne9 : ¬ paC9 h = 0 := by rw [ecd]; decide
    have hP : va_P D vwCl (moW y am (bs 0) (ba 0) (vU (th F) 0 0 (nI (paC9 h))) ++ (stW y bs (am 0) U ++ stW y ba (am 0) X)) H := by rw [ecd, nI_l1]; exact hP
    subst hQ
    exact W.iret (v := 0) hx hb hr (fun t ht hW => ⟨⟨_, F, rfl, fun h9 => absurd h9 ne9, fun h9 => absurd h9 ne9, fun _ => bp_at hK hN hP t ht hW⟩, hS.F ht⟩) hS.2.2 dX5_pass_20
abbrev rmX5_meets : Room := { frames := 4, cells := 0, slots := 0, locals := 93 }
set_option maxHeartbeats 4000000 in
set_option maxRecDepth 100000 in
/-- meets(x) -/
theorem c_X5_meets (l : Launch) (D : va_G) (y : Nat → ClassId) (sz : Nat) (am bs ba : Nat → Nat) (F U X : Nat → Nat → Int32) (x : Int32) (hO : ∀ i, i < 91 → okM (th F) (psM (th F) U i)) (hB9 : ∀ i, i < 6 → isB (U 7 i)) : MdI (S := Nat → Nat → Int32) l D y yX5_meets wsX5_meets rmX5_meets [.ref (am 0), .int x] (moA y am bs ba F U X) sz (meM (th F) x) (fiN (mtP9 (th F) U (ix x)) 0 91) (fun (u : Nat → Nat → Int32) => moA y am bs ba (th F) U u) (moA y am bs ba (vU (th F) 0 0 (nI (meM (th F) x))) U X) := by
  refine mW (fun A => va_Qi (fun r9 (_ : Nat → Nat → Int32) => (meM (th F) x) = 0 → r9 = (fiN (mtP9 (th F) U (ix x)) 0 91)) (fun u9 t9 => ((meM (th F) x) = 0 → Bp D y ((fun (u : Nat → Nat → Int32) => moA y am bs ba (th F) U u) u9) t9) ∧ (¬ (meM (th F) x) = 0 → Bp D y (moA y am bs ba (vU (th F) 0 0 (nI (meM (th F) x))) U X) t9)) A) (C := RX5) (cc := cX5_meets) (maxL := 3) (ret := (some .int)) (by decide) rfl rfl (Nat.le_of_ble_eq_true rfl) ?_
  intro p e s m a below meth c ls A Q hQ hsz hx hb hr hts hown hlocks hin hml hP hK hN hD hA hS hl
  have hl : lv_has ls 3 [(0, .ref (am 0)), (1, .int x)] := hl
  obtain ⟨hC, hT, hF, -, -⟩ := hO 0 (by decide)
  rw [moA_fst] at hD
  refine lv_aload_n hx hb dX5_meets_0 rfl (lv_at hl 0 rfl) ?_
  refine lv_iconst (v := 0) hx hb dX5_meets_1 (by decide) ?_
  have hin5 : ∀ w ∈ u_ws RX5 TX5 14, w ∈ wsX5_meets := by decide +kernel
  have hf53 := hts (.fieldLink RX5 53 "CoracleMakersModel" "thrown" "I") (by decide +kernel)
  obtain ⟨F115, hF115⟩ : ∃ z, z = va_up F 0 (upd (F 0) 0 0) := ⟨_, rfl⟩
  refine va_put (D := D) (ci := 5) (v := .int 0) (ty := .int) (C := RX5) (T := TX5) (N := 14) hx hb hts hin5 tyX5 tyX5_ok nmX5 hown hK hP (aD_D hD (show List.map Prod.fst (moW y am (bs 0) (ba 0) F ++ (stW y bs (am 0) U ++ stW y ba (am 0) X)) = _ from by rw [List.map_append, List.map_append, mo_fst y am _ _ _, st_fst y bs _ _, st_fst y ba _ _])) hS 0 (ap_l (wf_at (by decide) rfl)) rfl 0 (by decide) hf53 (fun _ h9 => h9) rfl (by decide +kernel) rfl rfl (Nat.le_of_ble_eq_true rfl) dX5_meets_2 (fun H locs hP _ hS => ?_)
  have hP : va_P D vwCl (moW y am (bs 0) (ba 0) F115 ++ (stW y bs (am 0) U ++ stW y ba (am 0) X)) H := (by rw [hF115]; exact P_eq (ap_set_l (show 0 < (wf _ _ _).length by rw [wf_len]; omega) (mo_set (k := 0) (upd (F 0) 0 0) (by decide) rfl)) hP)
  rw [show F115 = th F from hF115] at hP
  clear hF115
  clear F115
  refine lv_aload_n hx hb dX5_meets_5 rfl (lv_at hl 0 rfl) ?_
  refine lv_iload_n hx hb dX5_meets_6 rfl (lv_at hl 1 rfl) ?_
  refine cRI_V (As := [.int x]) (rest := []) ⟨hx, hb, hml, hown, hts⟩ (c_X5_isNet l D y am (bs 0) (ba 0) (th F) x) (cwV 1 hts gX5_meets_X5_isNet rfl rfl rfl (by decide +kernel) ⟨Nat.le_of_ble_eq_true rfl, Nat.le_of_ble_eq_true rfl⟩) hK hN (P_l hP) (va_recv hK hP (ci := 5) (q0 := 0) rfl (ap_l (wf_at (by decide) rfl))) rfl hl.1 rfl (Nat.le_of_ble_eq_true rfl) dX5_meets_7 ⟨Nat.le_of_ble_eq_true rfl, Nat.le_of_ble_eq_true rfl⟩ ?_
  refine lv_if_ne (tgt := 19) hx hb dX5_meets_10 (by decide) (fun c_243 => ?_) (fun c_243 => ?_)
  · have hx3 : vp_in x 3 := (ic_in (n := 3) c_243 hT (by decide))
    refine lv_aload_n hx hb dX5_meets_19 rfl (lv_at hl 0 rfl) ?_
    have hf47 := hts (.fieldLink RX5 47 "CoracleMakersModel" "ahead" "LCoracleMakersModel$State;") (by decide +kernel)
    refine va_get (D := D) (ci := 5) (v := .ref (ba 0)) (C := RX5) (T := TX5) (N := 14) hx hb hts hin5 hown hK hP 0 (ap_l (wf_at (by decide) rfl)) rfl 13 (by decide) hf47 (fun _ h9 => h9) rfl dX5_meets_20 ?_
    refine lv_aload_n hx hb dX5_meets_23 rfl (lv_at hl 0 rfl) ?_
    have hf43 := hts (.fieldLink RX5 43 "CoracleMakersModel" "s" "LCoracleMakersModel$State;") (by decide +kernel)
    refine va_get (D := D) (ci := 5) (v := .ref (bs 0)) (C := RX5) (T := TX5) (N := 14) hx hb hts hin5 hown hK hP 0 (ap_l (wf_at (by decide) rfl)) rfl 12 (by decide) hf43 (fun _ h9 => h9) rfl dX5_meets_24 ?_
    refine cWV_V (As := [.ref (bs 0)]) (rest := []) ⟨hx, hb, hml, hown, hts⟩ (c_X4_become l D y _ bs ba (am 0) (am 0) U X hB9) (cwV 1 hts gX5_meets_X4_become rfl rfl rfl (by decide +kernel) ⟨Nat.le_of_ble_eq_true rfl, Nat.le_of_ble_eq_true rfl⟩) hK hN (P_r hP) (by rw [st2_fst]; exact aD_r hD) hS hA (va_recv hK hP (ci := 4) (q0 := (9 + (9 + 0))) rfl (ap_r (wf_len 9 _ _) (ap_r (wf_len 9 _ _) (wf_at (by decide) rfl)))) rfl hl.1 rfl (Nat.le_of_ble_eq_true rfl) dX5_meets_27 ⟨Nat.le_of_ble_eq_true rfl, Nat.le_of_ble_eq_true rfl⟩ (fun H locs hP9 hk9 hS => ?_)
    have hP : va_P D vwCl (moW y am (bs 0) (ba 0) (th F) ++ (stW y bs (am 0) U ++ stW y ba (am 0) U)) H := fr_r hP (by rw [mo_fst, st2_fst]; exact hD) hk9 hP9
    refine lv_iconst (v := 0) hx hb dX5_meets_30 (by decide) ?_
    refine lv_istore_n (lv' := [(2, .int 0), (0, .ref (am 0)), (1, .int x)]) hx hb dX5_meets_31 rfl hl (by decide) rfl (fun ls hl => ?_)
    have hl : lv_has ls 3 [(2, .int (nI 0)), (0, .ref (am 0)), (1, .int x)] := hl
    have lk9 : ∀ (n i : Nat) (H : Heap) (locs : List Loc) (ls : Array Slot), n + i = 91 → fiN (mtP9 (th F) U (ix x)) 0 91 = fiN (mtP9 (th F) U (ix x)) i n → va_P D vwCl (moW y am (bs 0) (ba 0) (th F) ++ (stW y bs (am 0) U ++ stW y ba (am 0) (psM (th F) U i))) H → va_S A s.heap H locs → lv_has ls 3 [(0, .ref (am 0)), (1, .int x), (2, .int (nI i))] → W p l e rmX5_meets s m a below meth c H locs 0 0 Q (F0 m 32 ls []) := by
      intro n
      induction n with
      | zero =>
        intro i H locs ls hni hF9 hP hS hl
        have e9 : 91 = i := by omega
        subst e9
        refine lv_iload_n hx hb dX5_meets_32 rfl (lv_at hl 2 rfl) ?_
        refine lv_bipush (v := 90) hx hb dX5_meets_33 (by decide) ?_
        refine lv_icmp_gt (tgt := 64) hx hb dX5_meets_35 (by decide) (fun _ => ?_) (fun c9 => absurd (show (90 : Int32) < nI 91 by decide) c9)
        refine lv_iconst (v := (-1)) hx hb dX5_meets_64 (by decide) ?_
        have ecd : meM (th F) x = 0 := by unfold meM; rw [if_neg c_243]
        have hP : va_P D vwCl (moA y am bs ba (th F) U (psM (th F) U 91)) H := (by skip; exact hP)
        subst hQ
        exact W.iret (v := (-1)) hx hb hr (fun t ht hW => ⟨⟨_, (psM (th F) U 91), rfl, fun _ => hF9.symm, fun _ => bp_at hK hN hP t ht hW, fun h9 => absurd ecd h9⟩, hS.F ht⟩) hS.2.2 dX5_meets_65
      | succ n ih =>
        intro i H locs ls hni hF9 hP hS hl
        have hi9 : i < 91 := by omega
        refine lv_iload_n hx hb dX5_meets_32 rfl (lv_at hl 2 rfl) ?_
        refine lv_bipush (v := 90) hx hb dX5_meets_33 (by decide) ?_
        refine lv_icmp_gt (tgt := 64) hx hb dX5_meets_35 (by decide) (fun c9 => absurd c9 (nI_nlt (a := 90) (b := i) (by omega) (by decide))) (fun _ => ?_)
        refine lv_aload_n hx hb dX5_meets_38 rfl (lv_at hl 0 rfl) ?_
        refine va_get (D := D) (ci := 5) (v := .ref (ba 0)) (C := RX5) (T := TX5) (N := 14) hx hb hts hin5 hown hK hP 0 (ap_l (wf_at (by decide) rfl)) rfl 13 (by decide) hf47 (fun _ h9 => h9) rfl dX5_meets_39 ?_
        refine lv_iload_n hx hb dX5_meets_42 rfl (lv_at hl 1 rfl) ?_
        refine cRI_V (As := [.int x]) (rest := []) ⟨hx, hb, hml, hown, hts⟩ (c_X4_meets l D y am ba (bs 0) (ba 0) (th F) (psM (th F) U i) x hx3 hF) (cwV 1 hts gX5_meets_X4_meets rfl rfl rfl (by decide +kernel) ⟨Nat.le_of_ble_eq_true rfl, Nat.le_of_ble_eq_true rfl⟩) hK hN (P_xz hP) (va_recv hK hP (ci := 4) (q0 := (9 + (9 + 0))) rfl (ap_r (wf_len 9 _ _) (ap_r (wf_len 9 _ _) (wf_at (by decide) rfl)))) rfl hl.1 rfl (Nat.le_of_ble_eq_true rfl) dX5_meets_43 ⟨Nat.le_of_ble_eq_true rfl, Nat.le_of_ble_eq_true rfl⟩ ?_
        refine lv_if_eq (tgt := 51) hx hb dX5_meets_46 (by decide) (fun c_244 => ?_) (fun c_244 => ?_)
        · refine lv_aload_n hx hb dX5_meets_51 rfl (lv_at hl 0 rfl) ?_
          refine va_get (D := D) (ci := 5) (v := .ref (ba 0)) (C := RX5) (T := TX5) (N := 14) hx hb hts hin5 hown hK hP 0 (ap_l (wf_at (by decide) rfl)) rfl 13 (by decide) hf47 (fun _ h9 => h9) rfl dX5_meets_52 ?_
          refine cWV_V (As := []) (rest := []) ⟨hx, hb, hml, hown, hts⟩ (c_X4_pass l D y _ am ba (bs 0) (ba 0) (th F) (psM (th F) U i) (hO i hi9)) (cwV 0 hts gX5_meets_X4_pass rfl rfl rfl (by decide +kernel) ⟨Nat.le_of_ble_eq_true rfl, Nat.le_of_ble_eq_true rfl⟩) hK hN (P_xz hP) (by rw [mo2_fst]; exact aD_swap hD) hS hA (va_recv hK hP (ci := 4) (q0 := (9 + (9 + 0))) rfl (ap_r (wf_len 9 _ _) (ap_r (wf_len 9 _ _) (wf_at (by decide) rfl)))) rfl hl.1 rfl (Nat.le_of_ble_eq_true rfl) dX5_meets_55 ⟨Nat.le_of_ble_eq_true rfl, Nat.le_of_ble_eq_true rfl⟩ (fun H locs hP9 hk9 hS => ?_)
          have hP : va_P D vwCl (moW y am (bs 0) (ba 0) (th F) ++ (stW y bs (am 0) U ++ stW y ba (am 0) (psM (th F) U (i + 1)))) H := fr_xz hP (by rw [mo_fst, st_fst, st_fst]; exact hD) (fun q h1 h2 => hk9 q h1 (by unfold aW; rw [List.map_append]; exact h2)) hP9
          refine lv_iinc (v := nI (i + 1)) (lv' := [(2, .int (nI (i + 1))), (0, .ref (am 0)), (1, .int x)]) hx hb dX5_meets_58 hl (k := 2) rfl (by first | rfl | exact (nI_1 i)) (by decide) rfl (fun ls hl => ?_)
          refine lv_goto (tgt := 32) hx hb dX5_meets_61 (by decide) ?_
          exact ih (i + 1) _ _ _ (by omega) (hF9.trans (fiN_n (p := mtP9 (th F) U (ix x)) c_244)) hP hS (lv_sub hl [1, 2, 0] rfl)
        · refine lv_iload_n hx hb dX5_meets_49 rfl (lv_at hl 2 rfl) ?_
          have ecd : meM (th F) x = 0 := by unfold meM; rw [if_neg c_243]
          have hP : va_P D vwCl (moA y am bs ba (th F) U (psM (th F) U i)) H := (by skip; exact hP)
          subst hQ
          exact W.iret (v := nI i) hx hb hr (fun t ht hW => ⟨⟨_, (psM (th F) U i), rfl, fun _ => (hF9.trans (fiN_y (p := mtP9 (th F) U (ix x)) c_244)).symm, fun _ => bp_at hK hN hP t ht hW, fun h9 => absurd ecd h9⟩, hS.F ht⟩) hS.2.2 dX5_meets_50
    exact lk9 91 0 _ _ ls rfl rfl hP hS (lv_sub hl [1, 2, 0] rfl)
  · refine lv_aload_n hx hb dX5_meets_13 rfl (lv_at hl 0 rfl) ?_
    refine lv_iconst (v := 1) hx hb dX5_meets_14 (by decide) ?_
    refine cWI_V (As := [.int 1]) (rest := []) ⟨hx, hb, hml, hown, hts⟩ (c_X5_no l D y _ am (bs 0) (ba 0) (th F) 1) (cwV 1 hts gX5_meets_X5_no rfl rfl rfl (by decide +kernel) ⟨Nat.le_of_ble_eq_true rfl, Nat.le_of_ble_eq_true rfl⟩) hK hN (P_l hP) (by rw [mo_fst]; exact aD_l hD) hS hA (va_recv hK hP (ci := 5) (q0 := 0) rfl (ap_l (wf_at (by decide) rfl))) rfl hl.1 rfl (Nat.le_of_ble_eq_true rfl) dX5_meets_15 ⟨Nat.le_of_ble_eq_true rfl, Nat.le_of_ble_eq_true rfl⟩ (fun H locs hP9 hk9 hS => ?_)
    have hP : va_P D vwCl (moW y am (bs 0) (ba 0) (vU (th F) 0 0 1) ++ (stW y bs (am 0) U ++ stW y ba (am 0) X)) H := fr_l hP (by rw [mo_fst, st2_fst]; exact hD) hk9 hP9
    have ecd : meM (th F) x = 1 := by unfold meM; rw [if_pos c_243]
    have ne9 : ¬ meM (th F) x = 0 := by rw [ecd]; decide
    have hP : va_P D vwCl (moW y am (bs 0) (ba 0) (vU (th F) 0 0 (nI (meM (th F) x))) ++ (stW y bs (am 0) U ++ stW y ba (am 0) X)) H := by rw [ecd, nI_l1]; exact hP
    subst hQ
    exact W.iret (v := 0) hx hb hr (fun t ht hW => ⟨⟨_, F, rfl, fun h9 => absurd h9 ne9, fun h9 => absurd h9 ne9, fun _ => bp_at hK hN hP t ht hW⟩, hS.F ht⟩) hS.2.2 dX5_meets_18
abbrev rmX5_sinks : Room := { frames := 4, cells := 0, slots := 0, locals := 93 }
set_option maxHeartbeats 4000000 in
set_option maxRecDepth 100000 in
/-- sinks(x) -/
theorem c_X5_sinks (l : Launch) (D : va_G) (y : Nat → ClassId) (sz : Nat) (am bs ba : Nat → Nat) (F U X : Nat → Nat → Int32) (x : Int32) (hO : ∀ i, i < 91 → okM (th F) (psM (th F) U i)) (hB9 : ∀ i, i < 6 → isB (U 7 i)) : MdI (S := Nat → Nat → Int32) l D y yX5_sinks wsX5_sinks rmX5_sinks [.ref (am 0), .int x] (moA y am bs ba F U X) sz (siM (th F) x) (fiN (siP9 (th F) U (ix x)) 0 91) (fun (u : Nat → Nat → Int32) => moA y am bs ba (th F) U u) (moA y am bs ba (vU (th F) 0 0 (nI (siM (th F) x))) U X) := by
  refine mW (fun A => va_Qi (fun r9 (_ : Nat → Nat → Int32) => (siM (th F) x) = 0 → r9 = (fiN (siP9 (th F) U (ix x)) 0 91)) (fun u9 t9 => ((siM (th F) x) = 0 → Bp D y ((fun (u : Nat → Nat → Int32) => moA y am bs ba (th F) U u) u9) t9) ∧ (¬ (siM (th F) x) = 0 → Bp D y (moA y am bs ba (vU (th F) 0 0 (nI (siM (th F) x))) U X) t9)) A) (C := RX5) (cc := cX5_sinks) (maxL := 3) (ret := (some .int)) (by decide) rfl rfl (Nat.le_of_ble_eq_true rfl) ?_
  intro p e s m a below meth c ls A Q hQ hsz hx hb hr hts hown hlocks hin hml hP hK hN hD hA hS hl
  have hl : lv_has ls 3 [(0, .ref (am 0)), (1, .int x)] := hl
  obtain ⟨hC, hT, hF, -, -⟩ := hO 0 (by decide)
  rw [moA_fst] at hD
  refine lv_aload_n hx hb dX5_sinks_0 rfl (lv_at hl 0 rfl) ?_
  refine lv_iconst (v := 0) hx hb dX5_sinks_1 (by decide) ?_
  have hin5 : ∀ w ∈ u_ws RX5 TX5 14, w ∈ wsX5_sinks := by decide +kernel
  have hf53 := hts (.fieldLink RX5 53 "CoracleMakersModel" "thrown" "I") (by decide +kernel)
  obtain ⟨F116, hF116⟩ : ∃ z, z = va_up F 0 (upd (F 0) 0 0) := ⟨_, rfl⟩
  refine va_put (D := D) (ci := 5) (v := .int 0) (ty := .int) (C := RX5) (T := TX5) (N := 14) hx hb hts hin5 tyX5 tyX5_ok nmX5 hown hK hP (aD_D hD (show List.map Prod.fst (moW y am (bs 0) (ba 0) F ++ (stW y bs (am 0) U ++ stW y ba (am 0) X)) = _ from by rw [List.map_append, List.map_append, mo_fst y am _ _ _, st_fst y bs _ _, st_fst y ba _ _])) hS 0 (ap_l (wf_at (by decide) rfl)) rfl 0 (by decide) hf53 (fun _ h9 => h9) rfl (by decide +kernel) rfl rfl (Nat.le_of_ble_eq_true rfl) dX5_sinks_2 (fun H locs hP _ hS => ?_)
  have hP : va_P D vwCl (moW y am (bs 0) (ba 0) F116 ++ (stW y bs (am 0) U ++ stW y ba (am 0) X)) H := (by rw [hF116]; exact P_eq (ap_set_l (show 0 < (wf _ _ _).length by rw [wf_len]; omega) (mo_set (k := 0) (upd (F 0) 0 0) (by decide) rfl)) hP)
  rw [show F116 = th F from hF116] at hP
  clear hF116
  clear F116
  refine lv_aload_n hx hb dX5_sinks_5 rfl (lv_at hl 0 rfl) ?_
  refine lv_iload_n hx hb dX5_sinks_6 rfl (lv_at hl 1 rfl) ?_
  refine cRI_V (As := [.int x]) (rest := []) ⟨hx, hb, hml, hown, hts⟩ (c_X5_isCoracle l D y am (bs 0) (ba 0) (th F) x) (cwV 1 hts gX5_sinks_X5_isCoracle rfl rfl rfl (by decide +kernel) ⟨Nat.le_of_ble_eq_true rfl, Nat.le_of_ble_eq_true rfl⟩) hK hN (P_l hP) (va_recv hK hP (ci := 5) (q0 := 0) rfl (ap_l (wf_at (by decide) rfl))) rfl hl.1 rfl (Nat.le_of_ble_eq_true rfl) dX5_sinks_7 ⟨Nat.le_of_ble_eq_true rfl, Nat.le_of_ble_eq_true rfl⟩ ?_
  refine lv_if_ne (tgt := 19) hx hb dX5_sinks_10 (by decide) (fun c_245 => ?_) (fun c_245 => ?_)
  · have hx6 : vp_in x 6 := (ic_in (n := 6) c_245 hC (by decide))
    refine lv_aload_n hx hb dX5_sinks_19 rfl (lv_at hl 0 rfl) ?_
    have hf47 := hts (.fieldLink RX5 47 "CoracleMakersModel" "ahead" "LCoracleMakersModel$State;") (by decide +kernel)
    refine va_get (D := D) (ci := 5) (v := .ref (ba 0)) (C := RX5) (T := TX5) (N := 14) hx hb hts hin5 hown hK hP 0 (ap_l (wf_at (by decide) rfl)) rfl 13 (by decide) hf47 (fun _ h9 => h9) rfl dX5_sinks_20 ?_
    refine lv_aload_n hx hb dX5_sinks_23 rfl (lv_at hl 0 rfl) ?_
    have hf43 := hts (.fieldLink RX5 43 "CoracleMakersModel" "s" "LCoracleMakersModel$State;") (by decide +kernel)
    refine va_get (D := D) (ci := 5) (v := .ref (bs 0)) (C := RX5) (T := TX5) (N := 14) hx hb hts hin5 hown hK hP 0 (ap_l (wf_at (by decide) rfl)) rfl 12 (by decide) hf43 (fun _ h9 => h9) rfl dX5_sinks_24 ?_
    refine cWV_V (As := [.ref (bs 0)]) (rest := []) ⟨hx, hb, hml, hown, hts⟩ (c_X4_become l D y _ bs ba (am 0) (am 0) U X hB9) (cwV 1 hts gX5_sinks_X4_become rfl rfl rfl (by decide +kernel) ⟨Nat.le_of_ble_eq_true rfl, Nat.le_of_ble_eq_true rfl⟩) hK hN (P_r hP) (by rw [st2_fst]; exact aD_r hD) hS hA (va_recv hK hP (ci := 4) (q0 := (9 + (9 + 0))) rfl (ap_r (wf_len 9 _ _) (ap_r (wf_len 9 _ _) (wf_at (by decide) rfl)))) rfl hl.1 rfl (Nat.le_of_ble_eq_true rfl) dX5_sinks_27 ⟨Nat.le_of_ble_eq_true rfl, Nat.le_of_ble_eq_true rfl⟩ (fun H locs hP9 hk9 hS => ?_)
    have hP : va_P D vwCl (moW y am (bs 0) (ba 0) (th F) ++ (stW y bs (am 0) U ++ stW y ba (am 0) U)) H := fr_r hP (by rw [mo_fst, st2_fst]; exact hD) hk9 hP9
    refine lv_iconst (v := 0) hx hb dX5_sinks_30 (by decide) ?_
    refine lv_istore_n (lv' := [(2, .int 0), (0, .ref (am 0)), (1, .int x)]) hx hb dX5_sinks_31 rfl hl (by decide) rfl (fun ls hl => ?_)
    have hl : lv_has ls 3 [(2, .int (nI 0)), (0, .ref (am 0)), (1, .int x)] := hl
    have lk9 : ∀ (n i : Nat) (H : Heap) (locs : List Loc) (ls : Array Slot), n + i = 91 → fiN (siP9 (th F) U (ix x)) 0 91 = fiN (siP9 (th F) U (ix x)) i n → va_P D vwCl (moW y am (bs 0) (ba 0) (th F) ++ (stW y bs (am 0) U ++ stW y ba (am 0) (psM (th F) U i))) H → va_S A s.heap H locs → lv_has ls 3 [(0, .ref (am 0)), (1, .int x), (2, .int (nI i))] → W p l e rmX5_sinks s m a below meth c H locs 0 0 Q (F0 m 32 ls []) := by
      intro n
      induction n with
      | zero =>
        intro i H locs ls hni hF9 hP hS hl
        have e9 : 91 = i := by omega
        subst e9
        refine lv_iload_n hx hb dX5_sinks_32 rfl (lv_at hl 2 rfl) ?_
        refine lv_bipush (v := 90) hx hb dX5_sinks_33 (by decide) ?_
        refine lv_icmp_gt (tgt := 65) hx hb dX5_sinks_35 (by decide) (fun _ => ?_) (fun c9 => absurd (show (90 : Int32) < nI 91 by decide) c9)
        refine lv_iconst (v := (-1)) hx hb dX5_sinks_65 (by decide) ?_
        have ecd : siM (th F) x = 0 := by unfold siM; rw [if_neg c_245]
        have hP : va_P D vwCl (moA y am bs ba (th F) U (psM (th F) U 91)) H := (by skip; exact hP)
        subst hQ
        exact W.iret (v := (-1)) hx hb hr (fun t ht hW => ⟨⟨_, (psM (th F) U 91), rfl, fun _ => hF9.symm, fun _ => bp_at hK hN hP t ht hW, fun h9 => absurd ecd h9⟩, hS.F ht⟩) hS.2.2 dX5_sinks_66
      | succ n ih =>
        intro i H locs ls hni hF9 hP hS hl
        have hi9 : i < 91 := by omega
        refine lv_iload_n hx hb dX5_sinks_32 rfl (lv_at hl 2 rfl) ?_
        refine lv_bipush (v := 90) hx hb dX5_sinks_33 (by decide) ?_
        refine lv_icmp_gt (tgt := 65) hx hb dX5_sinks_35 (by decide) (fun c9 => absurd c9 (nI_nlt (a := 90) (b := i) (by omega) (by decide))) (fun _ => ?_)
        refine lv_aload_n hx hb dX5_sinks_38 rfl (lv_at hl 0 rfl) ?_
        refine va_get (D := D) (ci := 5) (v := .ref (ba 0)) (C := RX5) (T := TX5) (N := 14) hx hb hts hin5 hown hK hP 0 (ap_l (wf_at (by decide) rfl)) rfl 13 (by decide) hf47 (fun _ h9 => h9) rfl dX5_sinks_39 ?_
        have hin4 : ∀ w ∈ u_ws RX4 TX4 13, w ∈ wsX5_sinks := by decide +kernel
        have hf90 : (Cond.fieldLinkNest RX5 90 "CoracleMakersModel$State" "hasSunk" "[Z" "CoracleMakersModel").before a s = true := va_Nw.use rfl (hN.1 _ (List.mem_of_getElem? (i := 8) rfl))
        refine va_getN (D := D) (ci := 4) (v := .ref (ba 7)) (C := RX4) (T := TX4) (N := 13) hx hb hts hin4 hown hK hP (9 + (9 + 0)) (ap_r (wf_len 9 _ _) (ap_r (wf_len 9 _ _) (wf_at (by decide) rfl))) rfl 10 (by decide) hf90 (fun _ h9 => h9) rfl dX5_sinks_42 ?_
        refine lv_iload_n hx hb dX5_sinks_45 rfl (lv_at hl 1 rfl) ?_
        refine va_zald hx hb hK hP (9 + (9 + 7)) 1 (ap_r (wf_len 9 _ _) (ap_r (wf_len 9 _ _) (wf_at (by decide) rfl))) rfl hx6 dX5_sinks_46 ?_
        refine lv_if_eq (tgt := 52) hx hb dX5_sinks_47 (by decide) (fun c_246 => ?_) (fun c_246 => ?_)
        · refine lv_aload_n hx hb dX5_sinks_52 rfl (lv_at hl 0 rfl) ?_
          refine va_get (D := D) (ci := 5) (v := .ref (ba 0)) (C := RX5) (T := TX5) (N := 14) hx hb hts hin5 hown hK hP 0 (ap_l (wf_at (by decide) rfl)) rfl 13 (by decide) hf47 (fun _ h9 => h9) rfl dX5_sinks_53 ?_
          refine cWV_V (As := []) (rest := []) ⟨hx, hb, hml, hown, hts⟩ (c_X4_pass l D y _ am ba (bs 0) (ba 0) (th F) (psM (th F) U i) (hO i hi9)) (cwV 0 hts gX5_sinks_X4_pass rfl rfl rfl (by decide +kernel) ⟨Nat.le_of_ble_eq_true rfl, Nat.le_of_ble_eq_true rfl⟩) hK hN (P_xz hP) (by rw [mo2_fst]; exact aD_swap hD) hS hA (va_recv hK hP (ci := 4) (q0 := (9 + (9 + 0))) rfl (ap_r (wf_len 9 _ _) (ap_r (wf_len 9 _ _) (wf_at (by decide) rfl)))) rfl hl.1 rfl (Nat.le_of_ble_eq_true rfl) dX5_sinks_56 ⟨Nat.le_of_ble_eq_true rfl, Nat.le_of_ble_eq_true rfl⟩ (fun H locs hP9 hk9 hS => ?_)
          have hP : va_P D vwCl (moW y am (bs 0) (ba 0) (th F) ++ (stW y bs (am 0) U ++ stW y ba (am 0) (psM (th F) U (i + 1)))) H := fr_xz hP (by rw [mo_fst, st_fst, st_fst]; exact hD) (fun q h1 h2 => hk9 q h1 (by unfold aW; rw [List.map_append]; exact h2)) hP9
          refine lv_iinc (v := nI (i + 1)) (lv' := [(2, .int (nI (i + 1))), (0, .ref (am 0)), (1, .int x)]) hx hb dX5_sinks_59 hl (k := 2) rfl (by first | rfl | exact (nI_1 i)) (by decide) rfl (fun ls hl => ?_)
          refine lv_goto (tgt := 32) hx hb dX5_sinks_62 (by decide) ?_
          exact ih (i + 1) _ _ _ (by omega) (hF9.trans (fiN_n (p := siP9 (th F) U (ix x)) c_246)) hP hS (lv_sub hl [1, 2, 0] rfl)
        · refine lv_iload_n hx hb dX5_sinks_50 rfl (lv_at hl 2 rfl) ?_
          have ecd : siM (th F) x = 0 := by unfold siM; rw [if_neg c_245]
          have hP : va_P D vwCl (moA y am bs ba (th F) U (psM (th F) U i)) H := (by skip; exact hP)
          subst hQ
          exact W.iret (v := nI i) hx hb hr (fun t ht hW => ⟨⟨_, (psM (th F) U i), rfl, fun _ => (hF9.trans (fiN_y (p := siP9 (th F) U (ix x)) c_246)).symm, fun _ => bp_at hK hN hP t ht hW, fun h9 => absurd ecd h9⟩, hS.F ht⟩) hS.2.2 dX5_sinks_51
    exact lk9 91 0 _ _ ls rfl rfl hP hS (lv_sub hl [1, 2, 0] rfl)
  · refine lv_aload_n hx hb dX5_sinks_13 rfl (lv_at hl 0 rfl) ?_
    refine lv_iconst (v := 1) hx hb dX5_sinks_14 (by decide) ?_
    refine cWI_V (As := [.int 1]) (rest := []) ⟨hx, hb, hml, hown, hts⟩ (c_X5_no l D y _ am (bs 0) (ba 0) (th F) 1) (cwV 1 hts gX5_sinks_X5_no rfl rfl rfl (by decide +kernel) ⟨Nat.le_of_ble_eq_true rfl, Nat.le_of_ble_eq_true rfl⟩) hK hN (P_l hP) (by rw [mo_fst]; exact aD_l hD) hS hA (va_recv hK hP (ci := 5) (q0 := 0) rfl (ap_l (wf_at (by decide) rfl))) rfl hl.1 rfl (Nat.le_of_ble_eq_true rfl) dX5_sinks_15 ⟨Nat.le_of_ble_eq_true rfl, Nat.le_of_ble_eq_true rfl⟩ (fun H locs hP9 hk9 hS => ?_)
    have hP : va_P D vwCl (moW y am (bs 0) (ba 0) (vU (th F) 0 0 1) ++ (stW y bs (am 0) U ++ stW y ba (am 0) X)) H := fr_l hP (by rw [mo_fst, st2_fst]; exact hD) hk9 hP9
    have ecd : siM (th F) x = 1 := by unfold siM; rw [if_pos c_245]
    have ne9 : ¬ siM (th F) x = 0 := by rw [ecd]; decide
    have hP : va_P D vwCl (moW y am (bs 0) (ba 0) (vU (th F) 0 0 (nI (siM (th F) x))) ++ (stW y bs (am 0) U ++ stW y ba (am 0) X)) H := by rw [ecd, nI_l1]; exact hP
    subst hQ
    exact W.iret (v := 0) hx hb hr (fun t ht hW => ⟨⟨_, F, rfl, fun h9 => absurd h9 ne9, fun h9 => absurd h9 ne9, fun _ => bp_at hK hN hP t ht hW⟩, hS.F ht⟩) hS.2.2 dX5_sinks_18
abbrev rmX5_foresee : Room := { frames := 5, cells := 0, slots := 0, locals := 115 }
set_option maxHeartbeats 4000000 in
set_option maxRecDepth 100000 in
/-- foresee(h, x) -/
theorem c_X5_foresee (l : Launch) (D : va_G) (y : Nat → ClassId) (sz : Nat) (am bs ba : Nat → Nat) (F U X : Nat → Nat → Int32) (h x : Int32) (hC : vp_in (th F 0 1) 7) (hB9 : ∀ i, i < 6 → isB (U 7 i)) (hO : foM h x = 0 → ∀ i, i < ix h → okM (th F) (psM (th F) U i)) : MdI (S := Nat → Nat → Int32) l D y yX5_foresee wsX5_foresee rmX5_foresee [.ref (am 0), .int h, .int x] (moA y am bs ba F U X) sz (foM h x) (cuM (th F) (psM (th F) U (ix h)) x) (fun (u : Nat → Nat → Int32) => moA y am bs ba (th F) U u) (moA y am bs ba (vU (th F) 0 0 (nI (foM h x))) U X) := by
  refine mW (fun A => va_Qi (fun r9 (_ : Nat → Nat → Int32) => (foM h x) = 0 → r9 = (cuM (th F) (psM (th F) U (ix h)) x)) (fun u9 t9 => ((foM h x) = 0 → Bp D y ((fun (u : Nat → Nat → Int32) => moA y am bs ba (th F) U u) u9) t9) ∧ (¬ (foM h x) = 0 → Bp D y (moA y am bs ba (vU (th F) 0 0 (nI (foM h x))) U X) t9)) A) (C := RX5) (cc := cX5_foresee) (maxL := 3) (ret := (some .int)) (by decide) rfl rfl (Nat.le_of_ble_eq_true rfl) ?_
  intro p e s m a below meth c ls A Q hQ hsz hx hb hr hts hown hlocks hin hml hP hK hN hD hA hS hl
  have hl : lv_has ls 3 [(0, .ref (am 0)), (1, .int h), (2, .int x)] := hl
  rw [moA_fst] at hD
  refine lv_aload_n hx hb dX5_foresee_0 rfl (lv_at hl 0 rfl) ?_
  refine lv_iconst (v := 0) hx hb dX5_foresee_1 (by decide) ?_
  have hin5 : ∀ w ∈ u_ws RX5 TX5 14, w ∈ wsX5_foresee := by decide +kernel
  have hf53 := hts (.fieldLink RX5 53 "CoracleMakersModel" "thrown" "I") (by decide +kernel)
  obtain ⟨F117, hF117⟩ : ∃ z, z = va_up F 0 (upd (F 0) 0 0) := ⟨_, rfl⟩
  refine va_put (D := D) (ci := 5) (v := .int 0) (ty := .int) (C := RX5) (T := TX5) (N := 14) hx hb hts hin5 tyX5 tyX5_ok nmX5 hown hK hP (aD_D hD (show List.map Prod.fst (moW y am (bs 0) (ba 0) F ++ (stW y bs (am 0) U ++ stW y ba (am 0) X)) = _ from by rw [List.map_append, List.map_append, mo_fst y am _ _ _, st_fst y bs _ _, st_fst y ba _ _])) hS 0 (ap_l (wf_at (by decide) rfl)) rfl 0 (by decide) hf53 (fun _ h9 => h9) rfl (by decide +kernel) rfl rfl (Nat.le_of_ble_eq_true rfl) dX5_foresee_2 (fun H locs hP _ hS => ?_)
  have hP : va_P D vwCl (moW y am (bs 0) (ba 0) F117 ++ (stW y bs (am 0) U ++ stW y ba (am 0) X)) H := (by rw [hF117]; exact P_eq (ap_set_l (show 0 < (wf _ _ _).length by rw [wf_len]; omega) (mo_set (k := 0) (upd (F 0) 0 0) (by decide) rfl)) hP)
  rw [show F117 = th F from hF117] at hP
  clear hF117
  clear F117
  refine lv_iload_n hx hb dX5_foresee_5 rfl (lv_at hl 1 rfl) ?_
  refine lv_iconst (v := 1) hx hb dX5_foresee_6 (by decide) ?_
  refine lv_bipush (v := 40) hx hb dX5_foresee_7 (by decide) ?_
  refine cRI_S (As := [.int h, .int 1, .int 40]) (rest := []) ⟨hx, hb, hml, hown, hts⟩ (c_X5_isIn l D y h 1 40) (va_cwS 3 hts gX5_foresee_X5_isIn rfl rfl rfl (by decide +kernel) ⟨Nat.le_of_ble_eq_true rfl, Nat.le_of_ble_eq_true rfl⟩) hK hN (P_nil D vwCl _) rfl hl.1 rfl (Nat.le_of_ble_eq_true rfl) dX5_foresee_9 ⟨Nat.le_of_ble_eq_true rfl, Nat.le_of_ble_eq_true rfl⟩ ?_
  refine lv_if_ne (tgt := 21) hx hb dX5_foresee_12 (by decide) (fun c_247 => ?_) (fun c_247 => ?_)
  · have hh : vp_in h 41 := ii_in (n := 41) c_247 (by decide) (by decide)
    have eh : h = nI (ix h) := in_nI hh (by decide)
    refine lv_iload_n hx hb dX5_foresee_21 rfl (lv_at hl 2 rfl) ?_
    refine lv_iconst (v := 0) hx hb dX5_foresee_22 (by decide) ?_
    refine lv_bipush (v := 12) hx hb dX5_foresee_23 (by decide) ?_
    refine cRI_S (As := [.int x, .int 0, .int 12]) (rest := []) ⟨hx, hb, hml, hown, hts⟩ (c_X5_isIn l D y x 0 12) (va_cwS 3 hts gX5_foresee_X5_isIn rfl rfl rfl (by decide +kernel) ⟨Nat.le_of_ble_eq_true rfl, Nat.le_of_ble_eq_true rfl⟩) hK hN (P_nil D vwCl _) rfl hl.1 rfl (Nat.le_of_ble_eq_true rfl) dX5_foresee_25 ⟨Nat.le_of_ble_eq_true rfl, Nat.le_of_ble_eq_true rfl⟩ ?_
    refine lv_if_ne (tgt := 37) hx hb dX5_foresee_28 (by decide) (fun c_248 => ?_) (fun c_248 => ?_)
    · have hx13 : vp_in x 13 := ii_in (n := 13) c_248 (by decide) (by decide)
      have hO2 := hO (by unfold foM; rw [if_neg c_247, if_neg c_248])
      refine lv_aload_n hx hb dX5_foresee_37 rfl (lv_at hl 0 rfl) ?_
      have hf47 := hts (.fieldLink RX5 47 "CoracleMakersModel" "ahead" "LCoracleMakersModel$State;") (by decide +kernel)
      refine va_get (D := D) (ci := 5) (v := .ref (ba 0)) (C := RX5) (T := TX5) (N := 14) hx hb hts hin5 hown hK hP 0 (ap_l (wf_at (by decide) rfl)) rfl 13 (by decide) hf47 (fun _ h9 => h9) rfl dX5_foresee_38 ?_
      refine lv_aload_n hx hb dX5_foresee_41 rfl (lv_at hl 0 rfl) ?_
      have hf43 := hts (.fieldLink RX5 43 "CoracleMakersModel" "s" "LCoracleMakersModel$State;") (by decide +kernel)
      refine va_get (D := D) (ci := 5) (v := .ref (bs 0)) (C := RX5) (T := TX5) (N := 14) hx hb hts hin5 hown hK hP 0 (ap_l (wf_at (by decide) rfl)) rfl 12 (by decide) hf43 (fun _ h9 => h9) rfl dX5_foresee_42 ?_
      refine cWV_V (As := [.ref (bs 0)]) (rest := []) ⟨hx, hb, hml, hown, hts⟩ (c_X4_become l D y _ bs ba (am 0) (am 0) U X hB9) (cwV 1 hts gX5_foresee_X4_become rfl rfl rfl (by decide +kernel) ⟨Nat.le_of_ble_eq_true rfl, Nat.le_of_ble_eq_true rfl⟩) hK hN (P_r hP) (by rw [st2_fst]; exact aD_r hD) hS hA (va_recv hK hP (ci := 4) (q0 := (9 + (9 + 0))) rfl (ap_r (wf_len 9 _ _) (ap_r (wf_len 9 _ _) (wf_at (by decide) rfl)))) rfl hl.1 rfl (Nat.le_of_ble_eq_true rfl) dX5_foresee_45 ⟨Nat.le_of_ble_eq_true rfl, Nat.le_of_ble_eq_true rfl⟩ (fun H locs hP9 hk9 hS => ?_)
      have hP : va_P D vwCl (moW y am (bs 0) (ba 0) (th F) ++ (stW y bs (am 0) U ++ stW y ba (am 0) U)) H := fr_r hP (by rw [mo_fst, st2_fst]; exact hD) hk9 hP9
      refine lv_aload_n hx hb dX5_foresee_48 rfl (lv_at hl 0 rfl) ?_
      refine va_get (D := D) (ci := 5) (v := .ref (ba 0)) (C := RX5) (T := TX5) (N := 14) hx hb hts hin5 hown hK hP 0 (ap_l (wf_at (by decide) rfl)) rfl 13 (by decide) hf47 (fun _ h9 => h9) rfl dX5_foresee_49 ?_
      refine lv_iload_n hx hb dX5_foresee_52 rfl (lv_at hl 1 rfl) ?_
      refine W.eq (g2 := F0 m 53 ls (.int (nI (ix h)) :: .ref (ba 0) :: [])) (by rw [← eh]) ?_
      refine cWV_V (As := [.int (nI (ix h))]) (rest := []) ⟨hx, hb, hml, hown, hts⟩ (c_X4_pass_ l D y _ am ba (bs 0) (ba 0) (th F) U (ix h) (by have := in_ix hh; omega) hO2) (cwV 1 hts gX5_foresee_X4_pass_ rfl rfl rfl (by decide +kernel) ⟨Nat.le_of_ble_eq_true rfl, Nat.le_of_ble_eq_true rfl⟩) hK hN (P_xz hP) (by rw [mo2_fst]; exact aD_swap hD) hS hA (va_recv hK hP (ci := 4) (q0 := (9 + (9 + 0))) rfl (ap_r (wf_len 9 _ _) (ap_r (wf_len 9 _ _) (wf_at (by decide) rfl)))) rfl hl.1 rfl (Nat.le_of_ble_eq_true rfl) dX5_foresee_53 ⟨Nat.le_of_ble_eq_true rfl, Nat.le_of_ble_eq_true rfl⟩ (fun H locs hP9 hk9 hS => ?_)
      have hP : va_P D vwCl (moW y am (bs 0) (ba 0) (th F) ++ (stW y bs (am 0) U ++ stW y ba (am 0) (psM (th F) U (ix h)))) H := fr_xz hP (by rw [mo_fst, st_fst, st_fst]; exact hD) (fun q h1 h2 => hk9 q h1 (by unfold aW; rw [List.map_append]; exact h2)) hP9
      refine lv_aload_n hx hb dX5_foresee_56 rfl (lv_at hl 0 rfl) ?_
      refine va_get (D := D) (ci := 5) (v := .ref (ba 0)) (C := RX5) (T := TX5) (N := 14) hx hb hts hin5 hown hK hP 0 (ap_l (wf_at (by decide) rfl)) rfl 13 (by decide) hf47 (fun _ h9 => h9) rfl dX5_foresee_57 ?_
      refine lv_iload_n hx hb dX5_foresee_60 rfl (lv_at hl 2 rfl) ?_
      refine cRI_V (As := [.int x]) (rest := []) ⟨hx, hb, hml, hown, hts⟩ (c_X4_counted l D y am ba (bs 0) (ba 0) (th F) (psM (th F) U (ix h)) x hx13 hC) (cwV 1 hts gX5_foresee_X4_counted rfl rfl rfl (by decide +kernel) ⟨Nat.le_of_ble_eq_true rfl, Nat.le_of_ble_eq_true rfl⟩) hK hN (P_xz hP) (va_recv hK hP (ci := 4) (q0 := (9 + (9 + 0))) rfl (ap_r (wf_len 9 _ _) (ap_r (wf_len 9 _ _) (wf_at (by decide) rfl)))) rfl hl.1 rfl (Nat.le_of_ble_eq_true rfl) dX5_foresee_61 ⟨Nat.le_of_ble_eq_true rfl, Nat.le_of_ble_eq_true rfl⟩ ?_
      have ecd : foM h x = 0 := by unfold foM; rw [if_neg c_247, if_neg c_248]
      have hP : va_P D vwCl (moA y am bs ba (th F) U (psM (th F) U (ix h))) H := (by skip; exact hP)
      subst hQ
      exact W.iret (v := cuM (th F) (psM (th F) U (ix h)) x) hx hb hr (fun t ht hW => ⟨⟨_, (psM (th F) U (ix h)), rfl, fun _ => rfl, fun _ => bp_at hK hN hP t ht hW, fun h9 => absurd ecd h9⟩, hS.F ht⟩) hS.2.2 dX5_foresee_64
    · refine lv_aload_n hx hb dX5_foresee_31 rfl (lv_at hl 0 rfl) ?_
      refine lv_iconst (v := 2) hx hb dX5_foresee_32 (by decide) ?_
      refine cWI_V (As := [.int 2]) (rest := []) ⟨hx, hb, hml, hown, hts⟩ (c_X5_no l D y _ am (bs 0) (ba 0) (th F) 2) (cwV 1 hts gX5_foresee_X5_no rfl rfl rfl (by decide +kernel) ⟨Nat.le_of_ble_eq_true rfl, Nat.le_of_ble_eq_true rfl⟩) hK hN (P_l hP) (by rw [mo_fst]; exact aD_l hD) hS hA (va_recv hK hP (ci := 5) (q0 := 0) rfl (ap_l (wf_at (by decide) rfl))) rfl hl.1 rfl (Nat.le_of_ble_eq_true rfl) dX5_foresee_33 ⟨Nat.le_of_ble_eq_true rfl, Nat.le_of_ble_eq_true rfl⟩ (fun H locs hP9 hk9 hS => ?_)
      have hP : va_P D vwCl (moW y am (bs 0) (ba 0) (vU (th F) 0 0 2) ++ (stW y bs (am 0) U ++ stW y ba (am 0) X)) H := fr_l hP (by rw [mo_fst, st2_fst]; exact hD) hk9 hP9
      have ecd : foM h x = 2 := by unfold foM; rw [if_neg c_247, if_pos c_248]
      have ne9 : ¬ foM h x = 0 := by rw [ecd]; decide
      have hP : va_P D vwCl (moW y am (bs 0) (ba 0) (vU (th F) 0 0 (nI (foM h x))) ++ (stW y bs (am 0) U ++ stW y ba (am 0) X)) H := by rw [ecd, nI_l2]; exact hP
      subst hQ
      exact W.iret (v := 0) hx hb hr (fun t ht hW => ⟨⟨_, F, rfl, fun h9 => absurd h9 ne9, fun h9 => absurd h9 ne9, fun _ => bp_at hK hN hP t ht hW⟩, hS.F ht⟩) hS.2.2 dX5_foresee_36
  · refine lv_aload_n hx hb dX5_foresee_15 rfl (lv_at hl 0 rfl) ?_
    refine lv_iconst (v := 1) hx hb dX5_foresee_16 (by decide) ?_
    refine cWI_V (As := [.int 1]) (rest := []) ⟨hx, hb, hml, hown, hts⟩ (c_X5_no l D y _ am (bs 0) (ba 0) (th F) 1) (cwV 1 hts gX5_foresee_X5_no rfl rfl rfl (by decide +kernel) ⟨Nat.le_of_ble_eq_true rfl, Nat.le_of_ble_eq_true rfl⟩) hK hN (P_l hP) (by rw [mo_fst]; exact aD_l hD) hS hA (va_recv hK hP (ci := 5) (q0 := 0) rfl (ap_l (wf_at (by decide) rfl))) rfl hl.1 rfl (Nat.le_of_ble_eq_true rfl) dX5_foresee_17 ⟨Nat.le_of_ble_eq_true rfl, Nat.le_of_ble_eq_true rfl⟩ (fun H locs hP9 hk9 hS => ?_)
    have hP : va_P D vwCl (moW y am (bs 0) (ba 0) (vU (th F) 0 0 1) ++ (stW y bs (am 0) U ++ stW y ba (am 0) X)) H := fr_l hP (by rw [mo_fst, st2_fst]; exact hD) hk9 hP9
    have ecd : foM h x = 1 := by unfold foM; rw [if_pos c_247]
    have ne9 : ¬ foM h x = 0 := by rw [ecd]; decide
    have hP : va_P D vwCl (moW y am (bs 0) (ba 0) (vU (th F) 0 0 (nI (foM h x))) ++ (stW y bs (am 0) U ++ stW y ba (am 0) X)) H := by rw [ecd, nI_l1]; exact hP
    subst hQ
    exact W.iret (v := 0) hx hb hr (fun t ht hW => ⟨⟨_, F, rfl, fun h9 => absurd h9 ne9, fun h9 => absurd h9 ne9, fun _ => bp_at hK hN hP t ht hW⟩, hS.F ht⟩) hS.2.2 dX5_foresee_20
