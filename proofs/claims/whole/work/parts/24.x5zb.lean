abbrev rmX5_advise : Room := { frames := 5, cells := 0, slots := 0, locals := 115 }
set_option maxHeartbeats 4000000 in
set_option maxRecDepth 100000 in
/-- advise(x, h) -/
theorem c_X5_advise (l : Launch) (D : va_G) (y : Nat → ClassId) (sz : Nat) (am bs ba : Nat → Nat) (F U X : Nat → Nat → Int32) (x h : Int32) (hT : vp_in (th F 0 2) 4) (hF : ∀ n, n < 3 → vp_in (th F 6 n) 6 ∧ vp_in (th F 7 n) 6) (hB9 : ∀ i, i < 6 → isB (U 7 i)) (hO : adM9 (th F) x h = 0 → ∀ g, g < 16 → ∀ i, i < ix h → okM (th F) (psM (th F) (glM (th F) U (ix x) (nI g)) i)) : MdI (S := Nat → Nat → Int32) l D y yX5_advise wsX5_advise rmX5_advise [.ref (am 0), .int x, .int h] (moA y am bs ba F U X) sz (adM9 (th F) x h) (adB (cwM (th F) U (ix x) (ix h)) 16) (fun (u : Nat → Nat → Int32) => moA y am bs ba (th F) U u) (moA y am bs ba (vU (th F) 0 0 (nI (adM9 (th F) x h))) U X) := by
  refine mW (fun A => va_Qi (fun r9 (_ : Nat → Nat → Int32) => (adM9 (th F) x h) = 0 → r9 = (adB (cwM (th F) U (ix x) (ix h)) 16)) (fun u9 t9 => ((adM9 (th F) x h) = 0 → Bp D y ((fun (u : Nat → Nat → Int32) => moA y am bs ba (th F) U u) u9) t9) ∧ (¬ (adM9 (th F) x h) = 0 → Bp D y (moA y am bs ba (vU (th F) 0 0 (nI (adM9 (th F) x h))) U X) t9)) A) (C := RX5) (cc := cX5_advise) (maxL := 6) (ret := (some .int)) (by decide) rfl rfl (Nat.le_of_ble_eq_true rfl) ?_
  intro p e s m a below meth c ls A Q hQ hsz hx hb hr hts hown hlocks hin hml hP hK hN hD hA hS hl
  have hl : lv_has ls 6 [(0, .ref (am 0)), (1, .int x), (2, .int h)] := hl
  rw [moA_fst] at hD
  refine lv_aload_n hx hb dX5_advise_0 rfl (lv_at hl 0 rfl) ?_
  refine lv_iconst (v := 0) hx hb dX5_advise_1 (by decide) ?_
  have hin5 : ∀ w ∈ u_ws RX5 TX5 14, w ∈ wsX5_advise := by decide +kernel
  have hf53 := hts (.fieldLink RX5 53 "CoracleMakersModel" "thrown" "I") (by decide +kernel)
  obtain ⟨F118, hF118⟩ : ∃ z, z = va_up F 0 (upd (F 0) 0 0) := ⟨_, rfl⟩
  refine va_put (D := D) (ci := 5) (v := .int 0) (ty := .int) (C := RX5) (T := TX5) (N := 14) hx hb hts hin5 tyX5 tyX5_ok nmX5 hown hK hP (aD_D hD (show List.map Prod.fst (moW y am (bs 0) (ba 0) F ++ (stW y bs (am 0) U ++ stW y ba (am 0) X)) = _ from by rw [List.map_append, List.map_append, mo_fst y am _ _ _, st_fst y bs _ _, st_fst y ba _ _])) hS 0 (ap_l (wf_at (by decide) rfl)) rfl 0 (by decide) hf53 (fun _ h9 => h9) rfl (by decide +kernel) rfl rfl (Nat.le_of_ble_eq_true rfl) dX5_advise_2 (fun H locs hP _ hS => ?_)
  have hP : va_P D vwCl (moW y am (bs 0) (ba 0) F118 ++ (stW y bs (am 0) U ++ stW y ba (am 0) X)) H := (by rw [hF118]; exact P_eq (ap_set_l (show 0 < (wf _ _ _).length by rw [wf_len]; omega) (mo_set (k := 0) (upd (F 0) 0 0) (by decide) rfl)) hP)
  rw [show F118 = th F from hF118] at hP
  clear hF118
  clear F118
  refine lv_aload_n hx hb dX5_advise_5 rfl (lv_at hl 0 rfl) ?_
  refine lv_iload_n hx hb dX5_advise_6 rfl (lv_at hl 1 rfl) ?_
  refine cRI_V (As := [.int x]) (rest := []) ⟨hx, hb, hml, hown, hts⟩ (c_X5_isNet l D y am (bs 0) (ba 0) (th F) x) (cwV 1 hts gX5_advise_X5_isNet rfl rfl rfl (by decide +kernel) ⟨Nat.le_of_ble_eq_true rfl, Nat.le_of_ble_eq_true rfl⟩) hK hN (P_l hP) (va_recv hK hP (ci := 5) (q0 := 0) rfl (ap_l (wf_at (by decide) rfl))) rfl hl.1 rfl (Nat.le_of_ble_eq_true rfl) dX5_advise_7 ⟨Nat.le_of_ble_eq_true rfl, Nat.le_of_ble_eq_true rfl⟩ ?_
  refine lv_if_ne (tgt := 19) hx hb dX5_advise_10 (by decide) (fun c_249 => ?_) (fun c_249 => ?_)
  · have hx3 : vp_in x 3 := (ic_in (n := 3) c_249 hT (by decide))
    refine lv_iload_n hx hb dX5_advise_19 rfl (lv_at hl 2 rfl) ?_
    refine lv_iconst (v := 1) hx hb dX5_advise_20 (by decide) ?_
    refine lv_bipush (v := 10) hx hb dX5_advise_21 (by decide) ?_
    refine cRI_S (As := [.int h, .int 1, .int 10]) (rest := []) ⟨hx, hb, hml, hown, hts⟩ (c_X5_isIn l D y h 1 10) (va_cwS 3 hts gX5_advise_X5_isIn rfl rfl rfl (by decide +kernel) ⟨Nat.le_of_ble_eq_true rfl, Nat.le_of_ble_eq_true rfl⟩) hK hN (P_nil D vwCl _) rfl hl.1 rfl (Nat.le_of_ble_eq_true rfl) dX5_advise_23 ⟨Nat.le_of_ble_eq_true rfl, Nat.le_of_ble_eq_true rfl⟩ ?_
    refine lv_if_ne (tgt := 35) hx hb dX5_advise_26 (by decide) (fun c_250 => ?_) (fun c_250 => ?_)
    · have hh : vp_in h 11 := ii_in (n := 11) c_250 (by decide) (by decide)
      have eh : h = nI (ix h) := in_nI hh (by decide)
      have hO2 := hO (by unfold adM9; rw [if_neg c_249, if_neg c_250])
      refine lv_iconst (v := 0) hx hb dX5_advise_35 (by decide) ?_
      refine lv_istore_n (lv' := [(3, .int 0), (0, .ref (am 0)), (1, .int x), (2, .int h)]) hx hb dX5_advise_36 rfl hl (by decide) rfl (fun ls hl => ?_)
      refine lv_iconst (v := (-1)) hx hb dX5_advise_37 (by decide) ?_
      refine lv_istore (lv' := [(4, .int (-1)), (3, .int 0), (0, .ref (am 0)), (1, .int x), (2, .int h)]) hx hb dX5_advise_38 hl (by decide) rfl (fun ls hl => ?_)
      refine lv_iconst (v := 0) hx hb dX5_advise_40 (by decide) ?_
      refine lv_istore (lv' := [(5, .int 0), (4, .int (-1)), (3, .int 0), (0, .ref (am 0)), (1, .int x), (2, .int h)]) hx hb dX5_advise_41 hl (by decide) rfl (fun ls hl => ?_)
      have hl : lv_has ls 6 [(5, .int 0), (4, .int (-1)), (3, .int (adB (cwM (th F) U (ix x) (ix h)) 0)), (0, .ref (am 0)), (1, .int x), (2, .int h)] := hl
      have hl : lv_has ls 6 [(5, .int 0), (4, .int (adM (cwM (th F) U (ix x) (ix h)) 0)), (3, .int (adB (cwM (th F) U (ix x) (ix h)) 0)), (0, .ref (am 0)), (1, .int x), (2, .int h)] := hl
      have hl : lv_has ls 6 [(5, .int (nI 0)), (4, .int (adM (cwM (th F) U (ix x) (ix h)) 0)), (3, .int (adB (cwM (th F) U (ix x) (ix h)) 0)), (0, .ref (am 0)), (1, .int x), (2, .int h)] := hl
      have la9 : ∀ (n i : Nat) (X : Nat → Nat → Int32) (H : Heap) (locs : List Loc) (ls : Array Slot), n + i = 16 → va_P D vwCl (moW y am (bs 0) (ba 0) (th F) ++ (stW y bs (am 0) U ++ stW y ba (am 0) X)) H → va_S A s.heap H locs → lv_has ls 6 [(0, .ref (am 0)), (1, .int x), (2, .int h), (3, .int (adB (cwM (th F) U (ix x) (ix h)) i)), (4, .int (adM (cwM (th F) U (ix x) (ix h)) i)), (5, .int (nI i))] → W p l e rmX5_advise s m a below meth c H locs 0 0 Q (F0 m 43 ls []) := by
        intro n
        induction n with
        | zero =>
          intro i X H locs ls hni hP hS hl
          have e9 : 16 = i := by omega
          subst e9
          refine lv_iload hx hb dX5_advise_43 (lv_at hl 5 rfl) ?_
          refine lv_bipush (v := 16) hx hb dX5_advise_45 (by decide) ?_
          refine lv_icmp_ge (tgt := 138) hx hb dX5_advise_47 (by decide) (fun _ => ?_) (fun c9 => absurd (show (16 : Int32) ≤ nI 16 by decide) c9)
          refine lv_iload_n hx hb dX5_advise_138 rfl (lv_at hl 3 rfl) ?_
          have ecd : adM9 (th F) x h = 0 := by unfold adM9; rw [if_neg c_249, if_neg c_250]
          have hP : va_P D vwCl (moA y am bs ba (th F) U X) H := (by skip; exact hP)
          subst hQ
          exact W.iret (v := adB (cwM (th F) U (ix x) (ix h)) 16) hx hb hr (fun t ht hW => ⟨⟨_, X, rfl, fun _ => rfl, fun _ => bp_at hK hN hP t ht hW, fun h9 => absurd ecd h9⟩, hS.F ht⟩) hS.2.2 dX5_advise_139
        | succ n ih =>
          intro i X H locs ls hni hP hS hl
          have hi9 : i < 16 := by omega
          refine lv_iload hx hb dX5_advise_43 (lv_at hl 5 rfl) ?_
          refine lv_bipush (v := 16) hx hb dX5_advise_45 (by decide) ?_
          refine lv_icmp_ge (tgt := 138) hx hb dX5_advise_47 (by decide) (fun c9 => absurd c9 (nI_ge (a := i) (b := 16) hi9 (by decide))) (fun _ => ?_)
          refine lv_aload_n hx hb dX5_advise_50 rfl (lv_at hl 0 rfl) ?_
          have hf47 := hts (.fieldLink RX5 47 "CoracleMakersModel" "ahead" "LCoracleMakersModel$State;") (by decide +kernel)
          refine va_get (D := D) (ci := 5) (v := .ref (ba 0)) (C := RX5) (T := TX5) (N := 14) hx hb hts hin5 hown hK hP 0 (ap_l (wf_at (by decide) rfl)) rfl 13 (by decide) hf47 (fun _ h9 => h9) rfl dX5_advise_51 ?_
          refine lv_aload_n hx hb dX5_advise_54 rfl (lv_at hl 0 rfl) ?_
          have hf43 := hts (.fieldLink RX5 43 "CoracleMakersModel" "s" "LCoracleMakersModel$State;") (by decide +kernel)
          refine va_get (D := D) (ci := 5) (v := .ref (bs 0)) (C := RX5) (T := TX5) (N := 14) hx hb hts hin5 hown hK hP 0 (ap_l (wf_at (by decide) rfl)) rfl 12 (by decide) hf43 (fun _ h9 => h9) rfl dX5_advise_55 ?_
          refine cWV_V (As := [.ref (bs 0)]) (rest := []) ⟨hx, hb, hml, hown, hts⟩ (c_X4_become l D y _ bs ba (am 0) (am 0) U X hB9) (cwV 1 hts gX5_advise_X4_become rfl rfl rfl (by decide +kernel) ⟨Nat.le_of_ble_eq_true rfl, Nat.le_of_ble_eq_true rfl⟩) hK hN (P_r hP) (by rw [st2_fst]; exact aD_r hD) hS hA (va_recv hK hP (ci := 4) (q0 := (9 + (9 + 0))) rfl (ap_r (wf_len 9 _ _) (ap_r (wf_len 9 _ _) (wf_at (by decide) rfl)))) rfl hl.1 rfl (Nat.le_of_ble_eq_true rfl) dX5_advise_58 ⟨Nat.le_of_ble_eq_true rfl, Nat.le_of_ble_eq_true rfl⟩ (fun H locs hP9 hk9 hS => ?_)
          have hP : va_P D vwCl (moW y am (bs 0) (ba 0) (th F) ++ (stW y bs (am 0) U ++ stW y ba (am 0) U)) H := fr_r hP (by rw [mo_fst, st2_fst]; exact hD) hk9 hP9
          refine lv_aload_n hx hb dX5_advise_61 rfl (lv_at hl 0 rfl) ?_
          refine va_get (D := D) (ci := 5) (v := .ref (ba 0)) (C := RX5) (T := TX5) (N := 14) hx hb hts hin5 hown hK hP 0 (ap_l (wf_at (by decide) rfl)) rfl 13 (by decide) hf47 (fun _ h9 => h9) rfl dX5_advise_62 ?_
          have hin4 : ∀ w ∈ u_ws RX4 TX4 13, w ∈ wsX5_advise := by decide +kernel
          have hf87 : (Cond.fieldLinkNest RX5 87 "CoracleMakersModel$State" "goal" "[I" "CoracleMakersModel").before a s = true := va_Nw.use rfl (hN.1 _ (List.mem_of_getElem? (i := 4) rfl))
          refine va_getN (D := D) (ci := 4) (v := .ref (ba 3)) (C := RX4) (T := TX4) (N := 13) hx hb hts hin4 hown hK hP (9 + (9 + 0)) (ap_r (wf_len 9 _ _) (ap_r (wf_len 9 _ _) (wf_at (by decide) rfl))) rfl 6 (by decide) hf87 (fun _ h9 => h9) rfl dX5_advise_65 ?_
          refine lv_aload_n hx hb dX5_advise_68 rfl (lv_at hl 0 rfl) ?_
          have hf25 := hts (.fieldLink RX5 25 "CoracleMakersModel" "first" "[I") (by decide +kernel)
          refine va_get (D := D) (ci := 5) (v := .ref (am 6)) (C := RX5) (T := TX5) (N := 14) hx hb hts hin5 hown hK hP 0 (ap_l (wf_at (by decide) rfl)) rfl 8 (by decide) hf25 (fun _ h9 => h9) rfl dX5_advise_69 ?_
          refine lv_iload_n hx hb dX5_advise_72 rfl (lv_at hl 1 rfl) ?_
          refine va_iald hx hb hK hP 6 0 (ap_l (wf_at (by decide) rfl)) rfl hx3 dX5_advise_73 ?_
          refine lv_iload hx hb dX5_advise_74 (lv_at hl 5 rfl) ?_
          obtain ⟨X119, hX119⟩ : ∃ z, z = va_up U 3 (upd (U 3) (ix ((th F) 6 (ix x))) (nI i)) := ⟨_, rfl⟩
          refine va_iast hx hb hK hP (aD_D hD (show List.map Prod.fst (moW y am (bs 0) (ba 0) (th F) ++ (stW y bs (am 0) U ++ stW y ba (am 0) U)) = _ from by rw [List.map_append, List.map_append, mo_fst y am _ _ _, st_fst y bs _ _, st_fst y ba _ _])) hS (9 + (9 + 3)) 0 (ap_r (wf_len 9 _ _) (ap_r (wf_len 9 _ _) (wf_at (by decide) rfl))) rfl (hF _ (in_ix hx3)).1 dX5_advise_76 (fun H locs hP _ hS => ?_)
          have hP : va_P D vwCl (moW y am (bs 0) (ba 0) (th F) ++ (stW y bs (am 0) U ++ stW y ba (am 0) X119)) H := (by rw [hX119]; exact P_eq (ap_set_r (wf_len 9 _ _) (ap_set_r (wf_len 9 _ _) (st_set (k := 3) (upd (U 3) (ix ((th F) 6 (ix x))) (nI i)) (by decide) rfl))) hP)
          refine lv_aload_n hx hb dX5_advise_77 rfl (lv_at hl 0 rfl) ?_
          refine va_get (D := D) (ci := 5) (v := .ref (ba 0)) (C := RX5) (T := TX5) (N := 14) hx hb hts hin5 hown hK hP 0 (ap_l (wf_at (by decide) rfl)) rfl 13 (by decide) hf47 (fun _ h9 => h9) rfl dX5_advise_78 ?_
          refine va_getN (D := D) (ci := 4) (v := .ref (ba 3)) (C := RX4) (T := TX4) (N := 13) hx hb hts hin4 hown hK hP (9 + (9 + 0)) (ap_r (wf_len 9 _ _) (ap_r (wf_len 9 _ _) (wf_at (by decide) rfl))) rfl 6 (by decide) hf87 (fun _ h9 => h9) rfl dX5_advise_81 ?_
          refine lv_aload_n hx hb dX5_advise_84 rfl (lv_at hl 0 rfl) ?_
          have hf28 := hts (.fieldLink RX5 28 "CoracleMakersModel" "second" "[I") (by decide +kernel)
          refine va_get (D := D) (ci := 5) (v := .ref (am 7)) (C := RX5) (T := TX5) (N := 14) hx hb hts hin5 hown hK hP 0 (ap_l (wf_at (by decide) rfl)) rfl 9 (by decide) hf28 (fun _ h9 => h9) rfl dX5_advise_85 ?_
          refine lv_iload_n hx hb dX5_advise_88 rfl (lv_at hl 1 rfl) ?_
          refine va_iald hx hb hK hP 7 0 (ap_l (wf_at (by decide) rfl)) rfl hx3 dX5_advise_89 ?_
          refine lv_iload hx hb dX5_advise_90 (lv_at hl 5 rfl) ?_
          obtain ⟨X120, hX120⟩ : ∃ z, z = va_up X119 3 (upd (X119 3) (ix ((th F) 7 (ix x))) (nI i)) := ⟨_, rfl⟩
          refine va_iast hx hb hK hP (aD_D hD (show List.map Prod.fst (moW y am (bs 0) (ba 0) (th F) ++ (stW y bs (am 0) U ++ stW y ba (am 0) X119)) = _ from by rw [List.map_append, List.map_append, mo_fst y am _ _ _, st_fst y bs _ _, st_fst y ba _ _])) hS (9 + (9 + 3)) 0 (ap_r (wf_len 9 _ _) (ap_r (wf_len 9 _ _) (wf_at (by decide) rfl))) rfl (hF _ (in_ix hx3)).2 dX5_advise_92 (fun H locs hP _ hS => ?_)
          have hP : va_P D vwCl (moW y am (bs 0) (ba 0) (th F) ++ (stW y bs (am 0) U ++ stW y ba (am 0) X120)) H := (by rw [hX120]; exact P_eq (ap_set_r (wf_len 9 _ _) (ap_set_r (wf_len 9 _ _) (st_set (k := 3) (upd (X119 3) (ix ((th F) 7 (ix x))) (nI i)) (by decide) rfl))) hP)
          refine lv_aload_n hx hb dX5_advise_93 rfl (lv_at hl 0 rfl) ?_
          refine va_get (D := D) (ci := 5) (v := .ref (ba 0)) (C := RX5) (T := TX5) (N := 14) hx hb hts hin5 hown hK hP 0 (ap_l (wf_at (by decide) rfl)) rfl 13 (by decide) hf47 (fun _ h9 => h9) rfl dX5_advise_94 ?_
          refine lv_iload_n hx hb dX5_advise_97 rfl (lv_at hl 2 rfl) ?_
          have e9 : X120 = glM (th F) U (ix x) (nI i) := by subst hX120 hX119; rfl
          rw [e9] at hP
          refine W.eq (g2 := F0 m 98 ls (.int (nI (ix h)) :: .ref (ba 0) :: [])) (by rw [← eh]) ?_
          refine cWV_V (As := [.int (nI (ix h))]) (rest := []) ⟨hx, hb, hml, hown, hts⟩ (c_X4_pass_ l D y _ am ba (bs 0) (ba 0) (th F) (glM (th F) U (ix x) (nI i)) (ix h) (by have := in_ix hh; omega) (hO2 i hi9)) (cwV 1 hts gX5_advise_X4_pass_ rfl rfl rfl (by decide +kernel) ⟨Nat.le_of_ble_eq_true rfl, Nat.le_of_ble_eq_true rfl⟩) hK hN (P_xz hP) (by rw [mo2_fst]; exact aD_swap hD) hS hA (va_recv hK hP (ci := 4) (q0 := (9 + (9 + 0))) rfl (ap_r (wf_len 9 _ _) (ap_r (wf_len 9 _ _) (wf_at (by decide) rfl)))) rfl hl.1 rfl (Nat.le_of_ble_eq_true rfl) dX5_advise_98 ⟨Nat.le_of_ble_eq_true rfl, Nat.le_of_ble_eq_true rfl⟩ (fun H locs hP9 hk9 hS => ?_)
          have hP : va_P D vwCl (moW y am (bs 0) (ba 0) (th F) ++ (stW y bs (am 0) U ++ stW y ba (am 0) (psM (th F) (glM (th F) U (ix x) (nI i)) (ix h)))) H := fr_xz hP (by rw [mo_fst, st_fst, st_fst]; exact hD) (fun q h1 h2 => hk9 q h1 (by unfold aW; rw [List.map_append]; exact h2)) hP9
          refine lv_aload_n hx hb dX5_advise_101 rfl (lv_at hl 0 rfl) ?_
          refine va_get (D := D) (ci := 5) (v := .ref (ba 0)) (C := RX5) (T := TX5) (N := 14) hx hb hts hin5 hown hK hP 0 (ap_l (wf_at (by decide) rfl)) rfl 13 (by decide) hf47 (fun _ h9 => h9) rfl dX5_advise_102 ?_
          have hf116 : (Cond.fieldLinkNest RX5 116 "CoracleMakersModel$State" "caught" "[I" "CoracleMakersModel").before a s = true := va_Nw.use rfl (hN.1 _ (List.mem_of_getElem? (i := 9) rfl))
          refine va_getN (D := D) (ci := 4) (v := .ref (ba 8)) (C := RX4) (T := TX4) (N := 13) hx hb hts hin4 hown hK hP (9 + (9 + 0)) (ap_r (wf_len 9 _ _) (ap_r (wf_len 9 _ _) (wf_at (by decide) rfl))) rfl 11 (by decide) hf116 (fun _ h9 => h9) rfl dX5_advise_105 ?_
          refine lv_iload_n hx hb dX5_advise_108 rfl (lv_at hl 1 rfl) ?_
          refine va_iald hx hb hK hP (9 + (9 + 8)) 0 (ap_r (wf_len 9 _ _) (ap_r (wf_len 9 _ _) (wf_at (by decide) rfl))) rfl hx3 dX5_advise_109 ?_
          refine W.eq (g2 := F0 m 110 ls (.int ((cwM (th F) U (ix x) (ix h)) i) :: [])) rfl ?_
          refine lv_iload hx hb dX5_advise_110 (lv_at hl 4 rfl) ?_
          refine lv_icmp_gt (tgt := 118) hx hb dX5_advise_112 (by decide) (fun c_251 => ?_) (fun c_251 => ?_)
          · refine lv_iload hx hb dX5_advise_118 (lv_at hl 5 rfl) ?_
            refine lv_istore_n (lv' := [(3, .int (nI i)), (0, .ref (am 0)), (1, .int x), (2, .int h), (4, .int (adM (cwM (th F) U (ix x) (ix h)) i)), (5, .int (nI i))]) hx hb dX5_advise_120 rfl hl (by decide) rfl (fun ls hl => ?_)
            refine lv_aload_n hx hb dX5_advise_121 rfl (lv_at hl 1 rfl) ?_
            refine va_get (D := D) (ci := 5) (v := .ref (ba 0)) (C := RX5) (T := TX5) (N := 14) hx hb hts hin5 hown hK hP 0 (ap_l (wf_at (by decide) rfl)) rfl 13 (by decide) hf47 (fun _ h9 => h9) rfl dX5_advise_122 ?_
            refine va_getN (D := D) (ci := 4) (v := .ref (ba 8)) (C := RX4) (T := TX4) (N := 13) hx hb hts hin4 hown hK hP (9 + (9 + 0)) (ap_r (wf_len 9 _ _) (ap_r (wf_len 9 _ _) (wf_at (by decide) rfl))) rfl 11 (by decide) hf116 (fun _ h9 => h9) rfl dX5_advise_125 ?_
            refine lv_iload_n hx hb dX5_advise_128 rfl (lv_at hl 2 rfl) ?_
            refine va_iald hx hb hK hP (9 + (9 + 8)) 0 (ap_r (wf_len 9 _ _) (ap_r (wf_len 9 _ _) (wf_at (by decide) rfl))) rfl hx3 dX5_advise_129 ?_
            refine lv_istore (lv' := [(4, .int ((psM (th F) (glM (th F) U (ix x) (nI i)) (ix h)) 8 (ix x))), (3, .int (nI i)), (0, .ref (am 0)), (1, .int x), (2, .int h), (5, .int (nI i))]) hx hb dX5_advise_130 hl (by decide) rfl (fun ls hl => ?_)
            have e1 : adB (cwM (th F) U (ix x) (ix h)) (i + 1) = nI i := if_neg (Int32.not_le.mpr c_251)
            have e2 : adM (cwM (th F) U (ix x) (ix h)) (i + 1) = (cwM (th F) U (ix x) (ix h)) i := if_neg (Int32.not_le.mpr c_251)
            have hl : lv_has ls 6 [(4, .int (adM (cwM (th F) U (ix x) (ix h)) (i + 1))), (3, .int (adB (cwM (th F) U (ix x) (ix h)) (i + 1))), (0, .ref (am 0)), (1, .int x), (2, .int h), (5, .int (nI i))] := by rw [e1, e2]; exact hl
            refine lv_iinc (v := nI (i + 1)) (lv' := [(5, .int (nI (i + 1))), (4, .int (adM (cwM (th F) U (ix x) (ix h)) (i + 1))), (3, .int (adB (cwM (th F) U (ix x) (ix h)) (i + 1))), (0, .ref (am 0)), (1, .int x), (2, .int h)]) hx hb dX5_advise_132 hl (k := 5) rfl (by first | rfl | exact (nI_1 i)) (by decide) rfl (fun ls hl => ?_)
            refine lv_goto (tgt := 43) hx hb dX5_advise_135 (by decide) ?_
            exact ih (i + 1) _ _ _ _ (by omega) hP hS (lv_sub hl [3, 4, 5, 2, 1, 0] rfl)
          · have nm9 : (cwM (th F) U (ix x) (ix h)) i ≤ adM (cwM (th F) U (ix x) (ix h)) i := Int32.not_lt.mp c_251
            have e1 : adB (cwM (th F) U (ix x) (ix h)) (i + 1) = adB (cwM (th F) U (ix x) (ix h)) i := if_pos nm9
            have e2 : adM (cwM (th F) U (ix x) (ix h)) (i + 1) = adM (cwM (th F) U (ix x) (ix h)) i := if_pos nm9
            rw [← e1, ← e2] at hl
            refine lv_goto (tgt := 132) hx hb dX5_advise_115 (by decide) ?_
            refine lv_iinc (v := nI (i + 1)) (lv' := [(5, .int (nI (i + 1))), (0, .ref (am 0)), (1, .int x), (2, .int h), (3, .int (adB (cwM (th F) U (ix x) (ix h)) (i + 1))), (4, .int (adM (cwM (th F) U (ix x) (ix h)) (i + 1)))]) hx hb dX5_advise_132 hl (k := 5) rfl (by first | rfl | exact (nI_1 i)) (by decide) rfl (fun ls hl => ?_)
            refine lv_goto (tgt := 43) hx hb dX5_advise_135 (by decide) ?_
            exact ih (i + 1) _ _ _ _ (by omega) hP hS (lv_sub hl [1, 2, 3, 4, 5, 0] rfl)
      exact la9 16 0 _ _ _ ls rfl hP hS (lv_sub hl [3, 4, 5, 2, 1, 0] rfl)
    · refine lv_aload_n hx hb dX5_advise_29 rfl (lv_at hl 0 rfl) ?_
      refine lv_iconst (v := 2) hx hb dX5_advise_30 (by decide) ?_
      refine cWI_V (As := [.int 2]) (rest := []) ⟨hx, hb, hml, hown, hts⟩ (c_X5_no l D y _ am (bs 0) (ba 0) (th F) 2) (cwV 1 hts gX5_advise_X5_no rfl rfl rfl (by decide +kernel) ⟨Nat.le_of_ble_eq_true rfl, Nat.le_of_ble_eq_true rfl⟩) hK hN (P_l hP) (by rw [mo_fst]; exact aD_l hD) hS hA (va_recv hK hP (ci := 5) (q0 := 0) rfl (ap_l (wf_at (by decide) rfl))) rfl hl.1 rfl (Nat.le_of_ble_eq_true rfl) dX5_advise_31 ⟨Nat.le_of_ble_eq_true rfl, Nat.le_of_ble_eq_true rfl⟩ (fun H locs hP9 hk9 hS => ?_)
      have hP : va_P D vwCl (moW y am (bs 0) (ba 0) (vU (th F) 0 0 2) ++ (stW y bs (am 0) U ++ stW y ba (am 0) X)) H := fr_l hP (by rw [mo_fst, st2_fst]; exact hD) hk9 hP9
      have ecd : adM9 (th F) x h = 2 := by unfold adM9; rw [if_neg c_249, if_pos c_250]
      have ne9 : ¬ adM9 (th F) x h = 0 := by rw [ecd]; decide
      have hP : va_P D vwCl (moW y am (bs 0) (ba 0) (vU (th F) 0 0 (nI (adM9 (th F) x h))) ++ (stW y bs (am 0) U ++ stW y ba (am 0) X)) H := by rw [ecd, nI_l2]; exact hP
      subst hQ
      exact W.iret (v := 0) hx hb hr (fun t ht hW => ⟨⟨_, F, rfl, fun h9 => absurd h9 ne9, fun h9 => absurd h9 ne9, fun _ => bp_at hK hN hP t ht hW⟩, hS.F ht⟩) hS.2.2 dX5_advise_34
  · refine lv_aload_n hx hb dX5_advise_13 rfl (lv_at hl 0 rfl) ?_
    refine lv_iconst (v := 1) hx hb dX5_advise_14 (by decide) ?_
    refine cWI_V (As := [.int 1]) (rest := []) ⟨hx, hb, hml, hown, hts⟩ (c_X5_no l D y _ am (bs 0) (ba 0) (th F) 1) (cwV 1 hts gX5_advise_X5_no rfl rfl rfl (by decide +kernel) ⟨Nat.le_of_ble_eq_true rfl, Nat.le_of_ble_eq_true rfl⟩) hK hN (P_l hP) (by rw [mo_fst]; exact aD_l hD) hS hA (va_recv hK hP (ci := 5) (q0 := 0) rfl (ap_l (wf_at (by decide) rfl))) rfl hl.1 rfl (Nat.le_of_ble_eq_true rfl) dX5_advise_15 ⟨Nat.le_of_ble_eq_true rfl, Nat.le_of_ble_eq_true rfl⟩ (fun H locs hP9 hk9 hS => ?_)
    have hP : va_P D vwCl (moW y am (bs 0) (ba 0) (vU (th F) 0 0 1) ++ (stW y bs (am 0) U ++ stW y ba (am 0) X)) H := fr_l hP (by rw [mo_fst, st2_fst]; exact hD) hk9 hP9
    have ecd : adM9 (th F) x h = 1 := by unfold adM9; rw [if_pos c_249]
    have ne9 : ¬ adM9 (th F) x h = 0 := by rw [ecd]; decide
    have hP : va_P D vwCl (moW y am (bs 0) (ba 0) (vU (th F) 0 0 (nI (adM9 (th F) x h))) ++ (stW y bs (am 0) U ++ stW y ba (am 0) X)) H := by rw [ecd, nI_l1]; exact hP
    subst hQ
    exact W.iret (v := 0) hx hb hr (fun t ht hW => ⟨⟨_, F, rfl, fun h9 => absurd h9 ne9, fun h9 => absurd h9 ne9, fun _ => bp_at hK hN hP t ht hW⟩, hS.F ht⟩) hS.2.2 dX5_advise_18
