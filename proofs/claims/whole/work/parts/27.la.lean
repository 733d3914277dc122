abbrev rmL_setDrift : Room := { frames := 8, cells := 2, slots := 12, locals := 135 }
theorem cd_setDrift (h b : Int32) (h9 : ¬ stC h b 5 = 0) : stC h b 5 = 1 ∨ stC h b 5 = 2 := by
  revert h9
  unfold stC
  (repeat' split) <;> first | exact fun _ => Or.inl rfl | exact fun _ => Or.inr rfl | exact fun h => absurd rfl h
set_option maxHeartbeats 4000000 in
set_option maxRecDepth 100000 in
/-- setDrift -/
theorem c_L_setDrift (l : Launch) (D : va_G) (y : Nat → ClassId) (sz : Nat) (hst : l.stackTraces = false) (ao ac an ar : Nat → Nat) (v : FO) (K V U : FV) (h b : Int32) : LW l D y yL_setDrift wsL_setDrift rmL_setDrift 2 12 [.ref (ac 0), .int h, .int b, .ref (ao 0)] ao ac an ar v K V U sz (stC h b 5) (stC h b 5) (K 1 (ix h)) (vU K 1 (ix h) b) V := by
  refine mXH (fun A => va_Qi (fun r9 (u : FO × FV × FV × FV) => r9 = nI (stC h b 5) ∧ (stC h b 5 = 0 → u.1 0 = (K 1 (ix h)).toInt64 ∧ u.2.1 = (vU K 1 (ix h) b) ∧ u.2.2.1 = V) ∧ (¬ stC h b 5 = 0 → u.2.1 = K ∧ u.2.2.1 = V)) (fun u t => Bp D y (lwW y ao ac an ar u.1 u.2.1 u.2.2.1 u.2.2.2) t) A) (fun A => vx_X (fun (_ : Unit) => False) (fun _ _ _ => True) A) (C := RL) (cc := cL_setDrift) (maxL := 5) (ret := (some .int)) (hh := [(0, 10, 13, 13), (0, 10, 17, 15)]) (by decide) rfl rfl (Nat.le_of_ble_eq_true rfl) ?_
  intro p e s m a below meth c ls A Q hQ hsz hx hb hr hts hown hlocks htab hml hP hK hN hE hX hD hA hS hl
  rw [lwW_fst] at hD
  have hl : lv_has ls 5 [(0, .ref (ac 0)), (1, .int h), (2, .int b), (3, .ref (ao 0))] := hl
  refine lv_aload_n hx hb dL_setDrift_0 rfl (lv_at hl 3 rfl) ?_
  refine lv_iconst (v := 0) hx hb dL_setDrift_1 (by decide) ?_
  refine lv_aload_n hx hb dL_setDrift_2 rfl (lv_at hl 0 rfl) ?_
  refine lv_iload_n hx hb dL_setDrift_3 rfl (lv_at hl 1 rfl) ?_
  refine lv_iload_n hx hb dL_setDrift_4 rfl (lv_at hl 2 rfl) ?_
  refine cX_V (S := FV) (As := [.int h, .int b]) (rest := [.int 0, .ref (ao 0)]) ⟨hx, hb, hml, hown, hts⟩ (c_X3_setDrift l D y _ hst ac an ar K V U h b) (cwV 2 hts gL_setDrift_X3_setDrift rfl rfl rfl (by decide +kernel) ⟨Nat.le_of_ble_eq_true rfl, Nat.le_of_ble_eq_true rfl⟩) hK hN hE hX (P_r hP) (by rw [cmA_fst]; exact aD_r hD) hS hA (va_recv hK (P_r hP) (ci := 3) (q0 := 0) rfl (ap_l (wf_at (by decide) rfl))) rfl hl.1 rfl (Nat.le_of_ble_eq_true rfl) dL_setDrift_5 ⟨Nat.le_of_ble_eq_true rfl, Nat.le_of_ble_eq_true rfl⟩ (fun hc ce q9 H locs hP9 hk9 hS h91 h92 h93 => ?_) (fun hc U2 H locs hP9 hk9 hS => ?_)
  · have hP : va_P D vwCl (lwW y ao ac an ar v K V U) H := fr_r hP (by rw [ou_fst, cmA_fst]; exact hD) hk9 hP9
    rcases cd_setDrift h b hc with hcd | hcd
    · rw [hcd] at h93
      refine vx_catch (own := RL) (name := xIO) (E := xIO) hown [] ⟨0, 10, 13, 13⟩ [⟨0, 10, 17, 15⟩] (by rw [htab]; rfl) (fun z hz => by cases hz) (by decide) (by decide) (hts (.classLink RL 13 "java/lang/IndexOutOfBoundsException") (by decide +kernel)) (va_Nw.use rfl (hE.2.1 _ (List.mem_of_getElem? (i := 0) rfl))) h91 h92 h93 ?_
      refine lv_astore (lv' := [(4, .ref q9), (0, .ref (ac 0)), (1, .int h), (2, .int b), (3, .ref (ao 0))]) hx hb dL_setDrift_13 hl (by decide) rfl (fun ls hl => ?_)
      refine lv_iconst (v := 1) hx hb dL_setDrift_15 (by decide) ?_
      subst hQ
      refine W.widen (k := 2) (n := 12) (Nat.le_of_ble_eq_true rfl) (Nat.le_of_ble_eq_true rfl) ?_
      exact vx_ret (W.iret (v := 1) hx hb hr (fun t ht hW => ⟨⟨_, (v, K, V, U), rfl, ⟨by rw [hcd]; exact nI_k1, fun z => absurd z hc, fun _ => ⟨rfl, rfl⟩⟩, bp_at hK hN hP t ht hW⟩, hS.F ht⟩) hS.2.2 dL_setDrift_16)
    · rw [hcd] at h93
      refine vx_catch (own := RL) (name := xIA) (E := xIA) hown [⟨0, 10, 13, 13⟩] ⟨0, 10, 17, 15⟩ [] (by rw [htab]; rfl) (fun z hz => by rw [List.mem_singleton] at hz; subst hz; exact Or.inr ⟨by decide, xIO, hts (.classLink RL 13 "java/lang/IndexOutOfBoundsException") (by decide +kernel), hE.2.2 _ (List.mem_of_getElem? (i := 2) rfl)⟩) (by decide) (by decide) (hts (.classLink RL 15 "java/lang/IllegalArgumentException") (by decide +kernel)) (va_Nw.use rfl (hE.2.1 _ (List.mem_of_getElem? (i := 1) rfl))) h91 h92 h93 ?_
      refine lv_astore (lv' := [(4, .ref q9), (0, .ref (ac 0)), (1, .int h), (2, .int b), (3, .ref (ao 0))]) hx hb dL_setDrift_17 hl (by decide) rfl (fun ls hl => ?_)
      refine lv_iconst (v := 2) hx hb dL_setDrift_19 (by decide) ?_
      subst hQ
      refine W.widen (k := 2) (n := 12) (Nat.le_of_ble_eq_true rfl) (Nat.le_of_ble_eq_true rfl) ?_
      exact vx_ret (W.iret (v := 2) hx hb hr (fun t ht hW => ⟨⟨_, (v, K, V, U), rfl, ⟨by rw [hcd]; exact nI_k2, fun z => absurd z hc, fun _ => ⟨rfl, rfl⟩⟩, bp_at hK hN hP t ht hW⟩, hS.F ht⟩) hS.2.2 dL_setDrift_20)
  · have hP : va_P D vwCl (lwW y ao ac an ar v (vU K 1 (ix h) b) V U2) H := fr_r hP (by rw [ou_fst, cmA_fst]; exact hD) hk9 hP9
    refine lv_i2l (v := (K 1 (ix h)).toInt64) hx hb dL_setDrift_8 rfl ?_
    refine va_last hx hb hK hP (aD_D hD (lwW_fst y ao ac an ar v (vU K 1 (ix h) b) V U2)) hS 0 2 (ap_l (wf_at (by decide) rfl)) rfl (show vp_in (0 : Int32) 1 from vp_in_nI (n := 0) (by decide) (by decide)) dL_setDrift_9 (fun H locs hP _ hS => ?_)
    have hP : va_P D vwCl (lwW y ao ac an ar (vp_updL v (Int32.toNatClampNeg 0) (K 1 (ix h)).toInt64) (vU K 1 (ix h) b) V U2) H := P_eq (ap_set_l (show 0 < (ouW y ao v).length by rw [wf_len]; omega) (ou_set y ao v _)) hP
    refine lv_goto (tgt := 21) hx hb dL_setDrift_10 (by decide) ?_
    refine lv_iconst (v := 0) hx hb dL_setDrift_21 (by decide) ?_
    subst hQ
    refine W.widen (k := 2) (n := 12) (Nat.le_of_ble_eq_true rfl) (Nat.le_of_ble_eq_true rfl) ?_
    exact vx_ret (W.iret (v := 0) hx hb hr (fun t ht hW => ⟨⟨_, (vp_updL v (Int32.toNatClampNeg 0) (K 1 (ix h)).toInt64, (vU K 1 (ix h) b), V, U2), rfl, ⟨by rw [hc]; exact nI_k0, fun _ => ⟨vl_0 v _, rfl, rfl⟩, fun z => absurd hc z⟩, bp_at hK hN hP t ht hW⟩, hS.F ht⟩) hS.2.2 dL_setDrift_22)
abbrev rmL_setRun : Room := { frames := 8, cells := 2, slots := 12, locals := 135 }
theorem cd_setRun (h b : Int32) (h9 : ¬ stC h b 9 = 0) : stC h b 9 = 1 ∨ stC h b 9 = 2 := by
  revert h9
  unfold stC
  (repeat' split) <;> first | exact fun _ => Or.inl rfl | exact fun _ => Or.inr rfl | exact fun h => absurd rfl h
set_option maxHeartbeats 4000000 in
set_option maxRecDepth 100000 in
/-- setRun -/
theorem c_L_setRun (l : Launch) (D : va_G) (y : Nat → ClassId) (sz : Nat) (hst : l.stackTraces = false) (ao ac an ar : Nat → Nat) (v : FO) (K V U : FV) (h b : Int32) : LW l D y yL_setRun wsL_setRun rmL_setRun 2 12 [.ref (ac 0), .int h, .int b, .ref (ao 0)] ao ac an ar v K V U sz (stC h b 9) (stC h b 9) (K 2 (ix h)) (vU K 2 (ix h) b) V := by
  refine mXH (fun A => va_Qi (fun r9 (u : FO × FV × FV × FV) => r9 = nI (stC h b 9) ∧ (stC h b 9 = 0 → u.1 0 = (K 2 (ix h)).toInt64 ∧ u.2.1 = (vU K 2 (ix h) b) ∧ u.2.2.1 = V) ∧ (¬ stC h b 9 = 0 → u.2.1 = K ∧ u.2.2.1 = V)) (fun u t => Bp D y (lwW y ao ac an ar u.1 u.2.1 u.2.2.1 u.2.2.2) t) A) (fun A => vx_X (fun (_ : Unit) => False) (fun _ _ _ => True) A) (C := RL) (cc := cL_setRun) (maxL := 5) (ret := (some .int)) (hh := [(0, 10, 13, 13), (0, 10, 17, 15)]) (by decide) rfl rfl (Nat.le_of_ble_eq_true rfl) ?_
  intro p e s m a below meth c ls A Q hQ hsz hx hb hr hts hown hlocks htab hml hP hK hN hE hX hD hA hS hl
  rw [lwW_fst] at hD
  have hl : lv_has ls 5 [(0, .ref (ac 0)), (1, .int h), (2, .int b), (3, .ref (ao 0))] := hl
  refine lv_aload_n hx hb dL_setRun_0 rfl (lv_at hl 3 rfl) ?_
  refine lv_iconst (v := 0) hx hb dL_setRun_1 (by decide) ?_
  refine lv_aload_n hx hb dL_setRun_2 rfl (lv_at hl 0 rfl) ?_
  refine lv_iload_n hx hb dL_setRun_3 rfl (lv_at hl 1 rfl) ?_
  refine lv_iload_n hx hb dL_setRun_4 rfl (lv_at hl 2 rfl) ?_
  refine cX_V (S := FV) (As := [.int h, .int b]) (rest := [.int 0, .ref (ao 0)]) ⟨hx, hb, hml, hown, hts⟩ (c_X3_setRun l D y _ hst ac an ar K V U h b) (cwV 2 hts gL_setRun_X3_setRun rfl rfl rfl (by decide +kernel) ⟨Nat.le_of_ble_eq_true rfl, Nat.le_of_ble_eq_true rfl⟩) hK hN hE hX (P_r hP) (by rw [cmA_fst]; exact aD_r hD) hS hA (va_recv hK (P_r hP) (ci := 3) (q0 := 0) rfl (ap_l (wf_at (by decide) rfl))) rfl hl.1 rfl (Nat.le_of_ble_eq_true rfl) dL_setRun_5 ⟨Nat.le_of_ble_eq_true rfl, Nat.le_of_ble_eq_true rfl⟩ (fun hc ce q9 H locs hP9 hk9 hS h91 h92 h93 => ?_) (fun hc U2 H locs hP9 hk9 hS => ?_)
  · have hP : va_P D vwCl (lwW y ao ac an ar v K V U) H := fr_r hP (by rw [ou_fst, cmA_fst]; exact hD) hk9 hP9
    rcases cd_setRun h b hc with hcd | hcd
    · rw [hcd] at h93
      refine vx_catch (own := RL) (name := xIO) (E := xIO) hown [] ⟨0, 10, 13, 13⟩ [⟨0, 10, 17, 15⟩] (by rw [htab]; rfl) (fun z hz => by cases hz) (by decide) (by decide) (hts (.classLink RL 13 "java/lang/IndexOutOfBoundsException") (by decide +kernel)) (va_Nw.use rfl (hE.2.1 _ (List.mem_of_getElem? (i := 0) rfl))) h91 h92 h93 ?_
      refine lv_astore (lv' := [(4, .ref q9), (0, .ref (ac 0)), (1, .int h), (2, .int b), (3, .ref (ao 0))]) hx hb dL_setRun_13 hl (by decide) rfl (fun ls hl => ?_)
      refine lv_iconst (v := 1) hx hb dL_setRun_15 (by decide) ?_
      subst hQ
      refine W.widen (k := 2) (n := 12) (Nat.le_of_ble_eq_true rfl) (Nat.le_of_ble_eq_true rfl) ?_
      exact vx_ret (W.iret (v := 1) hx hb hr (fun t ht hW => ⟨⟨_, (v, K, V, U), rfl, ⟨by rw [hcd]; exact nI_k1, fun z => absurd z hc, fun _ => ⟨rfl, rfl⟩⟩, bp_at hK hN hP t ht hW⟩, hS.F ht⟩) hS.2.2 dL_setRun_16)
    · rw [hcd] at h93
      refine vx_catch (own := RL) (name := xIA) (E := xIA) hown [⟨0, 10, 13, 13⟩] ⟨0, 10, 17, 15⟩ [] (by rw [htab]; rfl) (fun z hz => by rw [List.mem_singleton] at hz; subst hz; exact Or.inr ⟨by decide, xIO, hts (.classLink RL 13 "java/lang/IndexOutOfBoundsException") (by decide +kernel), hE.2.2 _ (List.mem_of_getElem? (i := 2) rfl)⟩) (by decide) (by decide) (hts (.classLink RL 15 "java/lang/IllegalArgumentException") (by decide +kernel)) (va_Nw.use rfl (hE.2.1 _ (List.mem_of_getElem? (i := 1) rfl))) h91 h92 h93 ?_
      refine lv_astore (lv' := [(4, .ref q9), (0, .ref (ac 0)), (1, .int h), (2, .int b), (3, .ref (ao 0))]) hx hb dL_setRun_17 hl (by decide) rfl (fun ls hl => ?_)
      refine lv_iconst (v := 2) hx hb dL_setRun_19 (by decide) ?_
      subst hQ
      refine W.widen (k := 2) (n := 12) (Nat.le_of_ble_eq_true rfl) (Nat.le_of_ble_eq_true rfl) ?_
      exact vx_ret (W.iret (v := 2) hx hb hr (fun t ht hW => ⟨⟨_, (v, K, V, U), rfl, ⟨by rw [hcd]; exact nI_k2, fun z => absurd z hc, fun _ => ⟨rfl, rfl⟩⟩, bp_at hK hN hP t ht hW⟩, hS.F ht⟩) hS.2.2 dL_setRun_20)
  · have hP : va_P D vwCl (lwW y ao ac an ar v (vU K 2 (ix h) b) V U2) H := fr_r hP (by rw [ou_fst, cmA_fst]; exact hD) hk9 hP9
    refine lv_i2l (v := (K 2 (ix h)).toInt64) hx hb dL_setRun_8 rfl ?_
    refine va_last hx hb hK hP (aD_D hD (lwW_fst y ao ac an ar v (vU K 2 (ix h) b) V U2)) hS 0 2 (ap_l (wf_at (by decide) rfl)) rfl (show vp_in (0 : Int32) 1 from vp_in_nI (n := 0) (by decide) (by decide)) dL_setRun_9 (fun H locs hP _ hS => ?_)
    have hP : va_P D vwCl (lwW y ao ac an ar (vp_updL v (Int32.toNatClampNeg 0) (K 2 (ix h)).toInt64) (vU K 2 (ix h) b) V U2) H := P_eq (ap_set_l (show 0 < (ouW y ao v).length by rw [wf_len]; omega) (ou_set y ao v _)) hP
    refine lv_goto (tgt := 21) hx hb dL_setRun_10 (by decide) ?_
    refine lv_iconst (v := 0) hx hb dL_setRun_21 (by decide) ?_
    subst hQ
    refine W.widen (k := 2) (n := 12) (Nat.le_of_ble_eq_true rfl) (Nat.le_of_ble_eq_true rfl) ?_
    exact vx_ret (W.iret (v := 0) hx hb hr (fun t ht hW => ⟨⟨_, (vp_updL v (Int32.toNatClampNeg 0) (K 2 (ix h)).toInt64, (vU K 2 (ix h) b), V, U2), rfl, ⟨by rw [hc]; exact nI_k0, fun _ => ⟨vl_0 v _, rfl, rfl⟩, fun z => absurd hc z⟩, bp_at hK hN hP t ht hW⟩, hS.F ht⟩) hS.2.2 dL_setRun_22)
abbrev rmL_buy : Room := { frames := 8, cells := 3, slots := 18, locals := 135 }
theorem cd_buy (V : FV) (x n : Int32) (h9 : ¬ buC V x n = 0) : buC V x n = 1 ∨ buC V x n = 2 ∨ buC V x n = 3 := by
  revert h9
  unfold buC
  (repeat' split) <;> first | exact fun _ => Or.inl rfl | exact fun _ => Or.inr (Or.inl rfl) | exact fun _ => Or.inr (Or.inr rfl) | exact fun h => absurd rfl h
set_option maxHeartbeats 4000000 in
set_option maxRecDepth 100000 in
/-- buy -/
theorem c_L_buy (l : Launch) (D : va_G) (y : Nat → ClassId) (sz : Nat) (hst : l.stackTraces = false) (ao ac an ar : Nat → Nat) (v : FO) (K V U : FV) (x n : Int32) : LW l D y yL_buy wsL_buy rmL_buy 3 18 [.ref (ac 0), .int x, .int n, .ref (ao 0)] ao ac an ar v K V U sz (buC V x n) (buC V x n) (buV V x n 4 (ix x)) K (buV V x n) := by
  refine mXH (fun A => va_Qi (fun r9 (u : FO × FV × FV × FV) => r9 = nI (buC V x n) ∧ (buC V x n = 0 → u.1 0 = (buV V x n 4 (ix x)).toInt64 ∧ u.2.1 = K ∧ u.2.2.1 = (buV V x n)) ∧ (¬ buC V x n = 0 → u.2.1 = K ∧ u.2.2.1 = V)) (fun u t => Bp D y (lwW y ao ac an ar u.1 u.2.1 u.2.2.1 u.2.2.2) t) A) (fun A => vx_X (fun (_ : Unit) => False) (fun _ _ _ => True) A) (C := RL) (cc := cL_buy) (maxL := 5) (ret := (some .int)) (hh := [(0, 10, 13, 13), (0, 10, 17, 15), (0, 10, 21, 23)]) (by decide) rfl rfl (Nat.le_of_ble_eq_true rfl) ?_
  intro p e s m a below meth c ls A Q hQ hsz hx hb hr hts hown hlocks htab hml hP hK hN hE hX hD hA hS hl
  rw [lwW_fst] at hD
  have hl : lv_has ls 5 [(0, .ref (ac 0)), (1, .int x), (2, .int n), (3, .ref (ao 0))] := hl
  refine lv_aload_n hx hb dL_buy_0 rfl (lv_at hl 3 rfl) ?_
  refine lv_iconst (v := 0) hx hb dL_buy_1 (by decide) ?_
  refine lv_aload_n hx hb dL_buy_2 rfl (lv_at hl 0 rfl) ?_
  refine lv_iload_n hx hb dL_buy_3 rfl (lv_at hl 1 rfl) ?_
  refine lv_iload_n hx hb dL_buy_4 rfl (lv_at hl 2 rfl) ?_
  refine cX_V (S := FV) (As := [.int x, .int n]) (rest := [.int 0, .ref (ao 0)]) ⟨hx, hb, hml, hown, hts⟩ (c_X3_buy l D y _ hst ac an ar K V U x n) (cwV 2 hts gL_buy_X3_buy rfl rfl rfl (by decide +kernel) ⟨Nat.le_of_ble_eq_true rfl, Nat.le_of_ble_eq_true rfl⟩) hK hN hE hX (P_r hP) (by rw [cmA_fst]; exact aD_r hD) hS hA (va_recv hK (P_r hP) (ci := 3) (q0 := 0) rfl (ap_l (wf_at (by decide) rfl))) rfl hl.1 rfl (Nat.le_of_ble_eq_true rfl) dL_buy_5 ⟨Nat.le_of_ble_eq_true rfl, Nat.le_of_ble_eq_true rfl⟩ (fun hc ce q9 H locs hP9 hk9 hS h91 h92 h93 => ?_) (fun hc U2 H locs hP9 hk9 hS => ?_)
  · have hP : va_P D vwCl (lwW y ao ac an ar v K V U) H := fr_r hP (by rw [ou_fst, cmA_fst]; exact hD) hk9 hP9
    rcases cd_buy V x n hc with hcd | hcd | hcd
    · rw [hcd] at h93
      refine vx_catch (own := RL) (name := xIO) (E := xIO) hown [] ⟨0, 10, 13, 13⟩ [⟨0, 10, 17, 15⟩, ⟨0, 10, 21, 23⟩] (by rw [htab]; rfl) (fun z hz => by cases hz) (by decide) (by decide) (hts (.classLink RL 13 "java/lang/IndexOutOfBoundsException") (by decide +kernel)) (va_Nw.use rfl (hE.2.1 _ (List.mem_of_getElem? (i := 0) rfl))) h91 h92 h93 ?_
      refine lv_astore (lv' := [(4, .ref q9), (0, .ref (ac 0)), (1, .int x), (2, .int n), (3, .ref (ao 0))]) hx hb dL_buy_13 hl (by decide) rfl (fun ls hl => ?_)
      refine lv_iconst (v := 1) hx hb dL_buy_15 (by decide) ?_
      subst hQ
      refine W.widen (k := 3) (n := 18) (Nat.le_of_ble_eq_true rfl) (Nat.le_of_ble_eq_true rfl) ?_
      exact vx_ret (W.iret (v := 1) hx hb hr (fun t ht hW => ⟨⟨_, (v, K, V, U), rfl, ⟨by rw [hcd]; exact nI_k1, fun z => absurd z hc, fun _ => ⟨rfl, rfl⟩⟩, bp_at hK hN hP t ht hW⟩, hS.F ht⟩) hS.2.2 dL_buy_16)
    · rw [hcd] at h93
      refine vx_catch (own := RL) (name := xIA) (E := xIA) hown [⟨0, 10, 13, 13⟩] ⟨0, 10, 17, 15⟩ [⟨0, 10, 21, 23⟩] (by rw [htab]; rfl) (fun z hz => by rw [List.mem_singleton] at hz; subst hz; exact Or.inr ⟨by decide, xIO, hts (.classLink RL 13 "java/lang/IndexOutOfBoundsException") (by decide +kernel), hE.2.2 _ (List.mem_of_getElem? (i := 2) rfl)⟩) (by decide) (by decide) (hts (.classLink RL 15 "java/lang/IllegalArgumentException") (by decide +kernel)) (va_Nw.use rfl (hE.2.1 _ (List.mem_of_getElem? (i := 1) rfl))) h91 h92 h93 ?_
      refine lv_astore (lv' := [(4, .ref q9), (0, .ref (ac 0)), (1, .int x), (2, .int n), (3, .ref (ao 0))]) hx hb dL_buy_17 hl (by decide) rfl (fun ls hl => ?_)
      refine lv_iconst (v := 2) hx hb dL_buy_19 (by decide) ?_
      subst hQ
      refine W.widen (k := 3) (n := 18) (Nat.le_of_ble_eq_true rfl) (Nat.le_of_ble_eq_true rfl) ?_
      exact vx_ret (W.iret (v := 2) hx hb hr (fun t ht hW => ⟨⟨_, (v, K, V, U), rfl, ⟨by rw [hcd]; exact nI_k2, fun z => absurd z hc, fun _ => ⟨rfl, rfl⟩⟩, bp_at hK hN hP t ht hW⟩, hS.F ht⟩) hS.2.2 dL_buy_20)
    · rw [hcd] at h93
      refine vx_catch (own := RL) (name := xIS) (E := xIS) hown [⟨0, 10, 13, 13⟩, ⟨0, 10, 17, 15⟩] ⟨0, 10, 21, 23⟩ [] (by rw [htab]; rfl) (fun z hz => by rcases List.mem_cons.mp hz with hz | hz; (subst hz; exact Or.inr ⟨by decide, xIO, hts (.classLink RL 13 "java/lang/IndexOutOfBoundsException") (by decide +kernel), hE.2.2 _ (List.mem_of_getElem? (i := 4) rfl)⟩); (rw [List.mem_singleton] at hz; subst hz; exact Or.inr ⟨by decide, xIA, hts (.classLink RL 15 "java/lang/IllegalArgumentException") (by decide +kernel), hE.2.2 _ (List.mem_of_getElem? (i := 5) rfl)⟩)) (by decide) (by decide) (hts (.classLink RL 23 "java/lang/IllegalStateException") (by decide +kernel)) (va_Nw.use rfl (hE.2.1 _ (List.mem_of_getElem? (i := 2) rfl))) h91 h92 h93 ?_
      refine lv_astore (lv' := [(4, .ref q9), (0, .ref (ac 0)), (1, .int x), (2, .int n), (3, .ref (ao 0))]) hx hb dL_buy_21 hl (by decide) rfl (fun ls hl => ?_)
      refine lv_iconst (v := 3) hx hb dL_buy_23 (by decide) ?_
      subst hQ
      refine W.widen (k := 3) (n := 18) (Nat.le_of_ble_eq_true rfl) (Nat.le_of_ble_eq_true rfl) ?_
      exact vx_ret (W.iret (v := 3) hx hb hr (fun t ht hW => ⟨⟨_, (v, K, V, U), rfl, ⟨by rw [hcd]; exact nI_k3, fun z => absurd z hc, fun _ => ⟨rfl, rfl⟩⟩, bp_at hK hN hP t ht hW⟩, hS.F ht⟩) hS.2.2 dL_buy_24)
  · have hP : va_P D vwCl (lwW y ao ac an ar v K (buV V x n) U2) H := fr_r hP (by rw [ou_fst, cmA_fst]; exact hD) hk9 hP9
    refine lv_i2l (v := (buV V x n 4 (ix x)).toInt64) hx hb dL_buy_8 rfl ?_
    refine va_last hx hb hK hP (aD_D hD (lwW_fst y ao ac an ar v K (buV V x n) U2)) hS 0 2 (ap_l (wf_at (by decide) rfl)) rfl (show vp_in (0 : Int32) 1 from vp_in_nI (n := 0) (by decide) (by decide)) dL_buy_9 (fun H locs hP _ hS => ?_)
    have hP : va_P D vwCl (lwW y ao ac an ar (vp_updL v (Int32.toNatClampNeg 0) (buV V x n 4 (ix x)).toInt64) K (buV V x n) U2) H := P_eq (ap_set_l (show 0 < (ouW y ao v).length by rw [wf_len]; omega) (ou_set y ao v _)) hP
    refine lv_goto (tgt := 25) hx hb dL_buy_10 (by decide) ?_
    refine lv_iconst (v := 0) hx hb dL_buy_25 (by decide) ?_
    subst hQ
    refine W.widen (k := 3) (n := 18) (Nat.le_of_ble_eq_true rfl) (Nat.le_of_ble_eq_true rfl) ?_
    exact vx_ret (W.iret (v := 0) hx hb hr (fun t ht hW => ⟨⟨_, (vp_updL v (Int32.toNatClampNeg 0) (buV V x n 4 (ix x)).toInt64, K, (buV V x n), U2), rfl, ⟨by rw [hc]; exact nI_k0, fun _ => ⟨vl_0 v _, rfl, rfl⟩, fun z => absurd hc z⟩, bp_at hK hN hP t ht hW⟩, hS.F ht⟩) hS.2.2 dL_buy_26)
abbrev rmL_make : Room := { frames := 8, cells := 4, slots := 24, locals := 135 }
theorem cd_make (V : FV) (xa xb xc : Int32) (h9 : ¬ mkC V xa xb xc = 0) : mkC V xa xb xc = 1 ∨ mkC V xa xb xc = 2 ∨ mkC V xa xb xc = 3 := by
  revert h9
  unfold mkC
  (repeat' split) <;> first | exact fun _ => Or.inl rfl | exact fun _ => Or.inr (Or.inl rfl) | exact fun _ => Or.inr (Or.inr rfl) | exact fun h => absurd rfl h
set_option maxHeartbeats 4000000 in
set_option maxRecDepth 100000 in
/-- make -/
theorem c_L_make (l : Launch) (D : va_G) (y : Nat → ClassId) (sz : Nat) (hst : l.stackTraces = false) (ao ac an ar : Nat → Nat) (v : FO) (K V U : FV) (xa xb xc : Int32) (hM : vp_in (V 0 2) 7) : LW l D y yL_make wsL_make rmL_make 4 24 [.ref (ac 0), .int xa, .int xb, .int xc, .ref (ao 0)] ao ac an ar v K V U sz (mkC V xa xb xc) (mkC V xa xb xc) (V 0 2) K (mkF V xa xb xc) := by
  refine mXH (fun A => va_Qi (fun r9 (u : FO × FV × FV × FV) => r9 = nI (mkC V xa xb xc) ∧ (mkC V xa xb xc = 0 → u.1 0 = (V 0 2).toInt64 ∧ u.2.1 = K ∧ u.2.2.1 = (mkF V xa xb xc)) ∧ (¬ mkC V xa xb xc = 0 → u.2.1 = K ∧ u.2.2.1 = V)) (fun u t => Bp D y (lwW y ao ac an ar u.1 u.2.1 u.2.2.1 u.2.2.2) t) A) (fun A => vx_X (fun (_ : Unit) => False) (fun _ _ _ => True) A) (C := RL) (cc := cL_make) (maxL := 6) (ret := (some .int)) (hh := [(0, 12, 15, 13), (0, 12, 19, 15), (0, 12, 23, 23)]) (by decide) rfl rfl (Nat.le_of_ble_eq_true rfl) ?_
  intro p e s m a below meth c ls A Q hQ hsz hx hb hr hts hown hlocks htab hml hP hK hN hE hX hD hA hS hl
  rw [lwW_fst] at hD
  have hl : lv_has ls 6 [(0, .ref (ac 0)), (1, .int xa), (2, .int xb), (3, .int xc), (4, .ref (ao 0))] := hl
  refine lv_aload hx hb dL_make_0 (lv_at hl 4 rfl) ?_
  refine lv_iconst (v := 0) hx hb dL_make_2 (by decide) ?_
  refine lv_aload_n hx hb dL_make_3 rfl (lv_at hl 0 rfl) ?_
  refine lv_iload_n hx hb dL_make_4 rfl (lv_at hl 1 rfl) ?_
  refine lv_iload_n hx hb dL_make_5 rfl (lv_at hl 2 rfl) ?_
  refine lv_iload_n hx hb dL_make_6 rfl (lv_at hl 3 rfl) ?_
  refine cX_V (S := FV) (As := [.int xa, .int xb, .int xc]) (rest := [.int 0, .ref (ao 0)]) ⟨hx, hb, hml, hown, hts⟩ (c_X3_make l D y _ hst ac an ar K V U xa xb xc hM) (cwV 3 hts gL_make_X3_make rfl rfl rfl (by decide +kernel) ⟨Nat.le_of_ble_eq_true rfl, Nat.le_of_ble_eq_true rfl⟩) hK hN hE hX (P_r hP) (by rw [cmA_fst]; exact aD_r hD) hS hA (va_recv hK (P_r hP) (ci := 3) (q0 := 0) rfl (ap_l (wf_at (by decide) rfl))) rfl hl.1 rfl (Nat.le_of_ble_eq_true rfl) dL_make_7 ⟨Nat.le_of_ble_eq_true rfl, Nat.le_of_ble_eq_true rfl⟩ (fun hc ce q9 H locs hP9 hk9 hS h91 h92 h93 => ?_) (fun hc U2 H locs hP9 hk9 hS => ?_)
  · have hP : va_P D vwCl (lwW y ao ac an ar v K V U) H := fr_r hP (by rw [ou_fst, cmA_fst]; exact hD) hk9 hP9
    rcases cd_make V xa xb xc hc with hcd | hcd | hcd
    · rw [hcd] at h93
      refine vx_catch (own := RL) (name := xIO) (E := xIO) hown [] ⟨0, 12, 15, 13⟩ [⟨0, 12, 19, 15⟩, ⟨0, 12, 23, 23⟩] (by rw [htab]; rfl) (fun z hz => by cases hz) (by decide) (by decide) (hts (.classLink RL 13 "java/lang/IndexOutOfBoundsException") (by decide +kernel)) (va_Nw.use rfl (hE.2.1 _ (List.mem_of_getElem? (i := 0) rfl))) h91 h92 h93 ?_
      refine lv_astore (lv' := [(5, .ref q9), (0, .ref (ac 0)), (1, .int xa), (2, .int xb), (3, .int xc), (4, .ref (ao 0))]) hx hb dL_make_15 hl (by decide) rfl (fun ls hl => ?_)
      refine lv_iconst (v := 1) hx hb dL_make_17 (by decide) ?_
      subst hQ
      refine W.widen (k := 4) (n := 24) (Nat.le_of_ble_eq_true rfl) (Nat.le_of_ble_eq_true rfl) ?_
      exact vx_ret (W.iret (v := 1) hx hb hr (fun t ht hW => ⟨⟨_, (v, K, V, U), rfl, ⟨by rw [hcd]; exact nI_k1, fun z => absurd z hc, fun _ => ⟨rfl, rfl⟩⟩, bp_at hK hN hP t ht hW⟩, hS.F ht⟩) hS.2.2 dL_make_18)
    · rw [hcd] at h93
      refine vx_catch (own := RL) (name := xIA) (E := xIA) hown [⟨0, 12, 15, 13⟩] ⟨0, 12, 19, 15⟩ [⟨0, 12, 23, 23⟩] (by rw [htab]; rfl) (fun z hz => by rw [List.mem_singleton] at hz; subst hz; exact Or.inr ⟨by decide, xIO, hts (.classLink RL 13 "java/lang/IndexOutOfBoundsException") (by decide +kernel), hE.2.2 _ (List.mem_of_getElem? (i := 2) rfl)⟩) (by decide) (by decide) (hts (.classLink RL 15 "java/lang/IllegalArgumentException") (by decide +kernel)) (va_Nw.use rfl (hE.2.1 _ (List.mem_of_getElem? (i := 1) rfl))) h91 h92 h93 ?_
      refine lv_astore (lv' := [(5, .ref q9), (0, .ref (ac 0)), (1, .int xa), (2, .int xb), (3, .int xc), (4, .ref (ao 0))]) hx hb dL_make_19 hl (by decide) rfl (fun ls hl => ?_)
      refine lv_iconst (v := 2) hx hb dL_make_21 (by decide) ?_
      subst hQ
      refine W.widen (k := 4) (n := 24) (Nat.le_of_ble_eq_true rfl) (Nat.le_of_ble_eq_true rfl) ?_
      exact vx_ret (W.iret (v := 2) hx hb hr (fun t ht hW => ⟨⟨_, (v, K, V, U), rfl, ⟨by rw [hcd]; exact nI_k2, fun z => absurd z hc, fun _ => ⟨rfl, rfl⟩⟩, bp_at hK hN hP t ht hW⟩, hS.F ht⟩) hS.2.2 dL_make_22)
    · rw [hcd] at h93
      refine vx_catch (own := RL) (name := xIS) (E := xIS) hown [⟨0, 12, 15, 13⟩, ⟨0, 12, 19, 15⟩] ⟨0, 12, 23, 23⟩ [] (by rw [htab]; rfl) (fun z hz => by rcases List.mem_cons.mp hz with hz | hz; (subst hz; exact Or.inr ⟨by decide, xIO, hts (.classLink RL 13 "java/lang/IndexOutOfBoundsException") (by decide +kernel), hE.2.2 _ (List.mem_of_getElem? (i := 4) rfl)⟩); (rw [List.mem_singleton] at hz; subst hz; exact Or.inr ⟨by decide, xIA, hts (.classLink RL 15 "java/lang/IllegalArgumentException") (by decide +kernel), hE.2.2 _ (List.mem_of_getElem? (i := 5) rfl)⟩)) (by decide) (by decide) (hts (.classLink RL 23 "java/lang/IllegalStateException") (by decide +kernel)) (va_Nw.use rfl (hE.2.1 _ (List.mem_of_getElem? (i := 2) rfl))) h91 h92 h93 ?_
      refine lv_astore (lv' := [(5, .ref q9), (0, .ref (ac 0)), (1, .int xa), (2, .int xb), (3, .int xc), (4, .ref (ao 0))]) hx hb dL_make_23 hl (by decide) rfl (fun ls hl => ?_)
      refine lv_iconst (v := 3) hx hb dL_make_25 (by decide) ?_
      subst hQ
      refine W.widen (k := 4) (n := 24) (Nat.le_of_ble_eq_true rfl) (Nat.le_of_ble_eq_true rfl) ?_
      exact vx_ret (W.iret (v := 3) hx hb hr (fun t ht hW => ⟨⟨_, (v, K, V, U), rfl, ⟨by rw [hcd]; exact nI_k3, fun z => absurd z hc, fun _ => ⟨rfl, rfl⟩⟩, bp_at hK hN hP t ht hW⟩, hS.F ht⟩) hS.2.2 dL_make_26)
  · have hP : va_P D vwCl (lwW y ao ac an ar v K (mkF V xa xb xc) U2) H := fr_r hP (by rw [ou_fst, cmA_fst]; exact hD) hk9 hP9
    refine lv_i2l (v := (V 0 2).toInt64) hx hb dL_make_10 rfl ?_
    refine va_last hx hb hK hP (aD_D hD (lwW_fst y ao ac an ar v K (mkF V xa xb xc) U2)) hS 0 2 (ap_l (wf_at (by decide) rfl)) rfl (show vp_in (0 : Int32) 1 from vp_in_nI (n := 0) (by decide) (by decide)) dL_make_11 (fun H locs hP _ hS => ?_)
    have hP : va_P D vwCl (lwW y ao ac an ar (vp_updL v (Int32.toNatClampNeg 0) (V 0 2).toInt64) K (mkF V xa xb xc) U2) H := P_eq (ap_set_l (show 0 < (ouW y ao v).length by rw [wf_len]; omega) (ou_set y ao v _)) hP
    refine lv_goto (tgt := 27) hx hb dL_make_12 (by decide) ?_
    refine lv_iconst (v := 0) hx hb dL_make_27 (by decide) ?_
    subst hQ
    refine W.widen (k := 4) (n := 24) (Nat.le_of_ble_eq_true rfl) (Nat.le_of_ble_eq_true rfl) ?_
    exact vx_ret (W.iret (v := 0) hx hb hr (fun t ht hW => ⟨⟨_, (vp_updL v (Int32.toNatClampNeg 0) (V 0 2).toInt64, K, (mkF V xa xb xc), U2), rfl, ⟨by rw [hc]; exact nI_k0, fun _ => ⟨vl_0 v _, rfl, rfl⟩, fun z => absurd hc z⟩, bp_at hK hN hP t ht hW⟩, hS.F ht⟩) hS.2.2 dL_make_28)
