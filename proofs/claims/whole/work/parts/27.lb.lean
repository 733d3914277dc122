abbrev rmL_net : Room := { frames := 8, cells := 4, slots := 24, locals := 134 }
theorem cd_net (V : FV) (xa xb : Int32) (h9 : ¬ ntC V xa xb = 0) : ntC V xa xb = 1 ∨ ntC V xa xb = 2 ∨ ntC V xa xb = 3 := by
  revert h9
  unfold ntC
  (repeat' split) <;> first | exact fun _ => Or.inl rfl | exact fun _ => Or.inr (Or.inl rfl) | exact fun _ => Or.inr (Or.inr rfl) | exact fun h => absurd rfl h
set_option maxHeartbeats 4000000 in
set_option maxRecDepth 100000 in
/-- net -/
theorem c_L_net (l : Launch) (D : va_G) (y : Nat → ClassId) (sz : Nat) (hst : l.stackTraces = false) (ao ac an ar : Nat → Nat) (v : FO) (K V U : FV) (xa xb : Int32) (hM : vp_in (V 0 2) 7) (hT : ntC V xa xb = 0 → vp_in (V 0 3) 3) : LW l D y yL_net wsL_net rmL_net 4 24 [.ref (ac 0), .int xa, .int xb, .ref (ao 0)] ao ac an ar v K V U sz (ntC V xa xb) (ntC V xa xb) (V 0 3) K (tiF V xa xb) := by
  refine mXH (fun A => va_Qi (fun r9 (u : FO × FV × FV × FV) => r9 = nI (ntC V xa xb) ∧ (ntC V xa xb = 0 → u.1 0 = (V 0 3).toInt64 ∧ u.2.1 = K ∧ u.2.2.1 = (tiF V xa xb)) ∧ (¬ ntC V xa xb = 0 → u.2.1 = K ∧ u.2.2.1 = V)) (fun u t => Bp D y (lwW y ao ac an ar u.1 u.2.1 u.2.2.1 u.2.2.2) t) A) (fun A => vx_X (fun (_ : Unit) => False) (fun _ _ _ => True) A) (C := RL) (cc := cL_net) (maxL := 5) (ret := (some .int)) (hh := [(0, 10, 13, 13), (0, 10, 17, 15), (0, 10, 21, 23)]) (by decide) rfl rfl (Nat.le_of_ble_eq_true rfl) ?_
  intro p e s m a below meth c ls A Q hQ hsz hx hb hr hts hown hlocks htab hml hP hK hN hE hX hD hA hS hl
  rw [lwW_fst] at hD
  have hl : lv_has ls 5 [(0, .ref (ac 0)), (1, .int xa), (2, .int xb), (3, .ref (ao 0))] := hl
  refine lv_aload_n hx hb dL_net_0 rfl (lv_at hl 3 rfl) ?_
  refine lv_iconst (v := 0) hx hb dL_net_1 (by decide) ?_
  refine lv_aload_n hx hb dL_net_2 rfl (lv_at hl 0 rfl) ?_
  refine lv_iload_n hx hb dL_net_3 rfl (lv_at hl 1 rfl) ?_
  refine lv_iload_n hx hb dL_net_4 rfl (lv_at hl 2 rfl) ?_
  refine cX_V (S := FV) (As := [.int xa, .int xb]) (rest := [.int 0, .ref (ao 0)]) ⟨hx, hb, hml, hown, hts⟩ (c_X3_net l D y _ hst ac an ar K V U xa xb hM hT) (cwV 2 hts gL_net_X3_net rfl rfl rfl (by decide +kernel) ⟨Nat.le_of_ble_eq_true rfl, Nat.le_of_ble_eq_true rfl⟩) hK hN hE hX (P_r hP) (by rw [cmA_fst]; exact aD_r hD) hS hA (va_recv hK (P_r hP) (ci := 3) (q0 := 0) rfl (ap_l (wf_at (by decide) rfl))) rfl hl.1 rfl (Nat.le_of_ble_eq_true rfl) dL_net_5 ⟨Nat.le_of_ble_eq_true rfl, Nat.le_of_ble_eq_true rfl⟩ (fun hc ce q9 H locs hP9 hk9 hS h91 h92 h93 => ?_) (fun hc U2 H locs hP9 hk9 hS => ?_)
  · have hP : va_P D vwCl (lwW y ao ac an ar v K V U) H := fr_r hP (by rw [ou_fst, cmA_fst]; exact hD) hk9 hP9
    rcases cd_net V xa xb hc with hcd | hcd | hcd
    · rw [hcd] at h93
      refine vx_catch (own := RL) (name := xIO) (E := xIO) hown [] ⟨0, 10, 13, 13⟩ [⟨0, 10, 17, 15⟩, ⟨0, 10, 21, 23⟩] (by rw [htab]; rfl) (fun z hz => by cases hz) (by decide) (by decide) (hts (.classLink RL 13 "java/lang/IndexOutOfBoundsException") (by decide +kernel)) (va_Nw.use rfl (hE.2.1 _ (List.mem_of_getElem? (i := 0) rfl))) h91 h92 h93 ?_
      refine lv_astore (lv' := [(4, .ref q9), (0, .ref (ac 0)), (1, .int xa), (2, .int xb), (3, .ref (ao 0))]) hx hb dL_net_13 hl (by decide) rfl (fun ls hl => ?_)
      refine lv_iconst (v := 1) hx hb dL_net_15 (by decide) ?_
      subst hQ
      refine W.widen (k := 4) (n := 24) (Nat.le_of_ble_eq_true rfl) (Nat.le_of_ble_eq_true rfl) ?_
      exact vx_ret (W.iret (v := 1) hx hb hr (fun t ht hW => ⟨⟨_, (v, K, V, U), rfl, ⟨by rw [hcd]; exact nI_k1, fun z => absurd z hc, fun _ => ⟨rfl, rfl⟩⟩, bp_at hK hN hP t ht hW⟩, hS.F ht⟩) hS.2.2 dL_net_16)
    · rw [hcd] at h93
      refine vx_catch (own := RL) (name := xIA) (E := xIA) hown [⟨0, 10, 13, 13⟩] ⟨0, 10, 17, 15⟩ [⟨0, 10, 21, 23⟩] (by rw [htab]; rfl) (fun z hz => by rw [List.mem_singleton] at hz; subst hz; exact Or.inr ⟨by decide, xIO, hts (.classLink RL 13 "java/lang/IndexOutOfBoundsException") (by decide +kernel), hE.2.2 _ (List.mem_of_getElem? (i := 2) rfl)⟩) (by decide) (by decide) (hts (.classLink RL 15 "java/lang/IllegalArgumentException") (by decide +kernel)) (va_Nw.use rfl (hE.2.1 _ (List.mem_of_getElem? (i := 1) rfl))) h91 h92 h93 ?_
      refine lv_astore (lv' := [(4, .ref q9), (0, .ref (ac 0)), (1, .int xa), (2, .int xb), (3, .ref (ao 0))]) hx hb dL_net_17 hl (by decide) rfl (fun ls hl => ?_)
      refine lv_iconst (v := 2) hx hb dL_net_19 (by decide) ?_
      subst hQ
      refine W.widen (k := 4) (n := 24) (Nat.le_of_ble_eq_true rfl) (Nat.le_of_ble_eq_true rfl) ?_
      exact vx_ret (W.iret (v := 2) hx hb hr (fun t ht hW => ⟨⟨_, (v, K, V, U), rfl, ⟨by rw [hcd]; exact nI_k2, fun z => absurd z hc, fun _ => ⟨rfl, rfl⟩⟩, bp_at hK hN hP t ht hW⟩, hS.F ht⟩) hS.2.2 dL_net_20)
    · rw [hcd] at h93
      refine vx_catch (own := RL) (name := xIS) (E := xIS) hown [⟨0, 10, 13, 13⟩, ⟨0, 10, 17, 15⟩] ⟨0, 10, 21, 23⟩ [] (by rw [htab]; rfl) (fun z hz => by rcases List.mem_cons.mp hz with hz | hz; (subst hz; exact Or.inr ⟨by decide, xIO, hts (.classLink RL 13 "java/lang/IndexOutOfBoundsException") (by decide +kernel), hE.2.2 _ (List.mem_of_getElem? (i := 4) rfl)⟩); (rw [List.mem_singleton] at hz; subst hz; exact Or.inr ⟨by decide, xIA, hts (.classLink RL 15 "java/lang/IllegalArgumentException") (by decide +kernel), hE.2.2 _ (List.mem_of_getElem? (i := 5) rfl)⟩)) (by decide) (by decide) (hts (.classLink RL 23 "java/lang/IllegalStateException") (by decide +kernel)) (va_Nw.use rfl (hE.2.1 _ (List.mem_of_getElem? (i := 2) rfl))) h91 h92 h93 ?_
      refine lv_astore (lv' := [(4, .ref q9), (0, .ref (ac 0)), (1, .int xa), (2, .int xb), (3, .ref (ao 0))]) hx hb dL_net_21 hl (by decide) rfl (fun ls hl => ?_)
      refine lv_iconst (v := 3) hx hb dL_net_23 (by decide) ?_
      subst hQ
      refine W.widen (k := 4) (n := 24) (Nat.le_of_ble_eq_true rfl) (Nat.le_of_ble_eq_true rfl) ?_
      exact vx_ret (W.iret (v := 3) hx hb hr (fun t ht hW => ⟨⟨_, (v, K, V, U), rfl, ⟨by rw [hcd]; exact nI_k3, fun z => absurd z hc, fun _ => ⟨rfl, rfl⟩⟩, bp_at hK hN hP t ht hW⟩, hS.F ht⟩) hS.2.2 dL_net_24)
  · have hP : va_P D vwCl (lwW y ao ac an ar v K (tiF V xa xb) U2) H := fr_r hP (by rw [ou_fst, cmA_fst]; exact hD) hk9 hP9
    refine lv_i2l (v := (V 0 3).toInt64) hx hb dL_net_8 rfl ?_
    refine va_last hx hb hK hP (aD_D hD (lwW_fst y ao ac an ar v K (tiF V xa xb) U2)) hS 0 2 (ap_l (wf_at (by decide) rfl)) rfl (show vp_in (0 : Int32) 1 from vp_in_nI (n := 0) (by decide) (by decide)) dL_net_9 (fun H locs hP _ hS => ?_)
    have hP : va_P D vwCl (lwW y ao ac an ar (vp_updL v (Int32.toNatClampNeg 0) (V 0 3).toInt64) K (tiF V xa xb) U2) H := P_eq (ap_set_l (show 0 < (ouW y ao v).length by rw [wf_len]; omega) (ou_set y ao v _)) hP
    refine lv_goto (tgt := 25) hx hb dL_net_10 (by decide) ?_
    refine lv_iconst (v := 0) hx hb dL_net_25 (by decide) ?_
    subst hQ
    refine W.widen (k := 4) (n := 24) (Nat.le_of_ble_eq_true rfl) (Nat.le_of_ble_eq_true rfl) ?_
    exact vx_ret (W.iret (v := 0) hx hb hr (fun t ht hW => ⟨⟨_, (vp_updL v (Int32.toNatClampNeg 0) (V 0 3).toInt64, K, (tiF V xa xb), U2), rfl, ⟨by rw [hc]; exact nI_k0, fun _ => ⟨vl_0 v _, rfl, rfl⟩, fun z => absurd hc z⟩, bp_at hK hN hP t ht hW⟩, hS.F ht⟩) hS.2.2 dL_net_26)
abbrev rmL_send : Room := { frames := 8, cells := 2, slots := 12, locals := 136 }
theorem cd_send (V : FV) (xa g : Int32) (h9 : ¬ seC V xa g = 0) : seC V xa g = 1 := by
  revert h9
  unfold seC
  (repeat' split) <;> first | exact fun _ => rfl | exact fun h => absurd rfl h
set_option maxHeartbeats 4000000 in
set_option maxRecDepth 100000 in
/-- send -/
theorem c_L_send (l : Launch) (D : va_G) (y : Nat → ClassId) (sz : Nat) (hst : l.stackTraces = false) (ao ac an ar : Nat → Nat) (v : FO) (K V U : FV) (xa g : Int32) (hM : vp_in (V 0 2) 7) : LW l D y yL_send wsL_send rmL_send 2 12 [.ref (ac 0), .int xa, .int g, .ref (ao 0)] ao ac an ar v K V U sz (seC V xa g) (seC V xa g) (V (ix xa + 5) 4) K (vU V (ix xa + 5) 4 g) := by
  refine mXH (fun A => va_Qi (fun r9 (u : FO × FV × FV × FV) => r9 = nI (seC V xa g) ∧ (seC V xa g = 0 → u.1 0 = (V (ix xa + 5) 4).toInt64 ∧ u.2.1 = K ∧ u.2.2.1 = (vU V (ix xa + 5) 4 g)) ∧ (¬ seC V xa g = 0 → u.2.1 = K ∧ u.2.2.1 = V)) (fun u t => Bp D y (lwW y ao ac an ar u.1 u.2.1 u.2.2.1 u.2.2.2) t) A) (fun A => vx_X (fun (_ : Unit) => False) (fun _ _ _ => True) A) (C := RL) (cc := cL_send) (maxL := 5) (ret := (some .int)) (hh := [(0, 10, 13, 13)]) (by decide) rfl rfl (Nat.le_of_ble_eq_true rfl) ?_
  intro p e s m a below meth c ls A Q hQ hsz hx hb hr hts hown hlocks htab hml hP hK hN hE hX hD hA hS hl
  rw [lwW_fst] at hD
  have hl : lv_has ls 5 [(0, .ref (ac 0)), (1, .int xa), (2, .int g), (3, .ref (ao 0))] := hl
  refine lv_aload_n hx hb dL_send_0 rfl (lv_at hl 3 rfl) ?_
  refine lv_iconst (v := 0) hx hb dL_send_1 (by decide) ?_
  refine lv_aload_n hx hb dL_send_2 rfl (lv_at hl 0 rfl) ?_
  refine lv_iload_n hx hb dL_send_3 rfl (lv_at hl 1 rfl) ?_
  refine lv_iload_n hx hb dL_send_4 rfl (lv_at hl 2 rfl) ?_
  refine cX_V (S := FV) (As := [.int xa, .int g]) (rest := [.int 0, .ref (ao 0)]) ⟨hx, hb, hml, hown, hts⟩ (c_X3_send l D y _ hst ac an ar K V U xa g hM) (cwV 2 hts gL_send_X3_send rfl rfl rfl (by decide +kernel) ⟨Nat.le_of_ble_eq_true rfl, Nat.le_of_ble_eq_true rfl⟩) hK hN hE hX (P_r hP) (by rw [cmA_fst]; exact aD_r hD) hS hA (va_recv hK (P_r hP) (ci := 3) (q0 := 0) rfl (ap_l (wf_at (by decide) rfl))) rfl hl.1 rfl (Nat.le_of_ble_eq_true rfl) dL_send_5 ⟨Nat.le_of_ble_eq_true rfl, Nat.le_of_ble_eq_true rfl⟩ (fun hc ce q9 H locs hP9 hk9 hS h91 h92 h93 => ?_) (fun hc U2 H locs hP9 hk9 hS => ?_)
  · have hP : va_P D vwCl (lwW y ao ac an ar v K V U) H := fr_r hP (by rw [ou_fst, cmA_fst]; exact hD) hk9 hP9
    rcases cd_send V xa g hc with hcd
    rw [hcd] at h93
    refine vx_catch (own := RL) (name := xIO) (E := xIO) hown [] ⟨0, 10, 13, 13⟩ [] (by rw [htab]; rfl) (fun z hz => by cases hz) (by decide) (by decide) (hts (.classLink RL 13 "java/lang/IndexOutOfBoundsException") (by decide +kernel)) (va_Nw.use rfl (hE.2.1 _ (List.mem_of_getElem? (i := 0) rfl))) h91 h92 h93 ?_
    refine lv_astore (lv' := [(4, .ref q9), (0, .ref (ac 0)), (1, .int xa), (2, .int g), (3, .ref (ao 0))]) hx hb dL_send_13 hl (by decide) rfl (fun ls hl => ?_)
    refine lv_iconst (v := 1) hx hb dL_send_15 (by decide) ?_
    subst hQ
    refine W.widen (k := 2) (n := 12) (Nat.le_of_ble_eq_true rfl) (Nat.le_of_ble_eq_true rfl) ?_
    exact vx_ret (W.iret (v := 1) hx hb hr (fun t ht hW => ⟨⟨_, (v, K, V, U), rfl, ⟨by rw [hcd]; exact nI_k1, fun z => absurd z hc, fun _ => ⟨rfl, rfl⟩⟩, bp_at hK hN hP t ht hW⟩, hS.F ht⟩) hS.2.2 dL_send_16)
  · have hP : va_P D vwCl (lwW y ao ac an ar v K (vU V (ix xa + 5) 4 g) U2) H := fr_r hP (by rw [ou_fst, cmA_fst]; exact hD) hk9 hP9
    refine lv_i2l (v := (V (ix xa + 5) 4).toInt64) hx hb dL_send_8 rfl ?_
    refine va_last hx hb hK hP (aD_D hD (lwW_fst y ao ac an ar v K (vU V (ix xa + 5) 4 g) U2)) hS 0 2 (ap_l (wf_at (by decide) rfl)) rfl (show vp_in (0 : Int32) 1 from vp_in_nI (n := 0) (by decide) (by decide)) dL_send_9 (fun H locs hP _ hS => ?_)
    have hP : va_P D vwCl (lwW y ao ac an ar (vp_updL v (Int32.toNatClampNeg 0) (V (ix xa + 5) 4).toInt64) K (vU V (ix xa + 5) 4 g) U2) H := P_eq (ap_set_l (show 0 < (ouW y ao v).length by rw [wf_len]; omega) (ou_set y ao v _)) hP
    refine lv_goto (tgt := 17) hx hb dL_send_10 (by decide) ?_
    refine lv_iconst (v := 0) hx hb dL_send_17 (by decide) ?_
    subst hQ
    refine W.widen (k := 2) (n := 12) (Nat.le_of_ble_eq_true rfl) (Nat.le_of_ble_eq_true rfl) ?_
    exact vx_ret (W.iret (v := 0) hx hb hr (fun t ht hW => ⟨⟨_, (vp_updL v (Int32.toNatClampNeg 0) (V (ix xa + 5) 4).toInt64, K, (vU V (ix xa + 5) 4 g), U2), rfl, ⟨by rw [hc]; exact nI_k0, fun _ => ⟨vl_0 v _, rfl, rfl⟩, fun z => absurd hc z⟩, bp_at hK hN hP t ht hW⟩, hS.F ht⟩) hS.2.2 dL_send_18)
abbrev rmL_tar : Room := { frames := 8, cells := 2, slots := 12, locals := 135 }
theorem cd_tar (V : FV) (xa : Int32) (h9 : ¬ taC V xa = 0) : taC V xa = 1 ∨ taC V xa = 3 := by
  revert h9
  unfold taC
  (repeat' split) <;> first | exact fun _ => Or.inl rfl | exact fun _ => Or.inr rfl | exact fun h => absurd rfl h
set_option maxHeartbeats 4000000 in
set_option maxRecDepth 100000 in
/-- tar -/
theorem c_L_tar (l : Launch) (D : va_G) (y : Nat → ClassId) (sz : Nat) (hst : l.stackTraces = false) (ao ac an ar : Nat → Nat) (v : FO) (K V U : FV) (xa : Int32) (hM : vp_in (V 0 2) 7) : LW l D y yL_tar wsL_tar rmL_tar 2 12 [.ref (ac 0), .int xa, .ref (ao 0)] ao ac an ar v K V U sz (taC V xa) (lkT (taC V xa)) (V (ix xa + 5) 6) K (taV V (ix xa)) := by
  refine mXH (fun A => va_Qi (fun r9 (u : FO × FV × FV × FV) => r9 = nI (lkT (taC V xa)) ∧ (taC V xa = 0 → u.1 0 = (V (ix xa + 5) 6).toInt64 ∧ u.2.1 = K ∧ u.2.2.1 = (taV V (ix xa))) ∧ (¬ taC V xa = 0 → u.2.1 = K ∧ u.2.2.1 = V)) (fun u t => Bp D y (lwW y ao ac an ar u.1 u.2.1 u.2.2.1 u.2.2.2) t) A) (fun A => vx_X (fun (_ : Unit) => False) (fun _ _ _ => True) A) (C := RL) (cc := cL_tar) (maxL := 4) (ret := (some .int)) (hh := [(0, 9, 12, 13), (0, 9, 15, 23)]) (by decide) rfl rfl (Nat.le_of_ble_eq_true rfl) ?_
  intro p e s m a below meth c ls A Q hQ hsz hx hb hr hts hown hlocks htab hml hP hK hN hE hX hD hA hS hl
  rw [lwW_fst] at hD
  have hl : lv_has ls 4 [(0, .ref (ac 0)), (1, .int xa), (2, .ref (ao 0))] := hl
  refine lv_aload_n hx hb dL_tar_0 rfl (lv_at hl 2 rfl) ?_
  refine lv_iconst (v := 0) hx hb dL_tar_1 (by decide) ?_
  refine lv_aload_n hx hb dL_tar_2 rfl (lv_at hl 0 rfl) ?_
  refine lv_iload_n hx hb dL_tar_3 rfl (lv_at hl 1 rfl) ?_
  refine cX_V (S := FV) (As := [.int xa]) (rest := [.int 0, .ref (ao 0)]) ⟨hx, hb, hml, hown, hts⟩ (c_X3_tar l D y _ hst ac an ar K V U xa hM) (cwV 1 hts gL_tar_X3_tar rfl rfl rfl (by decide +kernel) ⟨Nat.le_of_ble_eq_true rfl, Nat.le_of_ble_eq_true rfl⟩) hK hN hE hX (P_r hP) (by rw [cmA_fst]; exact aD_r hD) hS hA (va_recv hK (P_r hP) (ci := 3) (q0 := 0) rfl (ap_l (wf_at (by decide) rfl))) rfl hl.1 rfl (Nat.le_of_ble_eq_true rfl) dL_tar_4 ⟨Nat.le_of_ble_eq_true rfl, Nat.le_of_ble_eq_true rfl⟩ (fun hc ce q9 H locs hP9 hk9 hS h91 h92 h93 => ?_) (fun hc U2 H locs hP9 hk9 hS => ?_)
  · have hP : va_P D vwCl (lwW y ao ac an ar v K V U) H := fr_r hP (by rw [ou_fst, cmA_fst]; exact hD) hk9 hP9
    rcases cd_tar V xa hc with hcd | hcd
    · rw [hcd] at h93
      refine vx_catch (own := RL) (name := xIO) (E := xIO) hown [] ⟨0, 9, 12, 13⟩ [⟨0, 9, 15, 23⟩] (by rw [htab]; rfl) (fun z hz => by cases hz) (by decide) (by decide) (hts (.classLink RL 13 "java/lang/IndexOutOfBoundsException") (by decide +kernel)) (va_Nw.use rfl (hE.2.1 _ (List.mem_of_getElem? (i := 0) rfl))) h91 h92 h93 ?_
      refine lv_astore_n (lv' := [(3, .ref q9), (0, .ref (ac 0)), (1, .int xa), (2, .ref (ao 0))]) hx hb dL_tar_12 rfl hl (by decide) rfl (fun ls hl => ?_)
      refine lv_iconst (v := 1) hx hb dL_tar_13 (by decide) ?_
      subst hQ
      refine W.widen (k := 2) (n := 12) (Nat.le_of_ble_eq_true rfl) (Nat.le_of_ble_eq_true rfl) ?_
      exact vx_ret (W.iret (v := 1) hx hb hr (fun t ht hW => ⟨⟨_, (v, K, V, U), rfl, ⟨by rw [hcd]; exact nI_k1, fun z => absurd z hc, fun _ => ⟨rfl, rfl⟩⟩, bp_at hK hN hP t ht hW⟩, hS.F ht⟩) hS.2.2 dL_tar_14)
    · rw [hcd] at h93
      refine vx_catch (own := RL) (name := xIS) (E := xIS) hown [⟨0, 9, 12, 13⟩] ⟨0, 9, 15, 23⟩ [] (by rw [htab]; rfl) (fun z hz => by rw [List.mem_singleton] at hz; subst hz; exact Or.inr ⟨by decide, xIO, hts (.classLink RL 13 "java/lang/IndexOutOfBoundsException") (by decide +kernel), hE.2.2 _ (List.mem_of_getElem? (i := 4) rfl)⟩) (by decide) (by decide) (hts (.classLink RL 23 "java/lang/IllegalStateException") (by decide +kernel)) (va_Nw.use rfl (hE.2.1 _ (List.mem_of_getElem? (i := 2) rfl))) h91 h92 h93 ?_
      refine lv_astore_n (lv' := [(3, .ref q9), (0, .ref (ac 0)), (1, .int xa), (2, .ref (ao 0))]) hx hb dL_tar_15 rfl hl (by decide) rfl (fun ls hl => ?_)
      refine lv_iconst (v := 2) hx hb dL_tar_16 (by decide) ?_
      subst hQ
      refine W.widen (k := 2) (n := 12) (Nat.le_of_ble_eq_true rfl) (Nat.le_of_ble_eq_true rfl) ?_
      exact vx_ret (W.iret (v := 2) hx hb hr (fun t ht hW => ⟨⟨_, (v, K, V, U), rfl, ⟨by rw [hcd]; exact nI_k2, fun z => absurd z hc, fun _ => ⟨rfl, rfl⟩⟩, bp_at hK hN hP t ht hW⟩, hS.F ht⟩) hS.2.2 dL_tar_17)
  · have hP : va_P D vwCl (lwW y ao ac an ar v K (taV V (ix xa)) U2) H := fr_r hP (by rw [ou_fst, cmA_fst]; exact hD) hk9 hP9
    refine lv_i2l (v := (V (ix xa + 5) 6).toInt64) hx hb dL_tar_7 rfl ?_
    refine va_last hx hb hK hP (aD_D hD (lwW_fst y ao ac an ar v K (taV V (ix xa)) U2)) hS 0 2 (ap_l (wf_at (by decide) rfl)) rfl (show vp_in (0 : Int32) 1 from vp_in_nI (n := 0) (by decide) (by decide)) dL_tar_8 (fun H locs hP _ hS => ?_)
    have hP : va_P D vwCl (lwW y ao ac an ar (vp_updL v (Int32.toNatClampNeg 0) (V (ix xa + 5) 6).toInt64) K (taV V (ix xa)) U2) H := P_eq (ap_set_l (show 0 < (ouW y ao v).length by rw [wf_len]; omega) (ou_set y ao v _)) hP
    refine lv_goto (tgt := 18) hx hb dL_tar_9 (by decide) ?_
    refine lv_iconst (v := 0) hx hb dL_tar_18 (by decide) ?_
    subst hQ
    refine W.widen (k := 2) (n := 12) (Nat.le_of_ble_eq_true rfl) (Nat.le_of_ble_eq_true rfl) ?_
    exact vx_ret (W.iret (v := 0) hx hb hr (fun t ht hW => ⟨⟨_, (vp_updL v (Int32.toNatClampNeg 0) (V (ix xa + 5) 6).toInt64, K, (taV V (ix xa)), U2), rfl, ⟨by rw [hc]; exact nI_k0, fun _ => ⟨vl_0 v _, rfl, rfl⟩, fun z => absurd hc z⟩, bp_at hK hN hP t ht hW⟩, hS.F ht⟩) hS.2.2 dL_tar_19)
abbrev rmL_land : Room := { frames := 8, cells := 2, slots := 12, locals := 135 }
theorem cd_land (V : FV) (xa : Int32) (h9 : ¬ laC V xa = 0) : laC V xa = 1 ∨ laC V xa = 3 := by
  revert h9
  unfold laC
  (repeat' split) <;> first | exact fun _ => Or.inl rfl | exact fun _ => Or.inr rfl | exact fun h => absurd rfl h
set_option maxHeartbeats 4000000 in
set_option maxRecDepth 100000 in
/-- land -/
theorem c_L_land (l : Launch) (D : va_G) (y : Nat → ClassId) (sz : Nat) (hst : l.stackTraces = false) (ao ac an ar : Nat → Nat) (v : FO) (K V U : FV) (xa : Int32) (hM : vp_in (V 0 2) 7) : LW l D y yL_land wsL_land rmL_land 2 12 [.ref (ac 0), .int xa, .ref (ao 0)] ao ac an ar v K V U sz (laC V xa) (lkT (laC V xa)) (2 * V (ix xa + 5) 7) K (laV V (ix xa)) := by
  refine mXH (fun A => va_Qi (fun r9 (u : FO × FV × FV × FV) => r9 = nI (lkT (laC V xa)) ∧ (laC V xa = 0 → u.1 0 = (2 * V (ix xa + 5) 7).toInt64 ∧ u.2.1 = K ∧ u.2.2.1 = (laV V (ix xa))) ∧ (¬ laC V xa = 0 → u.2.1 = K ∧ u.2.2.1 = V)) (fun u t => Bp D y (lwW y ao ac an ar u.1 u.2.1 u.2.2.1 u.2.2.2) t) A) (fun A => vx_X (fun (_ : Unit) => False) (fun _ _ _ => True) A) (C := RL) (cc := cL_land) (maxL := 4) (ret := (some .int)) (hh := [(0, 9, 12, 13), (0, 9, 15, 23)]) (by decide) rfl rfl (Nat.le_of_ble_eq_true rfl) ?_
  intro p e s m a below meth c ls A Q hQ hsz hx hb hr hts hown hlocks htab hml hP hK hN hE hX hD hA hS hl
  rw [lwW_fst] at hD
  have hl : lv_has ls 4 [(0, .ref (ac 0)), (1, .int xa), (2, .ref (ao 0))] := hl
  refine lv_aload_n hx hb dL_land_0 rfl (lv_at hl 2 rfl) ?_
  refine lv_iconst (v := 0) hx hb dL_land_1 (by decide) ?_
  refine lv_aload_n hx hb dL_land_2 rfl (lv_at hl 0 rfl) ?_
  refine lv_iload_n hx hb dL_land_3 rfl (lv_at hl 1 rfl) ?_
  refine cX_V (S := FV) (As := [.int xa]) (rest := [.int 0, .ref (ao 0)]) ⟨hx, hb, hml, hown, hts⟩ (c_X3_land l D y _ hst ac an ar K V U xa hM) (cwV 1 hts gL_land_X3_land rfl rfl rfl (by decide +kernel) ⟨Nat.le_of_ble_eq_true rfl, Nat.le_of_ble_eq_true rfl⟩) hK hN hE hX (P_r hP) (by rw [cmA_fst]; exact aD_r hD) hS hA (va_recv hK (P_r hP) (ci := 3) (q0 := 0) rfl (ap_l (wf_at (by decide) rfl))) rfl hl.1 rfl (Nat.le_of_ble_eq_true rfl) dL_land_4 ⟨Nat.le_of_ble_eq_true rfl, Nat.le_of_ble_eq_true rfl⟩ (fun hc ce q9 H locs hP9 hk9 hS h91 h92 h93 => ?_) (fun hc U2 H locs hP9 hk9 hS => ?_)
  · have hP : va_P D vwCl (lwW y ao ac an ar v K V U) H := fr_r hP (by rw [ou_fst, cmA_fst]; exact hD) hk9 hP9
    rcases cd_land V xa hc with hcd | hcd
    · rw [hcd] at h93
      refine vx_catch (own := RL) (name := xIO) (E := xIO) hown [] ⟨0, 9, 12, 13⟩ [⟨0, 9, 15, 23⟩] (by rw [htab]; rfl) (fun z hz => by cases hz) (by decide) (by decide) (hts (.classLink RL 13 "java/lang/IndexOutOfBoundsException") (by decide +kernel)) (va_Nw.use rfl (hE.2.1 _ (List.mem_of_getElem? (i := 0) rfl))) h91 h92 h93 ?_
      refine lv_astore_n (lv' := [(3, .ref q9), (0, .ref (ac 0)), (1, .int xa), (2, .ref (ao 0))]) hx hb dL_land_12 rfl hl (by decide) rfl (fun ls hl => ?_)
      refine lv_iconst (v := 1) hx hb dL_land_13 (by decide) ?_
      subst hQ
      refine W.widen (k := 2) (n := 12) (Nat.le_of_ble_eq_true rfl) (Nat.le_of_ble_eq_true rfl) ?_
      exact vx_ret (W.iret (v := 1) hx hb hr (fun t ht hW => ⟨⟨_, (v, K, V, U), rfl, ⟨by rw [hcd]; exact nI_k1, fun z => absurd z hc, fun _ => ⟨rfl, rfl⟩⟩, bp_at hK hN hP t ht hW⟩, hS.F ht⟩) hS.2.2 dL_land_14)
    · rw [hcd] at h93
      refine vx_catch (own := RL) (name := xIS) (E := xIS) hown [⟨0, 9, 12, 13⟩] ⟨0, 9, 15, 23⟩ [] (by rw [htab]; rfl) (fun z hz => by rw [List.mem_singleton] at hz; subst hz; exact Or.inr ⟨by decide, xIO, hts (.classLink RL 13 "java/lang/IndexOutOfBoundsException") (by decide +kernel), hE.2.2 _ (List.mem_of_getElem? (i := 4) rfl)⟩) (by decide) (by decide) (hts (.classLink RL 23 "java/lang/IllegalStateException") (by decide +kernel)) (va_Nw.use rfl (hE.2.1 _ (List.mem_of_getElem? (i := 2) rfl))) h91 h92 h93 ?_
      refine lv_astore_n (lv' := [(3, .ref q9), (0, .ref (ac 0)), (1, .int xa), (2, .ref (ao 0))]) hx hb dL_land_15 rfl hl (by decide) rfl (fun ls hl => ?_)
      refine lv_iconst (v := 2) hx hb dL_land_16 (by decide) ?_
      subst hQ
      refine W.widen (k := 2) (n := 12) (Nat.le_of_ble_eq_true rfl) (Nat.le_of_ble_eq_true rfl) ?_
      exact vx_ret (W.iret (v := 2) hx hb hr (fun t ht hW => ⟨⟨_, (v, K, V, U), rfl, ⟨by rw [hcd]; exact nI_k2, fun z => absurd z hc, fun _ => ⟨rfl, rfl⟩⟩, bp_at hK hN hP t ht hW⟩, hS.F ht⟩) hS.2.2 dL_land_17)
  · have hP : va_P D vwCl (lwW y ao ac an ar v K (laV V (ix xa)) U2) H := fr_r hP (by rw [ou_fst, cmA_fst]; exact hD) hk9 hP9
    refine lv_i2l (v := (2 * V (ix xa + 5) 7).toInt64) hx hb dL_land_7 rfl ?_
    refine va_last hx hb hK hP (aD_D hD (lwW_fst y ao ac an ar v K (laV V (ix xa)) U2)) hS 0 2 (ap_l (wf_at (by decide) rfl)) rfl (show vp_in (0 : Int32) 1 from vp_in_nI (n := 0) (by decide) (by decide)) dL_land_8 (fun H locs hP _ hS => ?_)
    have hP : va_P D vwCl (lwW y ao ac an ar (vp_updL v (Int32.toNatClampNeg 0) (2 * V (ix xa + 5) 7).toInt64) K (laV V (ix xa)) U2) H := P_eq (ap_set_l (show 0 < (ouW y ao v).length by rw [wf_len]; omega) (ou_set y ao v _)) hP
    refine lv_goto (tgt := 18) hx hb dL_land_9 (by decide) ?_
    refine lv_iconst (v := 0) hx hb dL_land_18 (by decide) ?_
    subst hQ
    refine W.widen (k := 2) (n := 12) (Nat.le_of_ble_eq_true rfl) (Nat.le_of_ble_eq_true rfl) ?_
    exact vx_ret (W.iret (v := 0) hx hb hr (fun t ht hW => ⟨⟨_, (vp_updL v (Int32.toNatClampNeg 0) (2 * V (ix xa + 5) 7).toInt64, K, (laV V (ix xa)), U2), rfl, ⟨by rw [hc]; exact nI_k0, fun _ => ⟨vl_0 v _, rfl, rfl⟩, fun z => absurd hc z⟩, bp_at hK hN hP t ht hW⟩, hS.F ht⟩) hS.2.2 dL_land_19)
abbrev rmL_about : Room := { frames := 8, cells := 2, slots := 12, locals := 134 }
theorem cd_about (V : FV) (xa x : Int32) (h9 : ¬ abC V xa x = 0) : abC V xa x = 1 := by
  revert h9
  unfold abC
  (repeat' split) <;> first | exact fun _ => rfl | exact fun h => absurd rfl h
set_option maxHeartbeats 4000000 in
set_option maxRecDepth 100000 in
/-- about -/
theorem c_L_about (l : Launch) (D : va_G) (y : Nat → ClassId) (sz : Nat) (hst : l.stackTraces = false) (ao ac an ar : Nat → Nat) (v : FO) (K V U : FV) (xa x : Int32) (hM : vp_in (V 0 2) 7) : LW l D y yL_about wsL_about rmL_about 2 12 [.ref (ac 0), .int xa, .int x, .ref (ao 0)] ao ac an ar v K V U sz (abC V xa x) (abC V xa x) (tlF (V (ix xa + 5)) x) K V := by
  refine mXH (fun A => va_Qi (fun r9 (u : FO × FV × FV × FV) => r9 = nI (abC V xa x) ∧ (abC V xa x = 0 → u.1 0 = (tlF (V (ix xa + 5)) x).toInt64 ∧ u.2.1 = K ∧ u.2.2.1 = V) ∧ (¬ abC V xa x = 0 → u.2.1 = K ∧ u.2.2.1 = V)) (fun u t => Bp D y (lwW y ao ac an ar u.1 u.2.1 u.2.2.1 u.2.2.2) t) A) (fun A => vx_X (fun (_ : Unit) => False) (fun _ _ _ => True) A) (C := RL) (cc := cL_about) (maxL := 5) (ret := (some .int)) (hh := [(0, 10, 13, 13)]) (by decide) rfl rfl (Nat.le_of_ble_eq_true rfl) ?_
  intro p e s m a below meth c ls A Q hQ hsz hx hb hr hts hown hlocks htab hml hP hK hN hE hX hD hA hS hl
  rw [lwW_fst] at hD
  have hl : lv_has ls 5 [(0, .ref (ac 0)), (1, .int xa), (2, .int x), (3, .ref (ao 0))] := hl
  refine lv_aload_n hx hb dL_about_0 rfl (lv_at hl 3 rfl) ?_
  refine lv_iconst (v := 0) hx hb dL_about_1 (by decide) ?_
  refine lv_aload_n hx hb dL_about_2 rfl (lv_at hl 0 rfl) ?_
  refine lv_iload_n hx hb dL_about_3 rfl (lv_at hl 1 rfl) ?_
  refine lv_iload_n hx hb dL_about_4 rfl (lv_at hl 2 rfl) ?_
  refine cX_V (S := FV) (As := [.int xa, .int x]) (rest := [.int 0, .ref (ao 0)]) ⟨hx, hb, hml, hown, hts⟩ (c_X3_about l D y _ hst ac an ar K V U xa x hM) (cwV 2 hts gL_about_X3_about rfl rfl rfl (by decide +kernel) ⟨Nat.le_of_ble_eq_true rfl, Nat.le_of_ble_eq_true rfl⟩) hK hN hE hX (P_r hP) (by rw [cmA_fst]; exact aD_r hD) hS hA (va_recv hK (P_r hP) (ci := 3) (q0 := 0) rfl (ap_l (wf_at (by decide) rfl))) rfl hl.1 rfl (Nat.le_of_ble_eq_true rfl) dL_about_5 ⟨Nat.le_of_ble_eq_true rfl, Nat.le_of_ble_eq_true rfl⟩ (fun hc ce q9 H locs hP9 hk9 hS h91 h92 h93 => ?_) (fun hc U2 H locs hP9 hk9 hS => ?_)
  · have hP : va_P D vwCl (lwW y ao ac an ar v K V U) H := fr_r hP (by rw [ou_fst, cmA_fst]; exact hD) hk9 hP9
    rcases cd_about V xa x hc with hcd
    rw [hcd] at h93
    refine vx_catch (own := RL) (name := xIO) (E := xIO) hown [] ⟨0, 10, 13, 13⟩ [] (by rw [htab]; rfl) (fun z hz => by cases hz) (by decide) (by decide) (hts (.classLink RL 13 "java/lang/IndexOutOfBoundsException") (by decide +kernel)) (va_Nw.use rfl (hE.2.1 _ (List.mem_of_getElem? (i := 0) rfl))) h91 h92 h93 ?_
    refine lv_astore (lv' := [(4, .ref q9), (0, .ref (ac 0)), (1, .int xa), (2, .int x), (3, .ref (ao 0))]) hx hb dL_about_13 hl (by decide) rfl (fun ls hl => ?_)
    refine lv_iconst (v := 1) hx hb dL_about_15 (by decide) ?_
    subst hQ
    refine W.widen (k := 2) (n := 12) (Nat.le_of_ble_eq_true rfl) (Nat.le_of_ble_eq_true rfl) ?_
    exact vx_ret (W.iret (v := 1) hx hb hr (fun t ht hW => ⟨⟨_, (v, K, V, U), rfl, ⟨by rw [hcd]; exact nI_k1, fun z => absurd z hc, fun _ => ⟨rfl, rfl⟩⟩, bp_at hK hN hP t ht hW⟩, hS.F ht⟩) hS.2.2 dL_about_16)
  · have hP : va_P D vwCl (lwW y ao ac an ar v K V U2) H := fr_r hP (by rw [ou_fst, cmA_fst]; exact hD) hk9 hP9
    refine lv_i2l (v := (tlF (V (ix xa + 5)) x).toInt64) hx hb dL_about_8 rfl ?_
    refine va_last hx hb hK hP (aD_D hD (lwW_fst y ao ac an ar v K V U2)) hS 0 2 (ap_l (wf_at (by decide) rfl)) rfl (show vp_in (0 : Int32) 1 from vp_in_nI (n := 0) (by decide) (by decide)) dL_about_9 (fun H locs hP _ hS => ?_)
    have hP : va_P D vwCl (lwW y ao ac an ar (vp_updL v (Int32.toNatClampNeg 0) (tlF (V (ix xa + 5)) x).toInt64) K V U2) H := P_eq (ap_set_l (show 0 < (ouW y ao v).length by rw [wf_len]; omega) (ou_set y ao v _)) hP
    refine lv_goto (tgt := 17) hx hb dL_about_10 (by decide) ?_
    refine lv_iconst (v := 0) hx hb dL_about_17 (by decide) ?_
    subst hQ
    refine W.widen (k := 2) (n := 12) (Nat.le_of_ble_eq_true rfl) (Nat.le_of_ble_eq_true rfl) ?_
    exact vx_ret (W.iret (v := 0) hx hb hr (fun t ht hW => ⟨⟨_, (vp_updL v (Int32.toNatClampNeg 0) (tlF (V (ix xa + 5)) x).toInt64, K, V, U2), rfl, ⟨by rw [hc]; exact nI_k0, fun _ => ⟨vl_0 v _, rfl, rfl⟩, fun z => absurd hc z⟩, bp_at hK hN hP t ht hW⟩, hS.F ht⟩) hS.2.2 dL_about_18)
