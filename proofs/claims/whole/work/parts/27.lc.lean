abbrev rmL_told : Room := { frames := 8, cells := 2, slots := 12, locals := 134 }
theorem cd_told (V : FV) (n x : Int32) (h9 : ¬ toC V n x = 0) : toC V n x = 1 := by
  revert h9
  unfold toC
  (repeat' split) <;> first | exact fun _ => rfl | exact fun h => absurd rfl h
set_option maxHeartbeats 4000000 in
set_option maxRecDepth 100000 in
/-- told -/
theorem c_L_told (l : Launch) (D : va_G) (y : Nat → ClassId) (sz : Nat) (hst : l.stackTraces = false) (ao ac an ar : Nat → Nat) (v : FO) (K V U : FV) (n x : Int32) (hT : vp_in (V 0 3) 4) (hI : rvI V) : LW l D y yL_told wsL_told rmL_told 2 12 [.ref (ac 0), .int n, .int x, .ref (ao 0)] ao ac an ar v K V U sz (toC V n x) (toC V n x) (tnF V (ix n) x) K V := by
  refine mXH (fun A => va_Qi (fun r9 (u : FO × FV × FV × FV) => r9 = nI (toC V n x) ∧ (toC V n x = 0 → u.1 0 = (tnF V (ix n) x).toInt64 ∧ u.2.1 = K ∧ u.2.2.1 = V) ∧ (¬ toC V n x = 0 → u.2.1 = K ∧ u.2.2.1 = V)) (fun u t => Bp D y (lwW y ao ac an ar u.1 u.2.1 u.2.2.1 u.2.2.2) t) A) (fun A => vx_X (fun (_ : Unit) => False) (fun _ _ _ => True) A) (C := RL) (cc := cL_told) (maxL := 5) (ret := (some .int)) (hh := [(0, 10, 13, 13)]) (by decide) rfl rfl (Nat.le_of_ble_eq_true rfl) ?_
  intro p e s m a below meth c ls A Q hQ hsz hx hb hr hts hown hlocks htab hml hP hK hN hE hX hD hA hS hl
  rw [lwW_fst] at hD
  have hl : lv_has ls 5 [(0, .ref (ac 0)), (1, .int n), (2, .int x), (3, .ref (ao 0))] := hl
  refine lv_aload_n hx hb dL_told_0 rfl (lv_at hl 3 rfl) ?_
  refine lv_iconst (v := 0) hx hb dL_told_1 (by decide) ?_
  refine lv_aload_n hx hb dL_told_2 rfl (lv_at hl 0 rfl) ?_
  refine lv_iload_n hx hb dL_told_3 rfl (lv_at hl 1 rfl) ?_
  refine lv_iload_n hx hb dL_told_4 rfl (lv_at hl 2 rfl) ?_
  refine cX_V (S := FV) (As := [.int n, .int x]) (rest := [.int 0, .ref (ao 0)]) ⟨hx, hb, hml, hown, hts⟩ (c_X3_told l D y _ hst ac an ar K V U n x hT hI) (cwV 2 hts gL_told_X3_told rfl rfl rfl (by decide +kernel) ⟨Nat.le_of_ble_eq_true rfl, Nat.le_of_ble_eq_true rfl⟩) hK hN hE hX (P_r hP) (by rw [cmA_fst]; exact aD_r hD) hS hA (va_recv hK (P_r hP) (ci := 3) (q0 := 0) rfl (ap_l (wf_at (by decide) rfl))) rfl hl.1 rfl (Nat.le_of_ble_eq_true rfl) dL_told_5 ⟨Nat.le_of_ble_eq_true rfl, Nat.le_of_ble_eq_true rfl⟩ (fun hc ce q9 H locs hP9 hk9 hS h91 h92 h93 => ?_) (fun hc U2 H locs hP9 hk9 hS => ?_)
  · have hP : va_P D vwCl (lwW y ao ac an ar v K V U) H := fr_r hP (by rw [ou_fst, cmA_fst]; exact hD) hk9 hP9
    rcases cd_told V n x hc with hcd
    rw [hcd] at h93
    refine vx_catch (own := RL) (name := xIO) (E := xIO) hown [] ⟨0, 10, 13, 13⟩ [] (by rw [htab]; rfl) (fun z hz => by cases hz) (by decide) (by decide) (hts (.classLink RL 13 "java/lang/IndexOutOfBoundsException") (by decide +kernel)) (va_Nw.use rfl (hE.2.1 _ (List.mem_of_getElem? (i := 0) rfl))) h91 h92 h93 ?_
    refine lv_astore (lv' := [(4, .ref q9), (0, .ref (ac 0)), (1, .int n), (2, .int x), (3, .ref (ao 0))]) hx hb dL_told_13 hl (by decide) rfl (fun ls hl => ?_)
    refine lv_iconst (v := 1) hx hb dL_told_15 (by decide) ?_
    subst hQ
    refine W.widen (k := 2) (n := 12) (Nat.le_of_ble_eq_true rfl) (Nat.le_of_ble_eq_true rfl) ?_
    exact vx_ret (W.iret (v := 1) hx hb hr (fun t ht hW => ⟨⟨_, (v, K, V, U), rfl, ⟨by rw [hcd]; exact nI_k1, fun z => absurd z hc, fun _ => ⟨rfl, rfl⟩⟩, bp_at hK hN hP t ht hW⟩, hS.F ht⟩) hS.2.2 dL_told_16)
  · have hP : va_P D vwCl (lwW y ao ac an ar v K V U2) H := fr_r hP (by rw [ou_fst, cmA_fst]; exact hD) hk9 hP9
    refine lv_i2l (v := (tnF V (ix n) x).toInt64) hx hb dL_told_8 rfl ?_
    refine va_last hx hb hK hP (aD_D hD (lwW_fst y ao ac an ar v K V U2)) hS 0 2 (ap_l (wf_at (by decide) rfl)) rfl (show vp_in (0 : Int32) 1 from vp_in_nI (n := 0) (by decide) (by decide)) dL_told_9 (fun H locs hP _ hS => ?_)
    have hP : va_P D vwCl (lwW y ao ac an ar (vp_updL v (Int32.toNatClampNeg 0) (tnF V (ix n) x).toInt64) K V U2) H := P_eq (ap_set_l (show 0 < (ouW y ao v).length by rw [wf_len]; omega) (ou_set y ao v _)) hP
    refine lv_goto (tgt := 17) hx hb dL_told_10 (by decide) ?_
    refine lv_iconst (v := 0) hx hb dL_told_17 (by decide) ?_
    subst hQ
    refine W.widen (k := 2) (n := 12) (Nat.le_of_ble_eq_true rfl) (Nat.le_of_ble_eq_true rfl) ?_
    exact vx_ret (W.iret (v := 0) hx hb hr (fun t ht hW => ⟨⟨_, (vp_updL v (Int32.toNatClampNeg 0) (tnF V (ix n) x).toInt64, K, V, U2), rfl, ⟨by rw [hc]; exact nI_k0, fun _ => ⟨vl_0 v _, rfl, rfl⟩, fun z => absurd hc z⟩, bp_at hK hN hP t ht hW⟩, hS.F ht⟩) hS.2.2 dL_told_18)
abbrev rmL_reach : Room := { frames := 8, cells := 2, slots := 12, locals := 134 }
theorem cd_reach (r x : Int32) (h9 : ¬ reC r x = 0) : reC r x = 1 := by
  revert h9
  unfold reC
  (repeat' split) <;> first | exact fun _ => rfl | exact fun h => absurd rfl h
set_option maxHeartbeats 4000000 in
set_option maxRecDepth 100000 in
/-- reach -/
theorem c_L_reach (l : Launch) (D : va_G) (y : Nat → ClassId) (sz : Nat) (hst : l.stackTraces = false) (ao ac an ar : Nat → Nat) (v : FO) (K V U : FV) (r x : Int32) : LW l D y yL_reach wsL_reach rmL_reach 2 12 [.ref (ac 0), .int r, .int x, .ref (ao 0)] ao ac an ar v K V U sz (reC r x) (reC r x) (trF V r x) K V := by
  refine mXH (fun A => va_Qi (fun r9 (u : FO × FV × FV × FV) => r9 = nI (reC r x) ∧ (reC r x = 0 → u.1 0 = (trF V r x).toInt64 ∧ u.2.1 = K ∧ u.2.2.1 = V) ∧ (¬ reC r x = 0 → u.2.1 = K ∧ u.2.2.1 = V)) (fun u t => Bp D y (lwW y ao ac an ar u.1 u.2.1 u.2.2.1 u.2.2.2) t) A) (fun A => vx_X (fun (_ : Unit) => False) (fun _ _ _ => True) A) (C := RL) (cc := cL_reach) (maxL := 5) (ret := (some .int)) (hh := [(0, 10, 13, 13)]) (by decide) rfl rfl (Nat.le_of_ble_eq_true rfl) ?_
  intro p e s m a below meth c ls A Q hQ hsz hx hb hr hts hown hlocks htab hml hP hK hN hE hX hD hA hS hl
  rw [lwW_fst] at hD
  have hl : lv_has ls 5 [(0, .ref (ac 0)), (1, .int r), (2, .int x), (3, .ref (ao 0))] := hl
  refine lv_aload_n hx hb dL_reach_0 rfl (lv_at hl 3 rfl) ?_
  refine lv_iconst (v := 0) hx hb dL_reach_1 (by decide) ?_
  refine lv_aload_n hx hb dL_reach_2 rfl (lv_at hl 0 rfl) ?_
  refine lv_iload_n hx hb dL_reach_3 rfl (lv_at hl 1 rfl) ?_
  refine lv_iload_n hx hb dL_reach_4 rfl (lv_at hl 2 rfl) ?_
  refine cX_V (S := FV) (As := [.int r, .int x]) (rest := [.int 0, .ref (ao 0)]) ⟨hx, hb, hml, hown, hts⟩ (c_X3_reach l D y _ hst ac an ar K V U r x) (cwV 2 hts gL_reach_X3_reach rfl rfl rfl (by decide +kernel) ⟨Nat.le_of_ble_eq_true rfl, Nat.le_of_ble_eq_true rfl⟩) hK hN hE hX (P_r hP) (by rw [cmA_fst]; exact aD_r hD) hS hA (va_recv hK (P_r hP) (ci := 3) (q0 := 0) rfl (ap_l (wf_at (by decide) rfl))) rfl hl.1 rfl (Nat.le_of_ble_eq_true rfl) dL_reach_5 ⟨Nat.le_of_ble_eq_true rfl, Nat.le_of_ble_eq_true rfl⟩ (fun hc ce q9 H locs hP9 hk9 hS h91 h92 h93 => ?_) (fun hc U2 H locs hP9 hk9 hS => ?_)
  · have hP : va_P D vwCl (lwW y ao ac an ar v K V U) H := fr_r hP (by rw [ou_fst, cmA_fst]; exact hD) hk9 hP9
    rcases cd_reach r x hc with hcd
    rw [hcd] at h93
    refine vx_catch (own := RL) (name := xIO) (E := xIO) hown [] ⟨0, 10, 13, 13⟩ [] (by rw [htab]; rfl) (fun z hz => by cases hz) (by decide) (by decide) (hts (.classLink RL 13 "java/lang/IndexOutOfBoundsException") (by decide +kernel)) (va_Nw.use rfl (hE.2.1 _ (List.mem_of_getElem? (i := 0) rfl))) h91 h92 h93 ?_
    refine lv_astore (lv' := [(4, .ref q9), (0, .ref (ac 0)), (1, .int r), (2, .int x), (3, .ref (ao 0))]) hx hb dL_reach_13 hl (by decide) rfl (fun ls hl => ?_)
    refine lv_iconst (v := 1) hx hb dL_reach_15 (by decide) ?_
    subst hQ
    refine W.widen (k := 2) (n := 12) (Nat.le_of_ble_eq_true rfl) (Nat.le_of_ble_eq_true rfl) ?_
    exact vx_ret (W.iret (v := 1) hx hb hr (fun t ht hW => ⟨⟨_, (v, K, V, U), rfl, ⟨by rw [hcd]; exact nI_k1, fun z => absurd z hc, fun _ => ⟨rfl, rfl⟩⟩, bp_at hK hN hP t ht hW⟩, hS.F ht⟩) hS.2.2 dL_reach_16)
  · have hP : va_P D vwCl (lwW y ao ac an ar v K V U2) H := fr_r hP (by rw [ou_fst, cmA_fst]; exact hD) hk9 hP9
    refine lv_i2l (v := (trF V r x).toInt64) hx hb dL_reach_8 rfl ?_
    refine va_last hx hb hK hP (aD_D hD (lwW_fst y ao ac an ar v K V U2)) hS 0 2 (ap_l (wf_at (by decide) rfl)) rfl (show vp_in (0 : Int32) 1 from vp_in_nI (n := 0) (by decide) (by decide)) dL_reach_9 (fun H locs hP _ hS => ?_)
    have hP : va_P D vwCl (lwW y ao ac an ar (vp_updL v (Int32.toNatClampNeg 0) (trF V r x).toInt64) K V U2) H := P_eq (ap_set_l (show 0 < (ouW y ao v).length by rw [wf_len]; omega) (ou_set y ao v _)) hP
    refine lv_goto (tgt := 17) hx hb dL_reach_10 (by decide) ?_
    refine lv_iconst (v := 0) hx hb dL_reach_17 (by decide) ?_
    subst hQ
    refine W.widen (k := 2) (n := 12) (Nat.le_of_ble_eq_true rfl) (Nat.le_of_ble_eq_true rfl) ?_
    exact vx_ret (W.iret (v := 0) hx hb hr (fun t ht hW => ⟨⟨_, (vp_updL v (Int32.toNatClampNeg 0) (trF V r x).toInt64, K, V, U2), rfl, ⟨by rw [hc]; exact nI_k0, fun _ => ⟨vl_0 v _, rfl, rfl⟩, fun z => absurd hc z⟩, bp_at hK hN hP t ht hW⟩, hS.F ht⟩) hS.2.2 dL_reach_18)
abbrev rmL_count : Room := { frames := 8, cells := 1, slots := 6, locals := 133 }
theorem cd_count (x : Int32) (h9 : ¬ coC x = 0) : coC x = 1 := by
  revert h9
  unfold coC
  (repeat' split) <;> first | exact fun _ => rfl | exact fun h => absurd rfl h
set_option maxHeartbeats 4000000 in
set_option maxRecDepth 100000 in
/-- count -/
theorem c_L_count (l : Launch) (D : va_G) (y : Nat → ClassId) (sz : Nat) (hst : l.stackTraces = false) (ao ac an ar : Nat → Nat) (v : FO) (K V U : FV) (x : Int32) : LW l D y yL_count wsL_count rmL_count 1 6 [.ref (ac 0), .int x, .ref (ao 0)] ao ac an ar v K V U sz (coC x) (coC x) (tcF V x) K V := by
  refine mXH (fun A => va_Qi (fun r9 (u : FO × FV × FV × FV) => r9 = nI (coC x) ∧ (coC x = 0 → u.1 0 = (tcF V x).toInt64 ∧ u.2.1 = K ∧ u.2.2.1 = V) ∧ (¬ coC x = 0 → u.2.1 = K ∧ u.2.2.1 = V)) (fun u t => Bp D y (lwW y ao ac an ar u.1 u.2.1 u.2.2.1 u.2.2.2) t) A) (fun A => vx_X (fun (_ : Unit) => False) (fun _ _ _ => True) A) (C := RL) (cc := cL_count) (maxL := 4) (ret := (some .int)) (hh := [(0, 9, 12, 13)]) (by decide) rfl rfl (Nat.le_of_ble_eq_true rfl) ?_
  intro p e s m a below meth c ls A Q hQ hsz hx hb hr hts hown hlocks htab hml hP hK hN hE hX hD hA hS hl
  rw [lwW_fst] at hD
  have hl : lv_has ls 4 [(0, .ref (ac 0)), (1, .int x), (2, .ref (ao 0))] := hl
  refine lv_aload_n hx hb dL_count_0 rfl (lv_at hl 2 rfl) ?_
  refine lv_iconst (v := 0) hx hb dL_count_1 (by decide) ?_
  refine lv_aload_n hx hb dL_count_2 rfl (lv_at hl 0 rfl) ?_
  refine lv_iload_n hx hb dL_count_3 rfl (lv_at hl 1 rfl) ?_
  refine cX_V (S := FV) (As := [.int x]) (rest := [.int 0, .ref (ao 0)]) ⟨hx, hb, hml, hown, hts⟩ (c_X3_count l D y _ hst ac an ar K V U x) (cwV 1 hts gL_count_X3_count rfl rfl rfl (by decide +kernel) ⟨Nat.le_of_ble_eq_true rfl, Nat.le_of_ble_eq_true rfl⟩) hK hN hE hX (P_r hP) (by rw [cmA_fst]; exact aD_r hD) hS hA (va_recv hK (P_r hP) (ci := 3) (q0 := 0) rfl (ap_l (wf_at (by decide) rfl))) rfl hl.1 rfl (Nat.le_of_ble_eq_true rfl) dL_count_4 ⟨Nat.le_of_ble_eq_true rfl, Nat.le_of_ble_eq_true rfl⟩ (fun hc ce q9 H locs hP9 hk9 hS h91 h92 h93 => ?_) (fun hc U2 H locs hP9 hk9 hS => ?_)
  · have hP : va_P D vwCl (lwW y ao ac an ar v K V U) H := fr_r hP (by rw [ou_fst, cmA_fst]; exact hD) hk9 hP9
    rcases cd_count x hc with hcd
    rw [hcd] at h93
    refine vx_catch (own := RL) (name := xIO) (E := xIO) hown [] ⟨0, 9, 12, 13⟩ [] (by rw [htab]; rfl) (fun z hz => by cases hz) (by decide) (by decide) (hts (.classLink RL 13 "java/lang/IndexOutOfBoundsException") (by decide +kernel)) (va_Nw.use rfl (hE.2.1 _ (List.mem_of_getElem? (i := 0) rfl))) h91 h92 h93 ?_
    refine lv_astore_n (lv' := [(3, .ref q9), (0, .ref (ac 0)), (1, .int x), (2, .ref (ao 0))]) hx hb dL_count_12 rfl hl (by decide) rfl (fun ls hl => ?_)
    refine lv_iconst (v := 1) hx hb dL_count_13 (by decide) ?_
    subst hQ
    refine W.widen (k := 1) (n := 6) (Nat.le_of_ble_eq_true rfl) (Nat.le_of_ble_eq_true rfl) ?_
    exact vx_ret (W.iret (v := 1) hx hb hr (fun t ht hW => ⟨⟨_, (v, K, V, U), rfl, ⟨by rw [hcd]; exact nI_k1, fun z => absurd z hc, fun _ => ⟨rfl, rfl⟩⟩, bp_at hK hN hP t ht hW⟩, hS.F ht⟩) hS.2.2 dL_count_14)
  · have hP : va_P D vwCl (lwW y ao ac an ar v K V U2) H := fr_r hP (by rw [ou_fst, cmA_fst]; exact hD) hk9 hP9
    refine lv_i2l (v := (tcF V x).toInt64) hx hb dL_count_7 rfl ?_
    refine va_last hx hb hK hP (aD_D hD (lwW_fst y ao ac an ar v K V U2)) hS 0 2 (ap_l (wf_at (by decide) rfl)) rfl (show vp_in (0 : Int32) 1 from vp_in_nI (n := 0) (by decide) (by decide)) dL_count_8 (fun H locs hP _ hS => ?_)
    have hP : va_P D vwCl (lwW y ao ac an ar (vp_updL v (Int32.toNatClampNeg 0) (tcF V x).toInt64) K V U2) H := P_eq (ap_set_l (show 0 < (ouW y ao v).length by rw [wf_len]; omega) (ou_set y ao v _)) hP
    refine lv_goto (tgt := 15) hx hb dL_count_9 (by decide) ?_
    refine lv_iconst (v := 0) hx hb dL_count_15 (by decide) ?_
    subst hQ
    refine W.widen (k := 1) (n := 6) (Nat.le_of_ble_eq_true rfl) (Nat.le_of_ble_eq_true rfl) ?_
    exact vx_ret (W.iret (v := 0) hx hb hr (fun t ht hW => ⟨⟨_, (vp_updL v (Int32.toNatClampNeg 0) (tcF V x).toInt64, K, V, U2), rfl, ⟨by rw [hc]; exact nI_k0, fun _ => ⟨vl_0 v _, rfl, rfl⟩, fun z => absurd hc z⟩, bp_at hK hN hP t ht hW⟩, hS.F ht⟩) hS.2.2 dL_count_16)
abbrev rmL_pass : Room := { frames := 8, cells := 1, slots := 6, locals := 165 }
theorem cd_pass (h : Int32) (h9 : ¬ paC h = 0) : paC h = 2 := by
  revert h9
  unfold paC
  (repeat' split) <;> first | exact fun _ => rfl | exact fun h => absurd rfl h
set_option maxHeartbeats 4000000 in
set_option maxRecDepth 100000 in
/-- pass -/
theorem c_L_pass (l : Launch) (D : va_G) (y : Nat → ClassId) (sz : Nat) (hst : l.stackTraces = false) (ao ac an ar : Nat → Nat) (v : FO) (K V U : FV) (h : Int32) (hO : paC h = 0 → ∀ i, i < ix h → okH K (lsV K V i)) : LW l D y yL_pass wsL_pass rmL_pass 1 6 [.ref (ac 0), .int h, .ref (ao 0)] ao ac an ar v K V U sz (paC h) (lkP (paC h)) (lsC K V (ix h)) K (lsV K V (ix h)) := by
  refine mXH (fun A => va_Qi (fun r9 (u : FO × FV × FV × FV) => r9 = nI (lkP (paC h)) ∧ (paC h = 0 → u.1 0 = (lsC K V (ix h)).toInt64 ∧ u.2.1 = K ∧ u.2.2.1 = (lsV K V (ix h))) ∧ (¬ paC h = 0 → u.2.1 = K ∧ u.2.2.1 = V)) (fun u t => Bp D y (lwW y ao ac an ar u.1 u.2.1 u.2.2.1 u.2.2.2) t) A) (fun A => vx_X (fun (_ : Unit) => False) (fun _ _ _ => True) A) (C := RL) (cc := cL_pass) (maxL := 4) (ret := (some .int)) (hh := [(0, 9, 12, 15)]) (by decide) rfl rfl (Nat.le_of_ble_eq_true rfl) ?_
  intro p e s m a below meth c ls A Q hQ hsz hx hb hr hts hown hlocks htab hml hP hK hN hE hX hD hA hS hl
  rw [lwW_fst] at hD
  have hl : lv_has ls 4 [(0, .ref (ac 0)), (1, .int h), (2, .ref (ao 0))] := hl
  refine lv_aload_n hx hb dL_pass_0 rfl (lv_at hl 2 rfl) ?_
  refine lv_iconst (v := 0) hx hb dL_pass_1 (by decide) ?_
  refine lv_aload_n hx hb dL_pass_2 rfl (lv_at hl 0 rfl) ?_
  refine lv_iload_n hx hb dL_pass_3 rfl (lv_at hl 1 rfl) ?_
  refine cX_V (S := FV) (As := [.int h]) (rest := [.int 0, .ref (ao 0)]) ⟨hx, hb, hml, hown, hts⟩ (c_X3_pass l D y _ hst ac an ar K V U h hO) (cwV 1 hts gL_pass_X3_pass rfl rfl rfl (by decide +kernel) ⟨Nat.le_of_ble_eq_true rfl, Nat.le_of_ble_eq_true rfl⟩) hK hN hE hX (P_r hP) (by rw [cmA_fst]; exact aD_r hD) hS hA (va_recv hK (P_r hP) (ci := 3) (q0 := 0) rfl (ap_l (wf_at (by decide) rfl))) rfl hl.1 rfl (Nat.le_of_ble_eq_true rfl) dL_pass_4 ⟨Nat.le_of_ble_eq_true rfl, Nat.le_of_ble_eq_true rfl⟩ (fun hc ce q9 H locs hP9 hk9 hS h91 h92 h93 => ?_) (fun hc U2 H locs hP9 hk9 hS => ?_)
  · have hP : va_P D vwCl (lwW y ao ac an ar v K V U) H := fr_r hP (by rw [ou_fst, cmA_fst]; exact hD) hk9 hP9
    rcases cd_pass h hc with hcd
    rw [hcd] at h93
    refine vx_catch (own := RL) (name := xIA) (E := xIA) hown [] ⟨0, 9, 12, 15⟩ [] (by rw [htab]; rfl) (fun z hz => by cases hz) (by decide) (by decide) (hts (.classLink RL 15 "java/lang/IllegalArgumentException") (by decide +kernel)) (va_Nw.use rfl (hE.2.1 _ (List.mem_of_getElem? (i := 1) rfl))) h91 h92 h93 ?_
    refine lv_astore_n (lv' := [(3, .ref q9), (0, .ref (ac 0)), (1, .int h), (2, .ref (ao 0))]) hx hb dL_pass_12 rfl hl (by decide) rfl (fun ls hl => ?_)
    refine lv_iconst (v := 1) hx hb dL_pass_13 (by decide) ?_
    subst hQ
    refine W.widen (k := 1) (n := 6) (Nat.le_of_ble_eq_true rfl) (Nat.le_of_ble_eq_true rfl) ?_
    exact vx_ret (W.iret (v := 1) hx hb hr (fun t ht hW => ⟨⟨_, (v, K, V, U), rfl, ⟨by rw [hcd]; exact nI_k1, fun z => absurd z hc, fun _ => ⟨rfl, rfl⟩⟩, bp_at hK hN hP t ht hW⟩, hS.F ht⟩) hS.2.2 dL_pass_14)
  · have hP : va_P D vwCl (lwW y ao ac an ar v K (lsV K V (ix h)) U2) H := fr_r hP (by rw [ou_fst, cmA_fst]; exact hD) hk9 hP9
    refine lv_i2l (v := (lsC K V (ix h)).toInt64) hx hb dL_pass_7 rfl ?_
    refine va_last hx hb hK hP (aD_D hD (lwW_fst y ao ac an ar v K (lsV K V (ix h)) U2)) hS 0 2 (ap_l (wf_at (by decide) rfl)) rfl (show vp_in (0 : Int32) 1 from vp_in_nI (n := 0) (by decide) (by decide)) dL_pass_8 (fun H locs hP _ hS => ?_)
    have hP : va_P D vwCl (lwW y ao ac an ar (vp_updL v (Int32.toNatClampNeg 0) (lsC K V (ix h)).toInt64) K (lsV K V (ix h)) U2) H := P_eq (ap_set_l (show 0 < (ouW y ao v).length by rw [wf_len]; omega) (ou_set y ao v _)) hP
    refine lv_goto (tgt := 15) hx hb dL_pass_9 (by decide) ?_
    refine lv_iconst (v := 0) hx hb dL_pass_15 (by decide) ?_
    subst hQ
    refine W.widen (k := 1) (n := 6) (Nat.le_of_ble_eq_true rfl) (Nat.le_of_ble_eq_true rfl) ?_
    exact vx_ret (W.iret (v := 0) hx hb hr (fun t ht hW => ⟨⟨_, (vp_updL v (Int32.toNatClampNeg 0) (lsC K V (ix h)).toInt64, K, (lsV K V (ix h)), U2), rfl, ⟨by rw [hc]; exact nI_k0, fun _ => ⟨vl_0 v _, rfl, rfl⟩, fun z => absurd hc z⟩, bp_at hK hN hP t ht hW⟩, hS.F ht⟩) hS.2.2 dL_pass_16)
