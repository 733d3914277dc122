abbrev rmL_meets : Room := { frames := 8, cells := 1, slots := 6, locals := 166 }
theorem cd_meets (V : FV) (x : Int32) (h9 : ¬ meC V x = 0) : meC V x = 1 := by
  revert h9
  unfold meC
  (repeat' split) <;> first | exact fun _ => rfl | exact fun h => absurd rfl h
set_option maxHeartbeats 4000000 in
set_option maxRecDepth 100000 in
/-- meets -/
theorem c_L_meets (l : Launch) (D : va_G) (y : Nat → ClassId) (sz : Nat) (hst : l.stackTraces = false) (ao ac an ar : Nat → Nat) (v : FO) (K V U : FV) (x : Int32) (hT : vp_in (V 0 3) 4) (hO : ∀ i, i < 91 → okH K (lsV K V i)) (hI : ∀ i, i < 91 → rvI (lsV K V i)) : LW l D y yL_meets wsL_meets rmL_meets 1 6 [.ref (ac 0), .int x, .ref (ao 0)] ao ac an ar v K V U sz (meC V x) (meC V x) (fiN (mtP K V (ix x)) 0 91) K V := by
  refine mXH (fun A => va_Qi (fun r9 (u : FO × FV × FV × FV) => r9 = nI (meC V x) ∧ (meC V x = 0 → u.1 0 = (fiN (mtP K V (ix x)) 0 91).toInt64 ∧ u.2.1 = K ∧ u.2.2.1 = V) ∧ (¬ meC V x = 0 → u.2.1 = K ∧ u.2.2.1 = V)) (fun u t => Bp D y (lwW y ao ac an ar u.1 u.2.1 u.2.2.1 u.2.2.2) t) A) (fun A => vx_X (fun (_ : Unit) => False) (fun _ _ _ => True) A) (C := RL) (cc := cL_meets) (maxL := 4) (ret := (some .int)) (hh := [(0, 9, 12, 13)]) (by decide) rfl rfl (Nat.le_of_ble_eq_true rfl) ?_
  intro p e s m a below meth c ls A Q hQ hsz hx hb hr hts hown hlocks htab hml hP hK hN hE hX hD hA hS hl
  rw [lwW_fst] at hD
  have hl : lv_has ls 4 [(0, .ref (ac 0)), (1, .int x), (2, .ref (ao 0))] := hl
  refine lv_aload_n hx hb dL_meets_0 rfl (lv_at hl 2 rfl) ?_
  refine lv_iconst (v := 0) hx hb dL_meets_1 (by decide) ?_
  refine lv_aload_n hx hb dL_meets_2 rfl (lv_at hl 0 rfl) ?_
  refine lv_iload_n hx hb dL_meets_3 rfl (lv_at hl 1 rfl) ?_
  refine cX_V (S := FV) (As := [.int x]) (rest := [.int 0, .ref (ao 0)]) ⟨hx, hb, hml, hown, hts⟩ (c_X3_meets l D y _ hst ac an ar K V U x hT hO hI) (cwV 1 hts gL_meets_X3_meets rfl rfl rfl (by decide +kernel) ⟨Nat.le_of_ble_eq_true rfl, Nat.le_of_ble_eq_true rfl⟩) hK hN hE hX (P_r hP) (by rw [cmA_fst]; exact aD_r hD) hS hA (va_recv hK (P_r hP) (ci := 3) (q0 := 0) rfl (ap_l (wf_at (by decide) rfl))) rfl hl.1 rfl (Nat.le_of_ble_eq_true rfl) dL_meets_4 ⟨Nat.le_of_ble_eq_true rfl, Nat.le_of_ble_eq_true rfl⟩ (fun hc ce q9 H locs hP9 hk9 hS h91 h92 h93 => ?_) (fun hc U2 H locs hP9 hk9 hS => ?_)
  · have hP : va_P D vwCl (lwW y ao ac an ar v K V U) H := fr_r hP (by rw [ou_fst, cmA_fst]; exact hD) hk9 hP9
    rcases cd_meets V x hc with hcd
    rw [hcd] at h93
    refine vx_catch (own := RL) (name := xIO) (E := xIO) hown [] ⟨0, 9, 12, 13⟩ [] (by rw [htab]; rfl) (fun z hz => by cases hz) (by decide) (by decide) (hts (.classLink RL 13 "java/lang/IndexOutOfBoundsException") (by decide +kernel)) (va_Nw.use rfl (hE.2.1 _ (List.mem_of_getElem? (i := 0) rfl))) h91 h92 h93 ?_
    refine lv_astore_n (lv' := [(3, .ref q9), (0, .ref (ac 0)), (1, .int x), (2, .ref (ao 0))]) hx hb dL_meets_12 rfl hl (by decide) rfl (fun ls hl => ?_)
    refine lv_iconst (v := 1) hx hb dL_meets_13 (by decide) ?_
    subst hQ
    refine W.widen (k := 1) (n := 6) (Nat.le_of_ble_eq_true rfl) (Nat.le_of_ble_eq_true rfl) ?_
    exact vx_ret (W.iret (v := 1) hx hb hr (fun t ht hW => ⟨⟨_, (v, K, V, U), rfl, ⟨by rw [hcd]; exact nI_k1, fun z => absurd z hc, fun _ => ⟨rfl, rfl⟩⟩, bp_at hK hN hP t ht hW⟩, hS.F ht⟩) hS.2.2 dL_meets_14)
  · have hP : va_P D vwCl (lwW y ao ac an ar v K V U2) H := fr_r hP (by rw [ou_fst, cmA_fst]; exact hD) hk9 hP9
    refine lv_i2l (v := (fiN (mtP K V (ix x)) 0 91).toInt64) hx hb dL_meets_7 rfl ?_
    refine va_last hx hb hK hP (aD_D hD (lwW_fst y ao ac an ar v K V U2)) hS 0 2 (ap_l (wf_at (by decide) rfl)) rfl (show vp_in (0 : Int32) 1 from vp_in_nI (n := 0) (by decide) (by decide)) dL_meets_8 (fun H locs hP _ hS => ?_)
    have hP : va_P D vwCl (lwW y ao ac an ar (vp_updL v (Int32.toNatClampNeg 0) (fiN (mtP K V (ix x)) 0 91).toInt64) K V U2) H := P_eq (ap_set_l (show 0 < (ouW y ao v).length by rw [wf_len]; omega) (ou_set y ao v _)) hP
    refine lv_goto (tgt := 15) hx hb dL_meets_9 (by decide) ?_
    refine lv_iconst (v := 0) hx hb dL_meets_15 (by decide) ?_
    subst hQ
    refine W.widen (k := 1) (n := 6) (Nat.le_of_ble_eq_true rfl) (Nat.le_of_ble_eq_true rfl) ?_
    exact vx_ret (W.iret (v := 0) hx hb hr (fun t ht hW => ⟨⟨_, (vp_updL v (Int32.toNatClampNeg 0) (fiN (mtP K V (ix x)) 0 91).toInt64, K, V, U2), rfl, ⟨by rw [hc]; exact nI_k0, fun _ => ⟨vl_0 v _, rfl, rfl⟩, fun z => absurd hc z⟩, bp_at hK hN hP t ht hW⟩, hS.F ht⟩) hS.2.2 dL_meets_16)
abbrev rmL_sinks : Room := { frames := 8, cells := 1, slots := 6, locals := 166 }
theorem cd_sinks (V : FV) (x : Int32) (h9 : ¬ siC V x = 0) : siC V x = 1 := by
  revert h9
  unfold siC
  (repeat' split) <;> first | exact fun _ => rfl | exact fun h => absurd rfl h
set_option maxHeartbeats 4000000 in
set_option maxRecDepth 100000 in
/-- sinks -/
theorem c_L_sinks (l : Launch) (D : va_G) (y : Nat → ClassId) (sz : Nat) (hst : l.stackTraces = false) (ao ac an ar : Nat → Nat) (v : FO) (K V U : FV) (x : Int32) (hM : vp_in (V 0 2) 7) (hO : ∀ i, i < 91 → okH K (lsV K V i)) (hI : ∀ i, i < 91 → rvI (lsV K V i)) : LW l D y yL_sinks wsL_sinks rmL_sinks 1 6 [.ref (ac 0), .int x, .ref (ao 0)] ao ac an ar v K V U sz (siC V x) (siC V x) (fiN (siP K V (ix x)) 0 91) K V := by
  refine mXH (fun A => va_Qi (fun r9 (u : FO × FV × FV × FV) => r9 = nI (siC V x) ∧ (siC V x = 0 → u.1 0 = (fiN (siP K V (ix x)) 0 91).toInt64 ∧ u.2.1 = K ∧ u.2.2.1 = V) ∧ (¬ siC V x = 0 → u.2.1 = K ∧ u.2.2.1 = V)) (fun u t => Bp D y (lwW y ao ac an ar u.1 u.2.1 u.2.2.1 u.2.2.2) t) A) (fun A => vx_X (fun (_ : Unit) => False) (fun _ _ _ => True) A) (C := RL) (cc := cL_sinks) (maxL := 4) (ret := (some .int)) (hh := [(0, 9, 12, 13)]) (by decide) rfl rfl (Nat.le_of_ble_eq_true rfl) ?_
  intro p e s m a below meth c ls A Q hQ hsz hx hb hr hts hown hlocks htab hml hP hK hN hE hX hD hA hS hl
  rw [lwW_fst] at hD
  have hl : lv_has ls 4 [(0, .ref (ac 0)), (1, .int x), (2, .ref (ao 0))] := hl
  refine lv_aload_n hx hb dL_sinks_0 rfl (lv_at hl 2 rfl) ?_
  refine lv_iconst (v := 0) hx hb dL_sinks_1 (by decide) ?_
  refine lv_aload_n hx hb dL_sinks_2 rfl (lv_at hl 0 rfl) ?_
  refine lv_iload_n hx hb dL_sinks_3 rfl (lv_at hl 1 rfl) ?_
  refine cX_V (S := FV) (As := [.int x]) (rest := [.int 0, .ref (ao 0)]) ⟨hx, hb, hml, hown, hts⟩ (c_X3_sinks l D y _ hst ac an ar K V U x hM hO hI) (cwV 1 hts gL_sinks_X3_sinks rfl rfl rfl (by decide +kernel) ⟨Nat.le_of_ble_eq_true rfl, Nat.le_of_ble_eq_true rfl⟩) hK hN hE hX (P_r hP) (by rw [cmA_fst]; exact aD_r hD) hS hA (va_recv hK (P_r hP) (ci := 3) (q0 := 0) rfl (ap_l (wf_at (by decide) rfl))) rfl hl.1 rfl (Nat.le_of_ble_eq_true rfl) dL_sinks_4 ⟨Nat.le_of_ble_eq_true rfl, Nat.le_of_ble_eq_true rfl⟩ (fun hc ce q9 H locs hP9 hk9 hS h91 h92 h93 => ?_) (fun hc U2 H locs hP9 hk9 hS => ?_)
  · have hP : va_P D vwCl (lwW y ao ac an ar v K V U) H := fr_r hP (by rw [ou_fst, cmA_fst]; exact hD) hk9 hP9
    rcases cd_sinks V x hc with hcd
    rw [hcd] at h93
    refine vx_catch (own := RL) (name := xIO) (E := xIO) hown [] ⟨0, 9, 12, 13⟩ [] (by rw [htab]; rfl) (fun z hz => by cases hz) (by decide) (by decide) (hts (.classLink RL 13 "java/lang/IndexOutOfBoundsException") (by decide +kernel)) (va_Nw.use rfl (hE.2.1 _ (List.mem_of_getElem? (i := 0) rfl))) h91 h92 h93 ?_
    refine lv_astore_n (lv' := [(3, .ref q9), (0, .ref (ac 0)), (1, .int x), (2, .ref (ao 0))]) hx hb dL_sinks_12 rfl hl (by decide) rfl (fun ls hl => ?_)
    refine lv_iconst (v := 1) hx hb dL_sinks_13 (by decide) ?_
    subst hQ
    refine W.widen (k := 1) (n := 6) (Nat.le_of_ble_eq_true rfl) (Nat.le_of_ble_eq_true rfl) ?_
    exact vx_ret (W.iret (v := 1) hx hb hr (fun t ht hW => ⟨⟨_, (v, K, V, U), rfl, ⟨by rw [hcd]; exact nI_k1, fun z => absurd z hc, fun _ => ⟨rfl, rfl⟩⟩, bp_at hK hN hP t ht hW⟩, hS.F ht⟩) hS.2.2 dL_sinks_14)
  · have hP : va_P D vwCl (lwW y ao ac an ar v K V U2) H := fr_r hP (by rw [ou_fst, cmA_fst]; exact hD) hk9 hP9
    refine lv_i2l (v := (fiN (siP K V (ix x)) 0 91).toInt64) hx hb dL_sinks_7 rfl ?_
    refine va_last hx hb hK hP (aD_D hD (lwW_fst y ao ac an ar v K V U2)) hS 0 2 (ap_l (wf_at (by decide) rfl)) rfl (show vp_in (0 : Int32) 1 from vp_in_nI (n := 0) (by decide) (by decide)) dL_sinks_8 (fun H locs hP _ hS => ?_)
    have hP : va_P D vwCl (lwW y ao ac an ar (vp_updL v (Int32.toNatClampNeg 0) (fiN (siP K V (ix x)) 0 91).toInt64) K V U2) H := P_eq (ap_set_l (show 0 < (ouW y ao v).length by rw [wf_len]; omega) (ou_set y ao v _)) hP
    refine lv_goto (tgt := 15) hx hb dL_sinks_9 (by decide) ?_
    refine lv_iconst (v := 0) hx hb dL_sinks_15 (by decide) ?_
    subst hQ
    refine W.widen (k := 1) (n := 6) (Nat.le_of_ble_eq_true rfl) (Nat.le_of_ble_eq_true rfl) ?_
    exact vx_ret (W.iret (v := 0) hx hb hr (fun t ht hW => ⟨⟨_, (vp_updL v (Int32.toNatClampNeg 0) (fiN (siP K V (ix x)) 0 91).toInt64, K, V, U2), rfl, ⟨by rw [hc]; exact nI_k0, fun _ => ⟨vl_0 v _, rfl, rfl⟩, fun z => absurd hc z⟩, bp_at hK hN hP t ht hW⟩, hS.F ht⟩) hS.2.2 dL_sinks_16)
abbrev rmL_foresee : Room := { frames := 8, cells := 2, slots := 12, locals := 166 }
theorem cd_foresee (h x : Int32) (h9 : ¬ foC h x = 0) : foC h x = 1 ∨ foC h x = 2 := by
  revert h9
  unfold foC
  (repeat' split) <;> first | exact fun _ => Or.inl rfl | exact fun _ => Or.inr rfl | exact fun h => absurd rfl h
set_option maxHeartbeats 4000000 in
set_option maxRecDepth 100000 in
/-- foresee -/
theorem c_L_foresee (l : Launch) (D : va_G) (y : Nat → ClassId) (sz : Nat) (hst : l.stackTraces = false) (ao ac an ar : Nat → Nat) (v : FO) (K V U : FV) (h x : Int32) (hI0 : rvI V) (hO : foC h x = 0 → ∀ i, i < ix h → okH K (lsV K V i)) : LW l D y yL_foresee wsL_foresee rmL_foresee 2 12 [.ref (ac 0), .int h, .int x, .ref (ao 0)] ao ac an ar v K V U sz (foC h x) (lkG (foC h x)) (tcF (lsV K V (ix h)) x) K V := by
  refine mXH (fun A => va_Qi (fun r9 (u : FO × FV × FV × FV) => r9 = nI (lkG (foC h x)) ∧ (foC h x = 0 → u.1 0 = (tcF (lsV K V (ix h)) x).toInt64 ∧ u.2.1 = K ∧ u.2.2.1 = V) ∧ (¬ foC h x = 0 → u.2.1 = K ∧ u.2.2.1 = V)) (fun u t => Bp D y (lwW y ao ac an ar u.1 u.2.1 u.2.2.1 u.2.2.2) t) A) (fun A => vx_X (fun (_ : Unit) => False) (fun _ _ _ => True) A) (C := RL) (cc := cL_foresee) (maxL := 5) (ret := (some .int)) (hh := [(0, 10, 13, 15), (0, 10, 17, 13)]) (by decide) rfl rfl (Nat.le_of_ble_eq_true rfl) ?_
  intro p e s m a below meth c ls A Q hQ hsz hx hb hr hts hown hlocks htab hml hP hK hN hE hX hD hA hS hl
  rw [lwW_fst] at hD
  have hl : lv_has ls 5 [(0, .ref (ac 0)), (1, .int h), (2, .int x), (3, .ref (ao 0))] := hl
  refine lv_aload_n hx hb dL_foresee_0 rfl (lv_at hl 3 rfl) ?_
  refine lv_iconst (v := 0) hx hb dL_foresee_1 (by decide) ?_
  refine lv_aload_n hx hb dL_foresee_2 rfl (lv_at hl 0 rfl) ?_
  refine lv_iload_n hx hb dL_foresee_3 rfl (lv_at hl 1 rfl) ?_
  refine lv_iload_n hx hb dL_foresee_4 rfl (lv_at hl 2 rfl) ?_
  refine cX_V (S := FV) (As := [.int h, .int x]) (rest := [.int 0, .ref (ao 0)]) ⟨hx, hb, hml, hown, hts⟩ (c_X3_foresee l D y _ hst ac an ar K V U h x hI0 hO) (cwV 2 hts gL_foresee_X3_foresee rfl rfl rfl (by decide +kernel) ⟨Nat.le_of_ble_eq_true rfl, Nat.le_of_ble_eq_true rfl⟩) hK hN hE hX (P_r hP) (by rw [cmA_fst]; exact aD_r hD) hS hA (va_recv hK (P_r hP) (ci := 3) (q0 := 0) rfl (ap_l (wf_at (by decide) rfl))) rfl hl.1 rfl (Nat.le_of_ble_eq_true rfl) dL_foresee_5 ⟨Nat.le_of_ble_eq_true rfl, Nat.le_of_ble_eq_true rfl⟩ (fun hc ce q9 H locs hP9 hk9 hS h91 h92 h93 => ?_) (fun hc U2 H locs hP9 hk9 hS => ?_)
  · have hP : va_P D vwCl (lwW y ao ac an ar v K V U) H := fr_r hP (by rw [ou_fst, cmA_fst]; exact hD) hk9 hP9
    rcases cd_foresee h x hc with hcd | hcd
    · rw [hcd] at h93
      refine vx_catch (own := RL) (name := xIO) (E := xIO) hown [⟨0, 10, 13, 15⟩] ⟨0, 10, 17, 13⟩ [] (by rw [htab]; rfl) (fun z hz => by rw [List.mem_singleton] at hz; subst hz; exact Or.inr ⟨by decide, xIA, hts (.classLink RL 15 "java/lang/IllegalArgumentException") (by decide +kernel), hE.2.2 _ (List.mem_of_getElem? (i := 0) rfl)⟩) (by decide) (by decide) (hts (.classLink RL 13 "java/lang/IndexOutOfBoundsException") (by decide +kernel)) (va_Nw.use rfl (hE.2.1 _ (List.mem_of_getElem? (i := 0) rfl))) h91 h92 h93 ?_
      refine lv_astore (lv' := [(4, .ref q9), (0, .ref (ac 0)), (1, .int h), (2, .int x), (3, .ref (ao 0))]) hx hb dL_foresee_17 hl (by decide) rfl (fun ls hl => ?_)
      refine lv_iconst (v := 2) hx hb dL_foresee_19 (by decide) ?_
      subst hQ
      refine W.widen (k := 2) (n := 12) (Nat.le_of_ble_eq_true rfl) (Nat.le_of_ble_eq_true rfl) ?_
      exact vx_ret (W.iret (v := 2) hx hb hr (fun t ht hW => ⟨⟨_, (v, K, V, U), rfl, ⟨by rw [hcd]; exact nI_k2, fun z => absurd z hc, fun _ => ⟨rfl, rfl⟩⟩, bp_at hK hN hP t ht hW⟩, hS.F ht⟩) hS.2.2 dL_foresee_20)
    · rw [hcd] at h93
      refine vx_catch (own := RL) (name := xIA) (E := xIA) hown [] ⟨0, 10, 13, 15⟩ [⟨0, 10, 17, 13⟩] (by rw [htab]; rfl) (fun z hz => by cases hz) (by decide) (by decide) (hts (.classLink RL 15 "java/lang/IllegalArgumentException") (by decide +kernel)) (va_Nw.use rfl (hE.2.1 _ (List.mem_of_getElem? (i := 1) rfl))) h91 h92 h93 ?_
      refine lv_astore (lv' := [(4, .ref q9), (0, .ref (ac 0)), (1, .int h), (2, .int x), (3, .ref (ao 0))]) hx hb dL_foresee_13 hl (by decide) rfl (fun ls hl => ?_)
      refine lv_iconst (v := 1) hx hb dL_foresee_15 (by decide) ?_
      subst hQ
      refine W.widen (k := 2) (n := 12) (Nat.le_of_ble_eq_true rfl) (Nat.le_of_ble_eq_true rfl) ?_
      exact vx_ret (W.iret (v := 1) hx hb hr (fun t ht hW => ⟨⟨_, (v, K, V, U), rfl, ⟨by rw [hcd]; exact nI_k1, fun z => absurd z hc, fun _ => ⟨rfl, rfl⟩⟩, bp_at hK hN hP t ht hW⟩, hS.F ht⟩) hS.2.2 dL_foresee_16)
  · have hP : va_P D vwCl (lwW y ao ac an ar v K V U2) H := fr_r hP (by rw [ou_fst, cmA_fst]; exact hD) hk9 hP9
    refine lv_i2l (v := (tcF (lsV K V (ix h)) x).toInt64) hx hb dL_foresee_8 rfl ?_
    refine va_last hx hb hK hP (aD_D hD (lwW_fst y ao ac an ar v K V U2)) hS 0 2 (ap_l (wf_at (by decide) rfl)) rfl (show vp_in (0 : Int32) 1 from vp_in_nI (n := 0) (by decide) (by decide)) dL_foresee_9 (fun H locs hP _ hS => ?_)
    have hP : va_P D vwCl (lwW y ao ac an ar (vp_updL v (Int32.toNatClampNeg 0) (tcF (lsV K V (ix h)) x).toInt64) K V U2) H := P_eq (ap_set_l (show 0 < (ouW y ao v).length by rw [wf_len]; omega) (ou_set y ao v _)) hP
    refine lv_goto (tgt := 21) hx hb dL_foresee_10 (by decide) ?_
    refine lv_iconst (v := 0) hx hb dL_foresee_21 (by decide) ?_
    subst hQ
    refine W.widen (k := 2) (n := 12) (Nat.le_of_ble_eq_true rfl) (Nat.le_of_ble_eq_true rfl) ?_
    exact vx_ret (W.iret (v := 0) hx hb hr (fun t ht hW => ⟨⟨_, (vp_updL v (Int32.toNatClampNeg 0) (tcF (lsV K V (ix h)) x).toInt64, K, V, U2), rfl, ⟨by rw [hc]; exact nI_k0, fun _ => ⟨vl_0 v _, rfl, rfl⟩, fun z => absurd hc z⟩, bp_at hK hN hP t ht hW⟩, hS.F ht⟩) hS.2.2 dL_foresee_22)
abbrev rmL_advise : Room := { frames := 8, cells := 2, slots := 12, locals := 194 }
theorem cd_advise (V : FV) (x h : Int32) (h9 : ¬ adC V x h = 0) : adC V x h = 1 ∨ adC V x h = 2 := by
  revert h9
  unfold adC
  (repeat' split) <;> first | exact fun _ => Or.inl rfl | exact fun _ => Or.inr rfl | exact fun h => absurd rfl h
set_option maxHeartbeats 4000000 in
set_option maxRecDepth 100000 in
/-- advise -/
theorem c_L_advise (l : Launch) (D : va_G) (y : Nat → ClassId) (sz : Nat) (hst : l.stackTraces = false) (ao ac an ar : Nat → Nat) (v : FO) (K V U : FV) (x h : Int32) (hT : vp_in (V 0 3) 4) (hI0 : rvI V) (hO : adC V x h = 0 → ∀ g, g < 16 → ∀ i, i < ix h → okH K (lsV K (glV V (ix x) (nI g)) i)) : LW l D y yL_advise wsL_advise rmL_advise 2 12 [.ref (ac 0), .int x, .int h, .ref (ao 0)] ao ac an ar v K V U sz (adC V x h) (adC V x h) (adB (cwF K V (ix x) (ix h)) 16) K V := by
  refine mXH (fun A => va_Qi (fun r9 (u : FO × FV × FV × FV) => r9 = nI (adC V x h) ∧ (adC V x h = 0 → u.1 0 = (adB (cwF K V (ix x) (ix h)) 16).toInt64 ∧ u.2.1 = K ∧ u.2.2.1 = V) ∧ (¬ adC V x h = 0 → u.2.1 = K ∧ u.2.2.1 = V)) (fun u t => Bp D y (lwW y ao ac an ar u.1 u.2.1 u.2.2.1 u.2.2.2) t) A) (fun A => vx_X (fun (_ : Unit) => False) (fun _ _ _ => True) A) (C := RL) (cc := cL_advise) (maxL := 5) (ret := (some .int)) (hh := [(0, 10, 13, 13), (0, 10, 17, 15)]) (by decide) rfl rfl (Nat.le_of_ble_eq_true rfl) ?_
  intro p e s m a below meth c ls A Q hQ hsz hx hb hr hts hown hlocks htab hml hP hK hN hE hX hD hA hS hl
  rw [lwW_fst] at hD
  have hl : lv_has ls 5 [(0, .ref (ac 0)), (1, .int x), (2, .int h), (3, .ref (ao 0))] := hl
  refine lv_aload_n hx hb dL_advise_0 rfl (lv_at hl 3 rfl) ?_
  refine lv_iconst (v := 0) hx hb dL_advise_1 (by decide) ?_
  refine lv_aload_n hx hb dL_advise_2 rfl (lv_at hl 0 rfl) ?_
  refine lv_iload_n hx hb dL_advise_3 rfl (lv_at hl 1 rfl) ?_
  refine lv_iload_n hx hb dL_advise_4 rfl (lv_at hl 2 rfl) ?_
  refine cX_V (S := FV) (As := [.int x, .int h]) (rest := [.int 0, .ref (ao 0)]) ⟨hx, hb, hml, hown, hts⟩ (c_X3_advise l D y _ hst ac an ar K V U x h hT hI0 hO) (cwV 2 hts gL_advise_X3_advise rfl rfl rfl (by decide +kernel) ⟨Nat.le_of_ble_eq_true rfl, Nat.le_of_ble_eq_true rfl⟩) hK hN hE hX (P_r hP) (by rw [cmA_fst]; exact aD_r hD) hS hA (va_recv hK (P_r hP) (ci := 3) (q0 := 0) rfl (ap_l (wf_at (by decide) rfl))) rfl hl.1 rfl (Nat.le_of_ble_eq_true rfl) dL_advise_5 ⟨Nat.le_of_ble_eq_true rfl, Nat.le_of_ble_eq_true rfl⟩ (fun hc ce q9 H locs hP9 hk9 hS h91 h92 h93 => ?_) (fun hc U2 H locs hP9 hk9 hS => ?_)
  · have hP : va_P D vwCl (lwW y ao ac an ar v K V U) H := fr_r hP (by rw [ou_fst, cmA_fst]; exact hD) hk9 hP9
    rcases cd_advise V x h hc with hcd | hcd
    · rw [hcd] at h93
      refine vx_catch (own := RL) (name := xIO) (E := xIO) hown [] ⟨0, 10, 13, 13⟩ [⟨0, 10, 17, 15⟩] (by rw [htab]; rfl) (fun z hz => by cases hz) (by decide) (by decide) (hts (.classLink RL 13 "java/lang/IndexOutOfBoundsException") (by decide +kernel)) (va_Nw.use rfl (hE.2.1 _ (List.mem_of_getElem? (i := 0) rfl))) h91 h92 h93 ?_
      refine lv_astore (lv' := [(4, .ref q9), (0, .ref (ac 0)), (1, .int x), (2, .int h), (3, .ref (ao 0))]) hx hb dL_advise_13 hl (by decide) rfl (fun ls hl => ?_)
      refine lv_iconst (v := 1) hx hb dL_advise_15 (by decide) ?_
      subst hQ
      refine W.widen (k := 2) (n := 12) (Nat.le_of_ble_eq_true rfl) (Nat.le_of_ble_eq_true rfl) ?_
      exact vx_ret (W.iret (v := 1) hx hb hr (fun t ht hW => ⟨⟨_, (v, K, V, U), rfl, ⟨by rw [hcd]; exact nI_k1, fun z => absurd z hc, fun _ => ⟨rfl, rfl⟩⟩, bp_at hK hN hP t ht hW⟩, hS.F ht⟩) hS.2.2 dL_advise_16)
    · rw [hcd] at h93
      refine vx_catch (own := RL) (name := xIA) (E := xIA) hown [⟨0, 10, 13, 13⟩] ⟨0, 10, 17, 15⟩ [] (by rw [htab]; rfl) (fun z hz => by rw [List.mem_singleton] at hz; subst hz; exact Or.inr ⟨by decide, xIO, hts (.classLink RL 13 "java/lang/IndexOutOfBoundsException") (by decide +kernel), hE.2.2 _ (List.mem_of_getElem? (i := 2) rfl)⟩) (by decide) (by decide) (hts (.classLink RL 15 "java/lang/IllegalArgumentException") (by decide +kernel)) (va_Nw.use rfl (hE.2.1 _ (List.mem_of_getElem? (i := 1) rfl))) h91 h92 h93 ?_
      refine lv_astore (lv' := [(4, .ref q9), (0, .ref (ac 0)), (1, .int x), (2, .int h), (3, .ref (ao 0))]) hx hb dL_advise_17 hl (by decide) rfl (fun ls hl => ?_)
      refine lv_iconst (v := 2) hx hb dL_advise_19 (by decide) ?_
      subst hQ
      refine W.widen (k := 2) (n := 12) (Nat.le_of_ble_eq_true rfl) (Nat.le_of_ble_eq_true rfl) ?_
      exact vx_ret (W.iret (v := 2) hx hb hr (fun t ht hW => ⟨⟨_, (v, K, V, U), rfl, ⟨by rw [hcd]; exact nI_k2, fun z => absurd z hc, fun _ => ⟨rfl, rfl⟩⟩, bp_at hK hN hP t ht hW⟩, hS.F ht⟩) hS.2.2 dL_advise_20)
  · have hP : va_P D vwCl (lwW y ao ac an ar v K V U2) H := fr_r hP (by rw [ou_fst, cmA_fst]; exact hD) hk9 hP9
    refine lv_i2l (v := (adB (cwF K V (ix x) (ix h)) 16).toInt64) hx hb dL_advise_8 rfl ?_
    refine va_last hx hb hK hP (aD_D hD (lwW_fst y ao ac an ar v K V U2)) hS 0 2 (ap_l (wf_at (by decide) rfl)) rfl (show vp_in (0 : Int32) 1 from vp_in_nI (n := 0) (by decide) (by decide)) dL_advise_9 (fun H locs hP _ hS => ?_)
    have hP : va_P D vwCl (lwW y ao ac an ar (vp_updL v (Int32.toNatClampNeg 0) (adB (cwF K V (ix x) (ix h)) 16).toInt64) K V U2) H := P_eq (ap_set_l (show 0 < (ouW y ao v).length by rw [wf_len]; omega) (ou_set y ao v _)) hP
    refine lv_goto (tgt := 21) hx hb dL_advise_10 (by decide) ?_
    refine lv_iconst (v := 0) hx hb dL_advise_21 (by decide) ?_
    subst hQ
    refine W.widen (k := 2) (n := 12) (Nat.le_of_ble_eq_true rfl) (Nat.le_of_ble_eq_true rfl) ?_
    exact vx_ret (W.iret (v := 0) hx hb hr (fun t ht hW => ⟨⟨_, (vp_updL v (Int32.toNatClampNeg 0) (adB (cwF K V (ix x) (ix h)) 16).toInt64, K, V, U2), rfl, ⟨by rw [hc]; exact nI_k0, fun _ => ⟨vl_0 v _, rfl, rfl⟩, fun z => absurd hc z⟩, bp_at hK hN hP t ht hW⟩, hS.F ht⟩) hS.2.2 dL_advise_22)
