def mnM (F U : Nat → Nat → Int32) : UInt64 := if F 0 1 = 0 then 0 else FP.ddiv (FP.i2d (smI (U 4) (ix (F 0 1)))) (FP.i2d (F 0 1))
def d1M (F U : Nat → Nat → Int32) (k : Nat) : Int32 := cuM F U (nI k)
def d3M (F U : Nat → Nat → Int32) (k : Nat) : Int32 := ctM F U (nI (k / 10)) (nI (k % 10))
def d4M (F U : Nat → Nat → Int32) (k : Nat) : Int32 := nuM F U (k / 4) (nI (k % 4))
def d5M (F U : Nat → Nat → Int32) (k : Nat) : Int32 := rtM F U (nI (k / 2)) (nI (k % 2))
def dgM (F U : Nat → Nat → Int32) : Int64 := dgS (d5M F U) (dgS (d4M F U) (dgS (d3M F U) (dgT F (dgS (d1M F U) 1487 13) 8) (10 * ix (F 0 1))) (4 * ix (F 0 2))) 32
theorem dv10 : ∀ k, k < 64 → nI k / 10 = nI (k / 10) ∧ nI k - nI k / 10 * 10 = nI (k % 10) := by decide +kernel
theorem dv4 : ∀ k, k < 64 → nI k / 4 = nI (k / 4) ∧ nI k - nI k / 4 * 4 = nI (k % 4) := by decide +kernel
theorem dv2 : ∀ k, k < 64 → nI k / 2 = nI (k / 2) ∧ nI k - nI k / 2 * 2 = nI (k % 2) := by decide +kernel
theorem mu10 {x : Int32} (h : vp_in x 7) : 10 * x = nI (10 * ix x) := by
  obtain ⟨j, hj, rfl⟩ := vp_in_of h (by decide)
  rw [show ix (nI j) = j from nI_clamp (by omega)]
  have : ∀ j, j < 7 → 10 * nI j = nI (10 * j) := by decide +kernel
  exact this j hj
theorem mu4 {x : Int32} (h : vp_in x 4) : 4 * x = nI (4 * ix x) := by
  obtain ⟨j, hj, rfl⟩ := vp_in_of h (by decide)
  rw [show ix (nI j) = j from nI_clamp (by omega)]
  have : ∀ j, j < 4 → 4 * nI j = nI (4 * j) := by decide +kernel
  exact this j hj
abbrev rmX5_mean : Room := { frames := 0, cells := 0, slots := 0, locals := 0 }
set_option maxHeartbeats 4000000 in
set_option maxRecDepth 100000 in
/-- mean() -/
theorem c_X5_mean (l : Launch) (D : va_G) (y : Nat → ClassId) (sz : Nat) (am bs ba : Nat → Nat) (F U X : Nat → Nat → Int32) (hC : vp_in (th F 0 1) 7) (hz : ¬ th F 0 1 = 0 → vf_n64 (FP.ddiv (FP.i2d (smI (U 4) (ix (th F 0 1)))) (FP.i2d (th F 0 1)))) : WrD l D y yX5_mean wsX5_mean rmX5_mean [.ref (am 0)] (moA y am bs ba F U X) sz (mnM (th F) U) (moA y am bs ba (th F) U X) := by
  refine mW (fun A => va_Qd (fun r9 (_ : Unit) => r9 = (mnM (th F) U)) (fun _ t9 => Bp D y (moA y am bs ba (th F) U X) t9) A) (C := RX5) (cc := cX5_mean) (maxL := 3) (ret := (some .double)) (by decide) rfl rfl (Nat.le_of_ble_eq_true rfl) ?_
  intro p e s m a below meth c ls A Q hQ hsz hx hb hr hts hown hlocks hin hml hP hK hN hD hA hS hl
  have hl : lv_has ls 3 [(0, .ref (am 0))] := hl
  rw [moA_fst] at hD
  refine lv_aload_n hx hb dX5_mean_0 rfl (lv_at hl 0 rfl) ?_
  refine lv_iconst (v := 0) hx hb dX5_mean_1 (by decide) ?_
  have hin5 : ∀ w ∈ u_ws RX5 TX5 14, w ∈ wsX5_mean := by decide +kernel
  have hf53 := hts (.fieldLink RX5 53 "CoracleMakersModel" "thrown" "I") (by decide +kernel)
  obtain ⟨F121, hF121⟩ : ∃ z, z = va_up F 0 (upd (F 0) 0 0) := ⟨_, rfl⟩
  refine va_put (D := D) (ci := 5) (v := .int 0) (ty := .int) (C := RX5) (T := TX5) (N := 14) hx hb hts hin5 tyX5 tyX5_ok nmX5 hown hK hP (aD_D hD (show List.map Prod.fst (moW y am (bs 0) (ba 0) F ++ (stW y bs (am 0) U ++ stW y ba (am 0) X)) = _ from by rw [List.map_append, List.map_append, mo_fst y am _ _ _, st_fst y bs _ _, st_fst y ba _ _])) hS 0 (ap_l (wf_at (by decide) rfl)) rfl 0 (by decide) hf53 (fun _ h9 => h9) rfl (by decide +kernel) rfl rfl (Nat.le_of_ble_eq_true rfl) dX5_mean_2 (fun H locs hP _ hS => ?_)
  have hP : va_P D vwCl (moW y am (bs 0) (ba 0) F121 ++ (stW y bs (am 0) U ++ stW y ba (am 0) X)) H := (by rw [hF121]; exact P_eq (ap_set_l (show 0 < (wf _ _ _).length by rw [wf_len]; omega) (mo_set (k := 0) (upd (F 0) 0 0) (by decide) rfl)) hP)
  rw [show F121 = th F from hF121] at hP
  clear hF121
  clear F121
  have hC7 : ix (th F 0 1) < 7 := in_ix hC
  refine lv_iconst (v := 0) hx hb dX5_mean_5 (by decide) ?_
  refine lv_istore_n (lv' := [(1, .int 0), (0, .ref (am 0))]) hx hb dX5_mean_6 rfl hl (by decide) rfl (fun ls hl => ?_)
  refine lv_iconst (v := 0) hx hb dX5_mean_7 (by decide) ?_
  refine lv_istore_n (lv' := [(2, .int 0), (1, .int 0), (0, .ref (am 0))]) hx hb dX5_mean_8 rfl hl (by decide) rfl (fun ls hl => ?_)
  have hl : lv_has ls 3 [(2, .int 0), (1, .int (smI (U 4) 0)), (0, .ref (am 0))] := hl
  have hl : lv_has ls 3 [(2, .int (nI 0)), (1, .int (smI (U 4) 0)), (0, .ref (am 0))] := hl
  have lr32 : ∀ (n i : Nat) (H : Heap) (locs : List Loc) (ls : Array Slot), (ix (th F 0 1)) - i < n → i ≤ (ix (th F 0 1)) → va_P D vwCl (moW y am (bs 0) (ba 0) (th F) ++ (stW y bs (am 0) U ++ stW y ba (am 0) X)) H → va_S A s.heap H locs → lv_has ls 3 [(0, .ref (am 0)), (1, .int (smI (U 4) i)), (2, .int (nI i))] → W p l e rmX5_mean s m a below meth c H locs 0 0 Q (F0 m 9 ls []) := by
    intro n
    induction n with
    | zero => intro i H locs ls hn; exact absurd hn (Nat.not_lt_zero _)
    | succ n ih =>
      intro i H locs ls hn hi hP hS hl
      rcases Nat.lt_or_ge i (ix (th F 0 1)) with hiN | hiN
      · have hi9 : i < 6 := by omega
        have ei : ix (nI i) = i := nI_clamp (by omega)
        refine lv_iload_n hx hb dX5_mean_9 rfl (lv_at hl 2 rfl) ?_
        refine lv_aload_n hx hb dX5_mean_10 rfl (lv_at hl 0 rfl) ?_
        have hf56 := hts (.fieldLink RX5 56 "CoracleMakersModel" "coracles" "I") (by decide +kernel)
        refine va_get (D := D) (ci := 5) (v := .int ((th F) 0 1)) (C := RX5) (T := TX5) (N := 14) hx hb hts hin5 hown hK hP 0 (ap_l (wf_at (by decide) rfl)) rfl 3 (by decide) hf56 (fun _ h9 => h9) rfl dX5_mean_11 ?_
        refine lv_icmp_ge (tgt := 35) hx hb dX5_mean_14 (by decide) (fun c9 => absurd c9 (self_gt hC (by decide) hiN)) (fun _ => ?_)
        refine lv_iload_n hx hb dX5_mean_17 rfl (lv_at hl 1 rfl) ?_
        refine lv_aload_n hx hb dX5_mean_18 rfl (lv_at hl 0 rfl) ?_
        have hf43 := hts (.fieldLink RX5 43 "CoracleMakersModel" "s" "LCoracleMakersModel$State;") (by decide +kernel)
        refine va_get (D := D) (ci := 5) (v := .ref (bs 0)) (C := RX5) (T := TX5) (N := 14) hx hb hts hin5 hown hK hP 0 (ap_l (wf_at (by decide) rfl)) rfl 12 (by decide) hf43 (fun _ h9 => h9) rfl dX5_mean_19 ?_
        have hin4 : ∀ w ∈ u_ws RX4 TX4 13, w ∈ wsX5_mean := by decide +kernel
        have hf77 : (Cond.fieldLinkNest RX5 77 "CoracleMakersModel$State" "tar" "[I" "CoracleMakersModel").before a s = true := va_Nw.use rfl (hN.1 _ (List.mem_of_getElem? (i := 5) rfl))
        refine va_getN (D := D) (ci := 4) (v := .ref (bs 4)) (C := RX4) (T := TX4) (N := 13) hx hb hts hin4 hown hK hP (9 + 0) (ap_r (wf_len 9 _ _) (ap_l (wf_at (by decide) rfl))) rfl 7 (by decide) hf77 (fun _ h9 => h9) rfl dX5_mean_22 ?_
        refine lv_iload_n hx hb dX5_mean_25 rfl (lv_at hl 2 rfl) ?_
        refine va_iald hx hb hK hP (9 + 4) 0 (ap_r (wf_len 9 _ _) (ap_l (wf_at (by decide) rfl))) rfl (vp_in_nI hi9 (by decide)) dX5_mean_26 ?_
        rw [show (nI i).toNatClampNeg = i from ei]
        refine lv_iadd hx hb dX5_mean_27 ?_
        refine lv_istore_n (lv' := [(1, .int ((smI (U 4) i) + (U 4 i))), (0, .ref (am 0)), (2, .int (nI i))]) hx hb dX5_mean_28 rfl hl (by decide) rfl (fun ls hl => ?_)
        rw [show smI (U 4) i + U 4 i = smI (U 4) (i + 1) from rfl] at hl
        refine lv_iinc (v := nI (i + 1)) (lv' := [(2, .int (nI (i + 1))), (1, .int ((smI (U 4) i) + (U 4 i))), (0, .ref (am 0))]) hx hb dX5_mean_29 hl (k := 2) rfl (by first | rfl | exact (nI_1 i)) (by decide) rfl (fun ls hl => ?_)
        refine lv_goto (tgt := 9) hx hb dX5_mean_32 (by decide) ?_
        exact ih (i + 1) _ _ _ (by omega) (by omega) hP hS (lv_sub hl [2, 1, 0] rfl)
      · have e9i : (ix (th F 0 1)) = i := by omega
        subst e9i
        refine lv_iload_n hx hb dX5_mean_9 rfl (lv_at hl 2 rfl) ?_
        refine lv_aload_n hx hb dX5_mean_10 rfl (lv_at hl 0 rfl) ?_
        have hf56 := hts (.fieldLink RX5 56 "CoracleMakersModel" "coracles" "I") (by decide +kernel)
        refine va_get (D := D) (ci := 5) (v := .int ((th F) 0 1)) (C := RX5) (T := TX5) (N := 14) hx hb hts hin5 hown hK hP 0 (ap_l (wf_at (by decide) rfl)) rfl 3 (by decide) hf56 (fun _ h9 => h9) rfl dX5_mean_11 ?_
        refine lv_icmp_ge (tgt := 35) hx hb dX5_mean_14 (by decide) (fun _ => ?_) (fun c9 => absurd (self_le hC (by decide)) c9)
        refine lv_aload_n hx hb dX5_mean_35 rfl (lv_at hl 0 rfl) ?_
        refine va_get (D := D) (ci := 5) (v := .int ((th F) 0 1)) (C := RX5) (T := TX5) (N := 14) hx hb hts hin5 hown hK hP 0 (ap_l (wf_at (by decide) rfl)) rfl 3 (by decide) hf56 (fun _ h9 => h9) rfl dX5_mean_36 ?_
        refine lv_if_ne (tgt := 46) hx hb dX5_mean_39 (by decide) (fun c_252 => ?_) (fun c_252 => ?_)
        · refine lv_iload_n hx hb dX5_mean_46 rfl (lv_at hl 1 rfl) ?_
          refine lv_i2d hx hb dX5_mean_47 ?_
          refine lv_aload_n hx hb dX5_mean_48 rfl (lv_at hl 0 rfl) ?_
          refine va_get (D := D) (ci := 5) (v := .int ((th F) 0 1)) (C := RX5) (T := TX5) (N := 14) hx hb hts hin5 hown hK hP 0 (ap_l (wf_at (by decide) rfl)) rfl 3 (by decide) hf56 (fun _ h9 => h9) rfl dX5_mean_49 ?_
          refine lv_i2d hx hb dX5_mean_52 ?_
          refine lv_ddiv hx hb dX5_mean_53 (hz c_252) ?_
          subst hQ
          exact W.dret (v := FP.ddiv (FP.i2d (smI (U 4) (ix (th F 0 1)))) (FP.i2d (th F 0 1))) hx hb hr (fun t ht hW => ⟨⟨_, (), rfl, (by unfold mnM; rw [if_neg c_252]), bp_at hK hN hP t ht hW⟩, hS.F ht⟩) hS.2.2 dX5_mean_54
        · refine lv_dconst0 hx hb dX5_mean_42 ?_
          refine lv_goto (tgt := 54) hx hb dX5_mean_43 (by decide) ?_
          subst hQ
          exact W.dret (v := FP.dconst0) hx hb hr (fun t ht hW => ⟨⟨_, (), rfl, (by unfold mnM; rw [if_pos c_252]; rfl), bp_at hK hN hP t ht hW⟩, hS.F ht⟩) hS.2.2 dX5_mean_54
  exact lr32 ((ix (th F 0 1)) + 1) 0 _ _ ls (by omega) (by omega) hP hS (lv_sub hl [2, 1, 0] rfl)
abbrev rmX5_digest : Room := { frames := 3, cells := 0, slots := 0, locals := 69 }
set_option maxHeartbeats 4000000 in
set_option maxRecDepth 100000 in
/-- digest() -/
theorem c_X5_digest (l : Launch) (D : va_G) (y : Nat → ClassId) (sz : Nat) (am bs ba : Nat → Nat) (F U X : Nat → Nat → Int32) (hC : vp_in (th F 0 1) 7) (hT : vp_in (th F 0 2) 4) (hF : ∀ n, n < 3 → vp_in (th F 6 n) 6 ∧ vp_in (th F 7 n) 6) (hA9 : ∀ k, k < 6 → vp_in (U 2 k) 16) : WrL l D y yX5_digest wsX5_digest rmX5_digest [.ref (am 0)] (moA y am bs ba F U X) sz (dgM (th F) U) (moA y am bs ba (th F) U X) := by
  refine mW (fun A => va_Ql (fun r9 (_ : Unit) => r9 = (dgM (th F) U)) (fun _ t9 => Bp D y (moA y am bs ba (th F) U X) t9) A) (C := RX5) (cc := cX5_digest) (maxL := 4) (ret := (some .long)) (by decide) rfl rfl (Nat.le_of_ble_eq_true rfl) ?_
  intro p e s m a below meth c ls A Q hQ hsz hx hb hr hts hown hlocks hin hml hP hK hN hD hA hS hl
  have hl : lv_has ls 4 [(0, .ref (am 0))] := hl
  rw [moA_fst] at hD
  refine lv_aload_n hx hb dX5_digest_0 rfl (lv_at hl 0 rfl) ?_
  refine lv_iconst (v := 0) hx hb dX5_digest_1 (by decide) ?_
  have hin5 : ∀ w ∈ u_ws RX5 TX5 14, w ∈ wsX5_digest := by decide +kernel
  have hf53 := hts (.fieldLink RX5 53 "CoracleMakersModel" "thrown" "I") (by decide +kernel)
  obtain ⟨F122, hF122⟩ : ∃ z, z = va_up F 0 (upd (F 0) 0 0) := ⟨_, rfl⟩
  refine va_put (D := D) (ci := 5) (v := .int 0) (ty := .int) (C := RX5) (T := TX5) (N := 14) hx hb hts hin5 tyX5 tyX5_ok nmX5 hown hK hP (aD_D hD (show List.map Prod.fst (moW y am (bs 0) (ba 0) F ++ (stW y bs (am 0) U ++ stW y ba (am 0) X)) = _ from by rw [List.map_append, List.map_append, mo_fst y am _ _ _, st_fst y bs _ _, st_fst y ba _ _])) hS 0 (ap_l (wf_at (by decide) rfl)) rfl 0 (by decide) hf53 (fun _ h9 => h9) rfl (by decide +kernel) rfl rfl (Nat.le_of_ble_eq_true rfl) dX5_digest_2 (fun H locs hP _ hS => ?_)
  have hP : va_P D vwCl (moW y am (bs 0) (ba 0) F122 ++ (stW y bs (am 0) U ++ stW y ba (am 0) X)) H := (by rw [hF122]; exact P_eq (ap_set_l (show 0 < (wf _ _ _).length by rw [wf_len]; omega) (mo_set (k := 0) (upd (F 0) 0 0) (by decide) rfl)) hP)
  rw [show F122 = th F from hF122] at hP
  clear hF122
  clear F122
  have hC7 : ix (th F 0 1) < 7 := in_ix hC
  have hT4 : ix (th F 0 2) < 4 := in_ix hT
  refine lv_ldc2 (v := 1487) hx hb hown (hts (.constantLong RX5 151 (1487)) (by decide +kernel)) dX5_digest_5 ?_
  refine lv_lstore_n (lv' := [(1, .long 1487), (0, .ref (am 0))]) hx hb dX5_digest_8 rfl hl (by decide) rfl (fun ls hl => ?_)
  refine lv_iconst (v := 0) hx hb dX5_digest_9 (by decide) ?_
  refine lv_istore_n (lv' := [(3, .int 0), (1, .long 1487), (0, .ref (am 0))]) hx hb dX5_digest_10 rfl hl (by decide) rfl (fun ls hl => ?_)
  have hl : lv_has ls 4 [(3, .int (nI 0)), (1, .long 1487), (0, .ref (am 0))] := hl
  have hl : lv_has ls 4 [(3, .int (nI 0)), (1, .long 1487), (0, .ref (am 0))] := hl
  have hl : lv_has ls 4 [(3, .int (nI 0)), (1, .long (dgS (d1M (th F) U) (1487) 0)), (0, .ref (am 0))] := hl
  have lr33 : ∀ (n i : Nat) (H : Heap) (locs : List Loc) (ls : Array Slot), 13 - i < n → i ≤ 13 → va_P D vwCl (moW y am (bs 0) (ba 0) (th F) ++ (stW y bs (am 0) U ++ stW y ba (am 0) X)) H → va_S A s.heap H locs → lv_has ls 4 [(0, .ref (am 0)), (1, .long (dgS (d1M (th F) U) (1487) i)), (3, .int (nI i))] → W p l e rmX5_digest s m a below meth c H locs 0 0 Q (F0 m 11 ls []) := by
    intro n
    induction n with
    | zero => intro i H locs ls hn; exact absurd hn (Nat.not_lt_zero _)
    | succ n ih =>
      intro i H locs ls hn hi hP hS hl
      rcases Nat.lt_or_ge i 13 with hiN | hiN
      · refine lv_iload_n hx hb dX5_digest_11 rfl (lv_at hl 2 rfl) ?_
        refine lv_bipush (v := 13) hx hb dX5_digest_12 (by decide) ?_
        refine lv_icmp_ge (tgt := 39) hx hb dX5_digest_14 (by decide) (fun c9 => absurd c9 (nI_ge hiN (by decide))) (fun _ => ?_)
        refine lv_lload_n hx hb dX5_digest_17 rfl (lv_at hl 1 rfl) ?_
        refine lv_ldc2 (v := 31) hx hb hown (hts (.constantLong RX5 153 (31)) (by decide +kernel)) dX5_digest_18 ?_
        refine lv_lmul hx hb dX5_digest_21 ?_
        refine lv_aload_n hx hb dX5_digest_22 rfl (lv_at hl 0 rfl) ?_
        have hf43 := hts (.fieldLink RX5 43 "CoracleMakersModel" "s" "LCoracleMakersModel$State;") (by decide +kernel)
        refine va_get (D := D) (ci := 5) (v := .ref (bs 0)) (C := RX5) (T := TX5) (N := 14) hx hb hts hin5 hown hK hP 0 (ap_l (wf_at (by decide) rfl)) rfl 12 (by decide) hf43 (fun _ h9 => h9) rfl dX5_digest_23 ?_
        refine lv_iload_n hx hb dX5_digest_26 rfl (lv_at hl 2 rfl) ?_
        refine cRI_V (As := [.int (nI i)]) (rest := [.long ((dgS (d1M (th F) U) (1487) i) * 31)]) ⟨hx, hb, hml, hown, hts⟩ (c_X4_counted l D y am bs (bs 0) (ba 0) (th F) U (nI i) (vp_in_nI hiN (by decide)) hC) (cwV 1 hts gX5_digest_X4_counted rfl rfl rfl (by decide +kernel) ⟨Nat.le_of_ble_eq_true rfl, Nat.le_of_ble_eq_true rfl⟩) hK hN (P_xw hP) (va_recv hK hP (ci := 4) (q0 := (9 + 0)) rfl (ap_r (wf_len 9 _ _) (ap_l (wf_at (by decide) rfl)))) rfl hl.1 rfl (Nat.le_of_ble_eq_true rfl) dX5_digest_27 ⟨Nat.le_of_ble_eq_true rfl, Nat.le_of_ble_eq_true rfl⟩ ?_
        refine W.eq (g2 := F0 m 30 ls (.int (d1M (th F) U i) :: .long ((dgS (d1M (th F) U) (1487) i) * 31) :: [])) rfl ?_
        refine lv_i2l (v := (d1M (th F) U i).toInt64) hx hb dX5_digest_30 rfl ?_
        refine lv_ladd hx hb dX5_digest_31 ?_
        refine lv_lstore_n (lv' := [(1, .long (((dgS (d1M (th F) U) (1487) i) * 31) + ((d1M (th F) U i).toInt64))), (0, .ref (am 0)), (3, .int (nI i))]) hx hb dX5_digest_32 rfl hl (by decide) rfl (fun ls hl => ?_)
        have hl : lv_has ls 4 [(1, .long (dgS (d1M (th F) U) (1487) (i + 1))), (0, .ref (am 0)), (3, .int (nI i))] := hl
        refine lv_iinc (v := nI (i + 1)) (lv' := [(3, .int (nI (i + 1))), (1, .long (dgS (d1M (th F) U) (1487) (i + 1))), (0, .ref (am 0))]) hx hb dX5_digest_33 hl (k := 2) rfl (by first | rfl | exact (nI_1 i)) (by decide) rfl (fun ls hl => ?_)
        refine lv_goto (tgt := 11) hx hb dX5_digest_36 (by decide) ?_
        exact ih (i + 1) _ _ _ (by omega) (by omega) hP hS (lv_sub hl [2, 1, 0] rfl)
      · have e9i : 13 = i := by omega
        subst e9i
        refine lv_iload_n hx hb dX5_digest_11 rfl (lv_at hl 2 rfl) ?_
        refine lv_bipush (v := 13) hx hb dX5_digest_12 (by decide) ?_
        refine lv_icmp_ge (tgt := 39) hx hb dX5_digest_14 (by decide) (fun _ => ?_) (fun c9 => absurd (show (13 : Int32) ≤ nI 13 by decide) c9)
        refine lv_iconst (v := 0) hx hb dX5_digest_39 (by decide) ?_
        refine lv_istore_n (lv' := [(3, .int 0), (0, .ref (am 0)), (1, .long (dgS (d1M (th F) U) (1487) 13))]) hx hb dX5_digest_40 rfl hl (by decide) rfl (fun ls hl => ?_)
        have hl : lv_has ls 4 [(3, .int (nI 0)), (0, .ref (am 0)), (1, .long (dgS (d1M (th F) U) (1487) 13))] := hl
        have hl : lv_has ls 4 [(3, .int (nI 0)), (0, .ref (am 0)), (1, .long (dgS (d1M (th F) U) (1487) 13))] := hl
        have hl : lv_has ls 4 [(3, .int (nI 0)), (0, .ref (am 0)), (1, .long (dgT (th F) (dgS (d1M (th F) U) 1487 13) 0))] := hl
        have lr34 : ∀ (n i : Nat) (H : Heap) (locs : List Loc) (ls : Array Slot), 8 - i < n → i ≤ 8 → va_P D vwCl (moW y am (bs 0) (ba 0) (th F) ++ (stW y bs (am 0) U ++ stW y ba (am 0) X)) H → va_S A s.heap H locs → lv_has ls 4 [(0, .ref (am 0)), (1, .long (dgT (th F) (dgS (d1M (th F) U) 1487 13) i)), (3, .int (nI i))] → W p l e rmX5_digest s m a below meth c H locs 0 0 Q (F0 m 41 ls []) := by
          intro n
          induction n with
          | zero => intro i H locs ls hn; exact absurd hn (Nat.not_lt_zero _)
          | succ n ih =>
            intro i H locs ls hn hi hP hS hl
            rcases Nat.lt_or_ge i 8 with hiN | hiN
            · refine lv_iload_n hx hb dX5_digest_41 rfl (lv_at hl 2 rfl) ?_
              refine lv_bipush (v := 8) hx hb dX5_digest_42 (by decide) ?_
              refine lv_icmp_ge (tgt := 79) hx hb dX5_digest_44 (by decide) (fun c9 => absurd c9 (nI_ge hiN (by decide))) (fun _ => ?_)
              have ei : ix (nI i) = i := nI_clamp (by omega)
              refine lv_lload_n hx hb dX5_digest_47 rfl (lv_at hl 1 rfl) ?_
              refine lv_ldc2 (v := 31) hx hb hown (hts (.constantLong RX5 153 (31)) (by decide +kernel)) dX5_digest_48 ?_
              refine lv_lmul hx hb dX5_digest_51 ?_
              refine lv_aload_n hx hb dX5_digest_52 rfl (lv_at hl 0 rfl) ?_
              have hf7 := hts (.fieldLink RX5 7 "CoracleMakersModel" "drift" "[I") (by decide +kernel)
              refine va_get (D := D) (ci := 5) (v := .ref (am 1)) (C := RX5) (T := TX5) (N := 14) hx hb hts hin5 hown hK hP 0 (ap_l (wf_at (by decide) rfl)) rfl 1 (by decide) hf7 (fun _ h9 => h9) rfl dX5_digest_53 ?_
              refine lv_iload_n hx hb dX5_digest_56 rfl (lv_at hl 2 rfl) ?_
              refine va_iald hx hb hK hP 1 0 (ap_l (wf_at (by decide) rfl)) rfl (vp_in_nI hiN (by decide)) dX5_digest_57 ?_
              rw [show (nI i).toNatClampNeg = i from ei]
              refine lv_i2l (v := (th F 1 i).toInt64) hx hb dX5_digest_58 rfl ?_
              refine lv_ladd hx hb dX5_digest_59 ?_
              refine lv_ldc2 (v := 31) hx hb hown (hts (.constantLong RX5 153 (31)) (by decide +kernel)) dX5_digest_60 ?_
              refine lv_lmul hx hb dX5_digest_63 ?_
              refine lv_aload_n hx hb dX5_digest_64 rfl (lv_at hl 0 rfl) ?_
              have hf13 := hts (.fieldLink RX5 13 "CoracleMakersModel" "run" "[I") (by decide +kernel)
              refine va_get (D := D) (ci := 5) (v := .ref (am 2)) (C := RX5) (T := TX5) (N := 14) hx hb hts hin5 hown hK hP 0 (ap_l (wf_at (by decide) rfl)) rfl 2 (by decide) hf13 (fun _ h9 => h9) rfl dX5_digest_65 ?_
              refine lv_iload_n hx hb dX5_digest_68 rfl (lv_at hl 2 rfl) ?_
              refine va_iald hx hb hK hP 2 0 (ap_l (wf_at (by decide) rfl)) rfl (vp_in_nI hiN (by decide)) dX5_digest_69 ?_
              rw [show (nI i).toNatClampNeg = i from ei]
              refine lv_i2l (v := (th F 2 i).toInt64) hx hb dX5_digest_70 rfl ?_
              refine lv_ladd hx hb dX5_digest_71 ?_
              refine lv_lstore_n (lv' := [(1, .long (((((dgT (th F) (dgS (d1M (th F) U) 1487 13) i) * 31) + ((th F 1 i).toInt64)) * 31) + ((th F 2 i).toInt64))), (0, .ref (am 0)), (3, .int (nI i))]) hx hb dX5_digest_72 rfl hl (by decide) rfl (fun ls hl => ?_)
              have hl : lv_has ls 4 [(1, .long (dgT (th F) (dgS (d1M (th F) U) 1487 13) (i + 1))), (0, .ref (am 0)), (3, .int (nI i))] := hl
              refine lv_iinc (v := nI (i + 1)) (lv' := [(3, .int (nI (i + 1))), (1, .long (dgT (th F) (dgS (d1M (th F) U) 1487 13) (i + 1))), (0, .ref (am 0))]) hx hb dX5_digest_73 hl (k := 2) rfl (by first | rfl | exact (nI_1 i)) (by decide) rfl (fun ls hl => ?_)
              refine lv_goto (tgt := 41) hx hb dX5_digest_76 (by decide) ?_
              exact ih (i + 1) _ _ _ (by omega) (by omega) hP hS (lv_sub hl [2, 1, 0] rfl)
            · have e9i : 8 = i := by omega
              subst e9i
              refine lv_iload_n hx hb dX5_digest_41 rfl (lv_at hl 2 rfl) ?_
              refine lv_bipush (v := 8) hx hb dX5_digest_42 (by decide) ?_
              refine lv_icmp_ge (tgt := 79) hx hb dX5_digest_44 (by decide) (fun _ => ?_) (fun c9 => absurd (show (8 : Int32) ≤ nI 8 by decide) c9)
              have e10m : 10 * th F 0 1 = nI (10 * ix (th F 0 1)) := mu10 hC
              refine lv_iconst (v := 0) hx hb dX5_digest_79 (by decide) ?_
              refine lv_istore_n (lv' := [(3, .int 0), (0, .ref (am 0)), (1, .long (dgT (th F) (dgS (d1M (th F) U) 1487 13) 8))]) hx hb dX5_digest_80 rfl hl (by decide) rfl (fun ls hl => ?_)
              have hl : lv_has ls 4 [(3, .int (nI 0)), (0, .ref (am 0)), (1, .long (dgT (th F) (dgS (d1M (th F) U) 1487 13) 8))] := hl
              have hl : lv_has ls 4 [(3, .int (nI 0)), (0, .ref (am 0)), (1, .long (dgT (th F) (dgS (d1M (th F) U) 1487 13) 8))] := hl
              have hl : lv_has ls 4 [(3, .int (nI 0)), (0, .ref (am 0)), (1, .long (dgS (d3M (th F) U) (dgT (th F) (dgS (d1M (th F) U) 1487 13) 8) 0))] := hl
              have lr35 : ∀ (n i : Nat) (H : Heap) (locs : List Loc) (ls : Array Slot), (10 * ix (th F 0 1)) - i < n → i ≤ (10 * ix (th F 0 1)) → va_P D vwCl (moW y am (bs 0) (ba 0) (th F) ++ (stW y bs (am 0) U ++ stW y ba (am 0) X)) H → va_S A s.heap H locs → lv_has ls 4 [(0, .ref (am 0)), (1, .long (dgS (d3M (th F) U) (dgT (th F) (dgS (d1M (th F) U) 1487 13) 8) i)), (3, .int (nI i))] → W p l e rmX5_digest s m a below meth c H locs 0 0 Q (F0 m 81 ls []) := by
                intro n
                induction n with
                | zero => intro i H locs ls hn; exact absurd hn (Nat.not_lt_zero _)
                | succ n ih =>
                  intro i H locs ls hn hi hP hS hl
                  rcases Nat.lt_or_ge i (10 * ix (th F 0 1)) with hiN | hiN
                  · refine lv_iload_n hx hb dX5_digest_81 rfl (lv_at hl 2 rfl) ?_
                    refine lv_bipush (v := 10) hx hb dX5_digest_82 (by decide) ?_
                    refine lv_aload_n hx hb dX5_digest_84 rfl (lv_at hl 0 rfl) ?_
                    have hf56 := hts (.fieldLink RX5 56 "CoracleMakersModel" "coracles" "I") (by decide +kernel)
                    refine va_get (D := D) (ci := 5) (v := .int ((th F) 0 1)) (C := RX5) (T := TX5) (N := 14) hx hb hts hin5 hown hK hP 0 (ap_l (wf_at (by decide) rfl)) rfl 3 (by decide) hf56 (fun _ h9 => h9) rfl dX5_digest_85 ?_
                    refine lv_imul hx hb dX5_digest_88 ?_
                    refine lv_icmp_ge (tgt := 118) hx hb dX5_digest_89 (by decide) (fun c9 => absurd c9 (by rw [e10m]; exact nI_ge hiN (by omega))) (fun _ => ?_)
                    have hdv := dv10 i (by omega)
                    refine lv_lload_n hx hb dX5_digest_92 rfl (lv_at hl 1 rfl) ?_
                    refine lv_ldc2 (v := 31) hx hb hown (hts (.constantLong RX5 153 (31)) (by decide +kernel)) dX5_digest_93 ?_
                    refine lv_lmul hx hb dX5_digest_96 ?_
                    refine lv_aload_n hx hb dX5_digest_97 rfl (lv_at hl 0 rfl) ?_
                    refine lv_iload_n hx hb dX5_digest_98 rfl (lv_at hl 2 rfl) ?_
                    refine lv_bipush (v := 10) hx hb dX5_digest_99 (by decide) ?_
                    refine lv_idiv hx hb dX5_digest_101 (by decide) ?_
                    refine W.eq (g2 := F0 m 102 ls (.int (nI (i / 10)) :: .ref (am 0) :: .long ((dgS (d3M (th F) U) (dgT (th F) (dgS (d1M (th F) U) 1487 13) 8) i) * 31) :: [])) (by rw [hdv.1]) ?_
                    refine lv_iload_n hx hb dX5_digest_102 rfl (lv_at hl 2 rfl) ?_
                    refine lv_bipush (v := 10) hx hb dX5_digest_103 (by decide) ?_
                    refine lv_irem hx hb dX5_digest_105 (by decide) ?_
                    refine W.eq (g2 := F0 m 106 ls (.int (nI (i % 10)) :: .int (nI (i / 10)) :: .ref (am 0) :: .long ((dgS (d3M (th F) U) (dgT (th F) (dgS (d1M (th F) U) 1487 13) 8) i) * 31) :: [])) (by rw [hdv.2]) ?_
                    refine cRI_V (As := [.int (nI (i / 10)), .int (nI (i % 10))]) (rest := [.long ((dgS (d3M (th F) U) (dgT (th F) (dgS (d1M (th F) U) 1487 13) 8) i) * 31)]) ⟨hx, hb, hml, hown, hts⟩ (c_X5_coracleTold l D y am bs (ba 0) (th F) U (nI (i / 10)) (nI (i % 10)) (vp_in_nI (by omega) (by decide)) hT) (cwV 2 hts gX5_digest_X5_coracleTold rfl rfl rfl (by decide +kernel) ⟨Nat.le_of_ble_eq_true rfl, Nat.le_of_ble_eq_true rfl⟩) hK hN (P_xw hP) (va_recv hK hP (ci := 5) (q0 := 0) rfl (ap_l (wf_at (by decide) rfl))) rfl hl.1 rfl (Nat.le_of_ble_eq_true rfl) dX5_digest_106 ⟨Nat.le_of_ble_eq_true rfl, Nat.le_of_ble_eq_true rfl⟩ ?_
                    refine lv_i2l (v := (d3M (th F) U i).toInt64) hx hb dX5_digest_109 rfl ?_
                    refine lv_ladd hx hb dX5_digest_110 ?_
                    refine lv_lstore_n (lv' := [(1, .long (((dgS (d3M (th F) U) (dgT (th F) (dgS (d1M (th F) U) 1487 13) 8) i) * 31) + ((d3M (th F) U i).toInt64))), (0, .ref (am 0)), (3, .int (nI i))]) hx hb dX5_digest_111 rfl hl (by decide) rfl (fun ls hl => ?_)
                    have hl : lv_has ls 4 [(1, .long (dgS (d3M (th F) U) (dgT (th F) (dgS (d1M (th F) U) 1487 13) 8) (i + 1))), (0, .ref (am 0)), (3, .int (nI i))] := hl
                    refine lv_iinc (v := nI (i + 1)) (lv' := [(3, .int (nI (i + 1))), (1, .long (dgS (d3M (th F) U) (dgT (th F) (dgS (d1M (th F) U) 1487 13) 8) (i + 1))), (0, .ref (am 0))]) hx hb dX5_digest_112 hl (k := 2) rfl (by first | rfl | exact (nI_1 i)) (by decide) rfl (fun ls hl => ?_)
                    refine lv_goto (tgt := 81) hx hb dX5_digest_115 (by decide) ?_
                    exact ih (i + 1) _ _ _ (by omega) (by omega) hP hS (lv_sub hl [2, 1, 0] rfl)
                  · have e9i : (10 * ix (th F 0 1)) = i := by omega
                    subst e9i
                    refine lv_iload_n hx hb dX5_digest_81 rfl (lv_at hl 2 rfl) ?_
                    refine lv_bipush (v := 10) hx hb dX5_digest_82 (by decide) ?_
                    refine lv_aload_n hx hb dX5_digest_84 rfl (lv_at hl 0 rfl) ?_
                    have hf56 := hts (.fieldLink RX5 56 "CoracleMakersModel" "coracles" "I") (by decide +kernel)
                    refine va_get (D := D) (ci := 5) (v := .int ((th F) 0 1)) (C := RX5) (T := TX5) (N := 14) hx hb hts hin5 hown hK hP 0 (ap_l (wf_at (by decide) rfl)) rfl 3 (by decide) hf56 (fun _ h9 => h9) rfl dX5_digest_85 ?_
                    refine lv_imul hx hb dX5_digest_88 ?_
                    refine lv_icmp_ge (tgt := 118) hx hb dX5_digest_89 (by decide) (fun _ => ?_) (fun c9 => absurd (by rw [e10m]; exact nI_le (Nat.le_refl _) (by omega)) c9)
                    have e4m : 4 * th F 0 2 = nI (4 * ix (th F 0 2)) := mu4 hT
                    refine lv_iconst (v := 0) hx hb dX5_digest_118 (by decide) ?_
                    refine lv_istore_n (lv' := [(3, .int 0), (0, .ref (am 0)), (1, .long (dgS (d3M (th F) U) (dgT (th F) (dgS (d1M (th F) U) 1487 13) 8) (10 * ix (th F 0 1))))]) hx hb dX5_digest_119 rfl hl (by decide) rfl (fun ls hl => ?_)
                    have hl : lv_has ls 4 [(3, .int (nI 0)), (0, .ref (am 0)), (1, .long (dgS (d3M (th F) U) (dgT (th F) (dgS (d1M (th F) U) 1487 13) 8) (10 * ix (th F 0 1))))] := hl
                    have hl : lv_has ls 4 [(3, .int (nI 0)), (0, .ref (am 0)), (1, .long (dgS (d3M (th F) U) (dgT (th F) (dgS (d1M (th F) U) 1487 13) 8) (10 * ix (th F 0 1))))] := hl
                    have hl : lv_has ls 4 [(3, .int (nI 0)), (0, .ref (am 0)), (1, .long (dgS (d4M (th F) U) (dgS (d3M (th F) U) (dgT (th F) (dgS (d1M (th F) U) 1487 13) 8) (10 * ix (th F 0 1))) 0))] := hl
                    have lr36 : ∀ (n i : Nat) (H : Heap) (locs : List Loc) (ls : Array Slot), (4 * ix (th F 0 2)) - i < n → i ≤ (4 * ix (th F 0 2)) → va_P D vwCl (moW y am (bs 0) (ba 0) (th F) ++ (stW y bs (am 0) U ++ stW y ba (am 0) X)) H → va_S A s.heap H locs → lv_has ls 4 [(0, .ref (am 0)), (1, .long (dgS (d4M (th F) U) (dgS (d3M (th F) U) (dgT (th F) (dgS (d1M (th F) U) 1487 13) 8) (10 * ix (th F 0 1))) i)), (3, .int (nI i))] → W p l e rmX5_digest s m a below meth c H locs 0 0 Q (F0 m 120 ls []) := by
                      intro n
                      induction n with
                      | zero => intro i H locs ls hn; exact absurd hn (Nat.not_lt_zero _)
                      | succ n ih =>
                        intro i H locs ls hn hi hP hS hl
                        rcases Nat.lt_or_ge i (4 * ix (th F 0 2)) with hiN | hiN
                        · refine lv_iload_n hx hb dX5_digest_120 rfl (lv_at hl 2 rfl) ?_
                          refine lv_iconst (v := 4) hx hb dX5_digest_121 (by decide) ?_
                          refine lv_aload_n hx hb dX5_digest_122 rfl (lv_at hl 0 rfl) ?_
                          have hf63 := hts (.fieldLink RX5 63 "CoracleMakersModel" "nets" "I") (by decide +kernel)
                          refine va_get (D := D) (ci := 5) (v := .int ((th F) 0 2)) (C := RX5) (T := TX5) (N := 14) hx hb hts hin5 hown hK hP 0 (ap_l (wf_at (by decide) rfl)) rfl 7 (by decide) hf63 (fun _ h9 => h9) rfl dX5_digest_123 ?_
                          refine lv_imul hx hb dX5_digest_126 ?_
                          refine lv_icmp_ge (tgt := 154) hx hb dX5_digest_127 (by decide) (fun c9 => absurd c9 (by rw [e4m]; exact nI_ge hiN (by omega))) (fun _ => ?_)
                          have hdv := dv4 i (by omega)
                          refine lv_lload_n hx hb dX5_digest_130 rfl (lv_at hl 1 rfl) ?_
                          refine lv_ldc2 (v := 31) hx hb hown (hts (.constantLong RX5 153 (31)) (by decide +kernel)) dX5_digest_131 ?_
                          refine lv_lmul hx hb dX5_digest_134 ?_
                          refine lv_aload_n hx hb dX5_digest_135 rfl (lv_at hl 0 rfl) ?_
                          refine lv_iload_n hx hb dX5_digest_136 rfl (lv_at hl 2 rfl) ?_
                          refine lv_iconst (v := 4) hx hb dX5_digest_137 (by decide) ?_
                          refine lv_idiv hx hb dX5_digest_138 (by decide) ?_
                          refine W.eq (g2 := F0 m 139 ls (.int (nI (i / 4)) :: .ref (am 0) :: .long ((dgS (d4M (th F) U) (dgS (d3M (th F) U) (dgT (th F) (dgS (d1M (th F) U) 1487 13) 8) (10 * ix (th F 0 1))) i) * 31) :: [])) (by rw [hdv.1]) ?_
                          refine lv_iload_n hx hb dX5_digest_139 rfl (lv_at hl 2 rfl) ?_
                          refine lv_iconst (v := 4) hx hb dX5_digest_140 (by decide) ?_
                          refine lv_irem hx hb dX5_digest_141 (by decide) ?_
                          refine W.eq (g2 := F0 m 142 ls (.int (nI (i % 4)) :: .int (nI (i / 4)) :: .ref (am 0) :: .long ((dgS (d4M (th F) U) (dgS (d3M (th F) U) (dgT (th F) (dgS (d1M (th F) U) 1487 13) 8) (10 * ix (th F 0 1))) i) * 31) :: [])) (by rw [hdv.2]) ?_
                          have e4 : ix (nI (i / 4)) = i / 4 := nI_clamp (by omega)
                          refine cRI_V (As := [.int (nI (i / 4)), .int (nI (i % 4))]) (rest := [.long ((dgS (d4M (th F) U) (dgS (d3M (th F) U) (dgT (th F) (dgS (d1M (th F) U) 1487 13) 8) (10 * ix (th F 0 1))) i) * 31)]) ⟨hx, hb, hml, hown, hts⟩ (c_X5_netTold l D y am bs (ba 0) (th F) U (nI (i / 4)) (nI (i % 4)) (vp_in_nI (by omega) (by decide)) hF hA9) (cwV 2 hts gX5_digest_X5_netTold rfl rfl rfl (by decide +kernel) ⟨Nat.le_of_ble_eq_true rfl, Nat.le_of_ble_eq_true rfl⟩) hK hN (P_xw hP) (va_recv hK hP (ci := 5) (q0 := 0) rfl (ap_l (wf_at (by decide) rfl))) rfl hl.1 rfl (Nat.le_of_ble_eq_true rfl) dX5_digest_142 ⟨Nat.le_of_ble_eq_true rfl, Nat.le_of_ble_eq_true rfl⟩ ?_
                          refine W.eq (g2 := F0 m 145 ls (.int (d4M (th F) U i) :: .long ((dgS (d4M (th F) U) (dgS (d3M (th F) U) (dgT (th F) (dgS (d1M (th F) U) 1487 13) 8) (10 * ix (th F 0 1))) i) * 31) :: [])) (by rw [e4]; rfl) ?_
                          refine lv_i2l (v := (d4M (th F) U i).toInt64) hx hb dX5_digest_145 rfl ?_
                          refine lv_ladd hx hb dX5_digest_146 ?_
                          refine lv_lstore_n (lv' := [(1, .long (((dgS (d4M (th F) U) (dgS (d3M (th F) U) (dgT (th F) (dgS (d1M (th F) U) 1487 13) 8) (10 * ix (th F 0 1))) i) * 31) + ((d4M (th F) U i).toInt64))), (0, .ref (am 0)), (3, .int (nI i))]) hx hb dX5_digest_147 rfl hl (by decide) rfl (fun ls hl => ?_)
                          have hl : lv_has ls 4 [(1, .long (dgS (d4M (th F) U) (dgS (d3M (th F) U) (dgT (th F) (dgS (d1M (th F) U) 1487 13) 8) (10 * ix (th F 0 1))) (i + 1))), (0, .ref (am 0)), (3, .int (nI i))] := hl
                          refine lv_iinc (v := nI (i + 1)) (lv' := [(3, .int (nI (i + 1))), (1, .long (dgS (d4M (th F) U) (dgS (d3M (th F) U) (dgT (th F) (dgS (d1M (th F) U) 1487 13) 8) (10 * ix (th F 0 1))) (i + 1))), (0, .ref (am 0))]) hx hb dX5_digest_148 hl (k := 2) rfl (by first | rfl | exact (nI_1 i)) (by decide) rfl (fun ls hl => ?_)
                          refine lv_goto (tgt := 120) hx hb dX5_digest_151 (by decide) ?_
                          exact ih (i + 1) _ _ _ (by omega) (by omega) hP hS (lv_sub hl [2, 1, 0] rfl)
                        · have e9i : (4 * ix (th F 0 2)) = i := by omega
                          subst e9i
                          refine lv_iload_n hx hb dX5_digest_120 rfl (lv_at hl 2 rfl) ?_
                          refine lv_iconst (v := 4) hx hb dX5_digest_121 (by decide) ?_
                          refine lv_aload_n hx hb dX5_digest_122 rfl (lv_at hl 0 rfl) ?_
                          have hf63 := hts (.fieldLink RX5 63 "CoracleMakersModel" "nets" "I") (by decide +kernel)
                          refine va_get (D := D) (ci := 5) (v := .int ((th F) 0 2)) (C := RX5) (T := TX5) (N := 14) hx hb hts hin5 hown hK hP 0 (ap_l (wf_at (by decide) rfl)) rfl 7 (by decide) hf63 (fun _ h9 => h9) rfl dX5_digest_123 ?_
                          refine lv_imul hx hb dX5_digest_126 ?_
                          refine lv_icmp_ge (tgt := 154) hx hb dX5_digest_127 (by decide) (fun _ => ?_) (fun c9 => absurd (by rw [e4m]; exact nI_le (Nat.le_refl _) (by omega)) c9)
                          refine lv_iconst (v := 0) hx hb dX5_digest_154 (by decide) ?_
                          refine lv_istore_n (lv' := [(3, .int 0), (0, .ref (am 0)), (1, .long (dgS (d4M (th F) U) (dgS (d3M (th F) U) (dgT (th F) (dgS (d1M (th F) U) 1487 13) 8) (10 * ix (th F 0 1))) (4 * ix (th F 0 2))))]) hx hb dX5_digest_155 rfl hl (by decide) rfl (fun ls hl => ?_)
                          have hl : lv_has ls 4 [(3, .int (nI 0)), (0, .ref (am 0)), (1, .long (dgS (d4M (th F) U) (dgS (d3M (th F) U) (dgT (th F) (dgS (d1M (th F) U) 1487 13) 8) (10 * ix (th F 0 1))) (4 * ix (th F 0 2))))] := hl
                          have hl : lv_has ls 4 [(3, .int (nI 0)), (0, .ref (am 0)), (1, .long (dgS (d4M (th F) U) (dgS (d3M (th F) U) (dgT (th F) (dgS (d1M (th F) U) 1487 13) 8) (10 * ix (th F 0 1))) (4 * ix (th F 0 2))))] := hl
                          have hl : lv_has ls 4 [(3, .int (nI 0)), (0, .ref (am 0)), (1, .long (dgS (d5M (th F) U) (dgS (d4M (th F) U) (dgS (d3M (th F) U) (dgT (th F) (dgS (d1M (th F) U) 1487 13) 8) (10 * ix (th F 0 1))) (4 * ix (th F 0 2))) 0))] := hl
                          have lr37 : ∀ (n i : Nat) (H : Heap) (locs : List Loc) (ls : Array Slot), 32 - i < n → i ≤ 32 → va_P D vwCl (moW y am (bs 0) (ba 0) (th F) ++ (stW y bs (am 0) U ++ stW y ba (am 0) X)) H → va_S A s.heap H locs → lv_has ls 4 [(0, .ref (am 0)), (1, .long (dgS (d5M (th F) U) (dgS (d4M (th F) U) (dgS (d3M (th F) U) (dgT (th F) (dgS (d1M (th F) U) 1487 13) 8) (10 * ix (th F 0 1))) (4 * ix (th F 0 2))) i)), (3, .int (nI i))] → W p l e rmX5_digest s m a below meth c H locs 0 0 Q (F0 m 156 ls []) := by
                            intro n
                            induction n with
                            | zero => intro i H locs ls hn; exact absurd hn (Nat.not_lt_zero _)
                            | succ n ih =>
                              intro i H locs ls hn hi hP hS hl
                              rcases Nat.lt_or_ge i 32 with hiN | hiN
                              · refine lv_iload_n hx hb dX5_digest_156 rfl (lv_at hl 2 rfl) ?_
                                refine lv_bipush (v := 32) hx hb dX5_digest_157 (by decide) ?_
                                refine lv_icmp_ge (tgt := 186) hx hb dX5_digest_159 (by decide) (fun c9 => absurd c9 (nI_ge hiN (by decide))) (fun _ => ?_)
                                have hdv := dv2 i (by omega)
                                refine lv_lload_n hx hb dX5_digest_162 rfl (lv_at hl 1 rfl) ?_
                                refine lv_ldc2 (v := 31) hx hb hown (hts (.constantLong RX5 153 (31)) (by decide +kernel)) dX5_digest_163 ?_
                                refine lv_lmul hx hb dX5_digest_166 ?_
                                refine lv_aload_n hx hb dX5_digest_167 rfl (lv_at hl 0 rfl) ?_
                                refine lv_iload_n hx hb dX5_digest_168 rfl (lv_at hl 2 rfl) ?_
                                refine lv_iconst (v := 2) hx hb dX5_digest_169 (by decide) ?_
                                refine lv_idiv hx hb dX5_digest_170 (by decide) ?_
                                refine W.eq (g2 := F0 m 171 ls (.int (nI (i / 2)) :: .ref (am 0) :: .long ((dgS (d5M (th F) U) (dgS (d4M (th F) U) (dgS (d3M (th F) U) (dgT (th F) (dgS (d1M (th F) U) 1487 13) 8) (10 * ix (th F 0 1))) (4 * ix (th F 0 2))) i) * 31) :: [])) (by rw [hdv.1]) ?_
                                refine lv_iload_n hx hb dX5_digest_171 rfl (lv_at hl 2 rfl) ?_
                                refine lv_iconst (v := 2) hx hb dX5_digest_172 (by decide) ?_
                                refine lv_irem hx hb dX5_digest_173 (by decide) ?_
                                refine W.eq (g2 := F0 m 174 ls (.int (nI (i % 2)) :: .int (nI (i / 2)) :: .ref (am 0) :: .long ((dgS (d5M (th F) U) (dgS (d4M (th F) U) (dgS (d3M (th F) U) (dgT (th F) (dgS (d1M (th F) U) 1487 13) 8) (10 * ix (th F 0 1))) (4 * ix (th F 0 2))) i) * 31) :: [])) (by rw [hdv.2]) ?_
                                refine cRI_V (As := [.int (nI (i / 2)), .int (nI (i % 2))]) (rest := [.long ((dgS (d5M (th F) U) (dgS (d4M (th F) U) (dgS (d3M (th F) U) (dgT (th F) (dgS (d1M (th F) U) 1487 13) 8) (10 * ix (th F 0 1))) (4 * ix (th F 0 2))) i) * 31)]) ⟨hx, hb, hml, hown, hts⟩ (c_X5_reachTold l D y am bs (ba 0) (th F) U (nI (i / 2)) (nI (i % 2)) (vp_in_nI (by omega) (by decide)) hC) (cwV 2 hts gX5_digest_X5_reachTold rfl rfl rfl (by decide +kernel) ⟨Nat.le_of_ble_eq_true rfl, Nat.le_of_ble_eq_true rfl⟩) hK hN (P_xw hP) (va_recv hK hP (ci := 5) (q0 := 0) rfl (ap_l (wf_at (by decide) rfl))) rfl hl.1 rfl (Nat.le_of_ble_eq_true rfl) dX5_digest_174 ⟨Nat.le_of_ble_eq_true rfl, Nat.le_of_ble_eq_true rfl⟩ ?_
                                refine lv_i2l (v := (d5M (th F) U i).toInt64) hx hb dX5_digest_177 rfl ?_
                                refine lv_ladd hx hb dX5_digest_178 ?_
                                refine lv_lstore_n (lv' := [(1, .long (((dgS (d5M (th F) U) (dgS (d4M (th F) U) (dgS (d3M (th F) U) (dgT (th F) (dgS (d1M (th F) U) 1487 13) 8) (10 * ix (th F 0 1))) (4 * ix (th F 0 2))) i) * 31) + ((d5M (th F) U i).toInt64))), (0, .ref (am 0)), (3, .int (nI i))]) hx hb dX5_digest_179 rfl hl (by decide) rfl (fun ls hl => ?_)
                                have hl : lv_has ls 4 [(1, .long (dgS (d5M (th F) U) (dgS (d4M (th F) U) (dgS (d3M (th F) U) (dgT (th F) (dgS (d1M (th F) U) 1487 13) 8) (10 * ix (th F 0 1))) (4 * ix (th F 0 2))) (i + 1))), (0, .ref (am 0)), (3, .int (nI i))] := hl
                                refine lv_iinc (v := nI (i + 1)) (lv' := [(3, .int (nI (i + 1))), (1, .long (dgS (d5M (th F) U) (dgS (d4M (th F) U) (dgS (d3M (th F) U) (dgT (th F) (dgS (d1M (th F) U) 1487 13) 8) (10 * ix (th F 0 1))) (4 * ix (th F 0 2))) (i + 1))), (0, .ref (am 0))]) hx hb dX5_digest_180 hl (k := 2) rfl (by first | rfl | exact (nI_1 i)) (by decide) rfl (fun ls hl => ?_)
                                refine lv_goto (tgt := 156) hx hb dX5_digest_183 (by decide) ?_
                                exact ih (i + 1) _ _ _ (by omega) (by omega) hP hS (lv_sub hl [2, 1, 0] rfl)
                              · have e9i : 32 = i := by omega
                                subst e9i
                                refine lv_iload_n hx hb dX5_digest_156 rfl (lv_at hl 2 rfl) ?_
                                refine lv_bipush (v := 32) hx hb dX5_digest_157 (by decide) ?_
                                refine lv_icmp_ge (tgt := 186) hx hb dX5_digest_159 (by decide) (fun _ => ?_) (fun c9 => absurd (show (32 : Int32) ≤ nI 32 by decide) c9)
                                refine lv_lload_n hx hb dX5_digest_186 rfl (lv_at hl 1 rfl) ?_
                                subst hQ
                                exact W.lret (v := dgS (d5M (th F) U) (dgS (d4M (th F) U) (dgS (d3M (th F) U) (dgT (th F) (dgS (d1M (th F) U) 1487 13) 8) (10 * ix (th F 0 1))) (4 * ix (th F 0 2))) 32) hx hb hr (fun t ht hW => ⟨⟨_, (), rfl, rfl, bp_at hK hN hP t ht hW⟩, hS.F ht⟩) hS.2.2 dX5_digest_187
                          exact lr37 (32 + 1) 0 _ _ ls (by omega) (by omega) hP hS (lv_sub hl [1, 2, 0] rfl)
                    exact lr36 ((4 * ix (th F 0 2)) + 1) 0 _ _ ls (by omega) (by omega) hP hS (lv_sub hl [1, 2, 0] rfl)
              exact lr35 ((10 * ix (th F 0 1)) + 1) 0 _ _ ls (by omega) (by omega) hP hS (lv_sub hl [1, 2, 0] rfl)
        exact lr34 (8 + 1) 0 _ _ ls (by omega) (by omega) hP hS (lv_sub hl [1, 2, 0] rfl)
  exact lr33 (13 + 1) 0 _ _ ls (by omega) (by omega) hP hS (lv_sub hl [2, 1, 0] rfl)
