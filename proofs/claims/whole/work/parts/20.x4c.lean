theorem cl_at1 (V : Nat → Nat → Int32) (j : Nat) : va_up V 1 (clR (V 1) (j + 1)) 1 j = V 1 j := by
  rw [va_up_self]; unfold clR; rw [if_neg (by omega)]
theorem cl_step1 (V : Nat → Nat → Int32) {j : Nat} (hj : j < 16) : va_up (va_up V 1 (clR (V 1) (j + 1))) 1 (upd (va_up V 1 (clR (V 1) (j + 1)) 1) j (mn 60 (V 1 j - V 1 j / 2 + clB (V 1) (j + 1)))) = va_up V 1 (clR (V 1) j) := by
  funext r
  by_cases hr : r = 1
  · subst hr
    rw [va_up_self, va_up_self, va_up_self]
    funext i
    unfold upd
    by_cases hi : i = j
    · subst hi
      rw [if_pos rfl]
      unfold clR clN clB
      rw [if_pos (show i ≤ i ∧ i < 16 by omega)]
      by_cases h15 : i = 15
      · subst h15; rfl
      · rw [if_neg (show ¬ i + 1 = 16 by omega), if_neg h15]
    · rw [if_neg hi]
      unfold clR
      by_cases h1 : j + 1 ≤ i ∧ i < 16
      · rw [if_pos h1, if_pos (by omega)]
      · rw [if_neg h1, if_neg (by omega)]
  · rw [va_up_ne _ _ hr, va_up_ne _ _ hr, va_up_ne _ _ hr]
theorem cl_161 (V : Nat → Nat → Int32) : va_up V 1 (clR (V 1) 16) = V := by
  funext r
  by_cases hr : r = 1
  · subst hr; rw [va_up_self]; funext i; unfold clR; rw [if_neg (by omega)]
  · rw [va_up_ne _ _ hr]
abbrev rmX4_goUp : Room := { frames := 1, cells := 0, slots := 0, locals := 24 }
set_option maxHeartbeats 4000000 in
set_option maxRecDepth 100000 in
/-- goUp() -/
theorem c_X4_goUp (l : Launch) (D : va_G) (y : Nat → ClassId) (sz : Nat) (am bs : Nat → Nat) (s0 a0 : Nat) (F U : Nat → Nat → Int32) : WrV l D y yX4_goUp wsX4_goUp rmX4_goUp [.ref (bs 0)] (moW y am s0 a0 F ++ stW y bs (am 0) U) sz (moW y am s0 a0 F ++ stW y bs (am 0) (clU U)) := by
  refine mW (fun A => va_Qv (fun (_ : Unit) => True) (fun _ t9 => Bp D y (moW y am s0 a0 F ++ stW y bs (am 0) (clU U)) t9) A) (C := RX4) (cc := cX4_goUp) (maxL := 4) (ret := none) (by decide) rfl rfl (Nat.le_of_ble_eq_true rfl) ?_
  intro p e s m a below meth c ls A Q hQ hsz hx hb hr hts hown hlocks hin hml hP hK hN hD hA hS hl
  have hl : lv_has ls 4 [(0, .ref (bs 0))] := hl
  rw [mo2_fst] at hD
  refine lv_iconst (v := 0) hx hb dX4_goUp_0 (by decide) ?_
  refine lv_istore_n (lv' := [(1, .int 0), (0, .ref (bs 0))]) hx hb dX4_goUp_1 rfl hl (by decide) rfl (fun ls hl => ?_)
  refine lv_bipush (v := 15) hx hb dX4_goUp_2 (by decide) ?_
  refine lv_istore_n (lv' := [(2, .int 15), (1, .int 0), (0, .ref (bs 0))]) hx hb dX4_goUp_4 rfl hl (by decide) rfl (fun ls hl => ?_)
  have hl : lv_has ls 4 [(2, .int 15), (1, .int (clB (U 1) 16)), (0, .ref (bs 0))] := hl
  have hl : lv_has ls 4 [(2, .int (dk 16)), (1, .int (clB (U 1) 16)), (0, .ref (bs 0))] := hl
  have lq9 : ∀ (k : Nat) (H : Heap) (locs : List Loc) (ls : Array Slot), k ≤ 16 → va_P D vwCl (moW y am s0 a0 F ++ stW y bs (am 0) (va_up U 1 (clR (U 1) k))) H → va_S A s.heap H locs → lv_has ls 4 [(0, .ref (bs 0)), (1, .int (clB (U 1) k)), (2, .int (dk k))] → W p l e rmX4_goUp s m a below meth c H locs 0 0 Q (F0 m 5 ls []) := by
    intro k
    induction k with
    | zero =>
      intro H locs ls hk hP hS hl
      refine lv_iload_n hx hb dX4_goUp_5 rfl (lv_at hl 2 rfl) ?_
      refine lv_if_lt (tgt := 47) hx hb dX4_goUp_6 (by decide) (fun _ => ?_) (fun c9 => absurd (show dk 0 < 0 by decide) c9)
      refine lv_aload_n hx hb dX4_goUp_47 rfl (lv_at hl 0 rfl) ?_
      refine lv_dup hx hb dX4_goUp_48 rfl ?_
      have hin4 : ∀ w ∈ u_ws RX4 TX4 13, w ∈ wsX4_goUp := by decide +kernel
      have hf51 := hts (.fieldLink RX4 51 "CoracleMakersModel$State" "spawned" "I") (by decide +kernel)
      refine va_get (D := D) (ci := 4) (v := .int ((va_up U 1 (clR (U 1) 0)) 0 3)) (C := RX4) (T := TX4) (N := 13) hx hb hts hin4 hown hK hP (9 + 0) (ap_r (wf_len 9 _ _) (wf_at (by decide) rfl)) rfl 3 (by decide) hf51 (fun _ h9 => h9) rfl dX4_goUp_49 ?_
      refine lv_iload_n hx hb dX4_goUp_52 rfl (lv_at hl 1 rfl) ?_
      refine lv_iadd hx hb dX4_goUp_53 ?_
      refine lv_topi (fun x_163 ex_163 => ?_)
      obtain ⟨U55, hU55⟩ : ∃ z, z = va_up (va_up U 1 (clR (U 1) 0)) 0 (upd ((va_up U 1 (clR (U 1) 0)) 0) 3 x_163) := ⟨_, rfl⟩
      refine va_put (D := D) (ci := 4) (v := .int x_163) (ty := .int) (C := RX4) (T := TX4) (N := 13) hx hb hts hin4 tyX4 tyX4_ok nmX4 hown hK hP (aD_D hD (show List.map Prod.fst (moW y am s0 a0 F ++ stW y bs (am 0) (va_up U 1 (clR (U 1) 0))) = _ from by rw [List.map_append, mo_fst y am _ _ _, st_fst y bs _ _])) hS (9 + 0) (ap_r (wf_len 9 _ _) (wf_at (by decide) rfl)) rfl 3 (by decide) hf51 (fun _ h9 => h9) rfl (by decide +kernel) rfl rfl (Nat.le_of_ble_eq_true rfl) dX4_goUp_54 (fun H locs hP _ hS => ?_)
      have hP : va_P D vwCl (moW y am s0 a0 F ++ stW y bs (am 0) U55) H := (by rw [hU55]; exact P_eq (ap_set_r (wf_len 9 _ _) (st_set (k := 0) (upd ((va_up U 1 (clR (U 1) 0)) 0) 3 x_163) (by decide) rfl)) hP)
      have hP : va_P D vwCl (moW y am s0 a0 F ++ stW y bs (am 0) (clU U)) H := (by subst hU55 ex_163; exact hP)
      subst hQ
      exact W.vret hx hb hr (fun t ht hW => ⟨⟨(), rfl, trivial, bp_at hK hN hP t ht hW⟩, hS.F ht⟩) hS.2.2 dX4_goUp_57
    | succ j ih =>
      intro H locs ls hk hP hS hl
      have ei : ix (nI j) = j := nI_clamp (by omega)
      have hj : j < 16 := by omega
      have hl : lv_has ls 4 [(0, .ref (bs 0)), (1, .int (clB (U 1) (j + 1))), (2, .int (nI j))] := hl
      refine lv_iload_n hx hb dX4_goUp_5 rfl (lv_at hl 2 rfl) ?_
      refine lv_if_lt (tgt := 47) hx hb dX4_goUp_6 (by decide) (fun c9 => absurd c9 (nI_pos (n := j) (by omega))) (fun _ => ?_)
      refine lv_aload_n hx hb dX4_goUp_9 rfl (lv_at hl 0 rfl) ?_
      have hin4 : ∀ w ∈ u_ws RX4 TX4 13, w ∈ wsX4_goUp := by decide +kernel
      have hf19 := hts (.fieldLink RX4 19 "CoracleMakersModel$State" "salmon" "[I") (by decide +kernel)
      refine va_get (D := D) (ci := 4) (v := .ref (bs 1)) (C := RX4) (T := TX4) (N := 13) hx hb hts hin4 hown hK hP (9 + 0) (ap_r (wf_len 9 _ _) (wf_at (by decide) rfl)) rfl 4 (by decide) hf19 (fun _ h9 => h9) rfl dX4_goUp_10 ?_
      refine lv_iload_n hx hb dX4_goUp_13 rfl (lv_at hl 2 rfl) ?_
      refine va_iald hx hb hK hP (9 + 1) 0 (ap_r (wf_len 9 _ _) (wf_at (by decide) rfl)) rfl (vp_in_nI hj (by decide)) dX4_goUp_14 ?_
      rw [show (nI j).toNatClampNeg = j from ei, cl_at1]
      refine lv_iconst (v := 2) hx hb dX4_goUp_15 (by decide) ?_
      refine lv_idiv hx hb dX4_goUp_16 (by decide) ?_
      refine lv_istore_n (lv' := [(3, .int ((U 1 j) / 2)), (0, .ref (bs 0)), (1, .int (clB (U 1) (j + 1))), (2, .int (nI j))]) hx hb dX4_goUp_17 rfl hl (by decide) rfl (fun ls hl => ?_)
      refine lv_aload_n hx hb dX4_goUp_18 rfl (lv_at hl 1 rfl) ?_
      refine va_get (D := D) (ci := 4) (v := .ref (bs 1)) (C := RX4) (T := TX4) (N := 13) hx hb hts hin4 hown hK hP (9 + 0) (ap_r (wf_len 9 _ _) (wf_at (by decide) rfl)) rfl 4 (by decide) hf19 (fun _ h9 => h9) rfl dX4_goUp_19 ?_
      refine lv_iload_n hx hb dX4_goUp_22 rfl (lv_at hl 3 rfl) ?_
      refine lv_bipush (v := 60) hx hb dX4_goUp_23 (by decide) ?_
      refine lv_aload_n hx hb dX4_goUp_25 rfl (lv_at hl 1 rfl) ?_
      refine va_get (D := D) (ci := 4) (v := .ref (bs 1)) (C := RX4) (T := TX4) (N := 13) hx hb hts hin4 hown hK hP (9 + 0) (ap_r (wf_len 9 _ _) (wf_at (by decide) rfl)) rfl 4 (by decide) hf19 (fun _ h9 => h9) rfl dX4_goUp_26 ?_
      refine lv_iload_n hx hb dX4_goUp_29 rfl (lv_at hl 3 rfl) ?_
      refine va_iald hx hb hK hP (9 + 1) 0 (ap_r (wf_len 9 _ _) (wf_at (by decide) rfl)) rfl (vp_in_nI hj (by decide)) dX4_goUp_30 ?_
      rw [show (nI j).toNatClampNeg = j from ei, cl_at1]
      refine lv_iload_n hx hb dX4_goUp_31 rfl (lv_at hl 0 rfl) ?_
      refine lv_isub hx hb dX4_goUp_32 ?_
      refine lv_iload_n hx hb dX4_goUp_33 rfl (lv_at hl 2 rfl) ?_
      refine lv_iadd hx hb dX4_goUp_34 ?_
      refine va_mmin hx hb (hml.trans hl.1.symm) hown (hts (.methodLink RX4 76 Lib.Math.min.name) (by decide +kernel)) (hts (.static Lib.Math.min.name) (by decide +kernel)) (hts (.initialized "java/lang/Math") (by decide +kernel)) (hts (.code Lib.Math.min.name Lib.Math.min.code 2 (some .int)) (by decide +kernel)) (Nat.le_of_ble_eq_true rfl) (Nat.le_of_ble_eq_true rfl) (Nat.le_of_ble_eq_true rfl) (Nat.le_of_ble_eq_true rfl) dX4_goUp_35 ?_
      refine W.eq (g2 := F0 m 38 ls (.int (mn 60 (((U 1 j) - ((U 1 j) / 2)) + (clB (U 1) (j + 1)))) :: .int (nI j) :: .ref (bs 1) :: [])) rfl ?_
      refine lv_topi (fun x_164 ex_164 => ?_)
      obtain ⟨U56, hU56⟩ : ∃ z, z = va_up (va_up U 1 (clR (U 1) (j + 1))) 1 (upd ((va_up U 1 (clR (U 1) (j + 1))) 1) (ix (nI j)) x_164) := ⟨_, rfl⟩
      refine va_iast hx hb hK hP (aD_D hD (show List.map Prod.fst (moW y am s0 a0 F ++ stW y bs (am 0) (va_up U 1 (clR (U 1) (j + 1)))) = _ from by rw [List.map_append, mo_fst y am _ _ _, st_fst y bs _ _])) hS (9 + 1) 0 (ap_r (wf_len 9 _ _) (wf_at (by decide) rfl)) rfl (vp_in_nI hj (by decide)) dX4_goUp_38 (fun H locs hP _ hS => ?_)
      have hP : va_P D vwCl (moW y am s0 a0 F ++ stW y bs (am 0) U56) H := (by rw [hU56]; exact P_eq (ap_set_r (wf_len 9 _ _) (st_set (k := 1) (upd ((va_up U 1 (clR (U 1) (j + 1))) 1) (ix (nI j)) x_164) (by decide) rfl)) hP)
      refine lv_iload_n hx hb dX4_goUp_39 rfl (lv_at hl 0 rfl) ?_
      refine lv_istore_n (lv' := [(1, .int ((U 1 j) / 2)), (3, .int ((U 1 j) / 2)), (0, .ref (bs 0)), (2, .int (nI j))]) hx hb dX4_goUp_40 rfl hl (by decide) rfl (fun ls hl => ?_)
      have e9 : U56 = va_up U 1 (clR (U 1) j) := by rw [hU56, ei, ex_164]; exact cl_step1 U hj
      rw [e9] at hP
      refine lv_iinc (v := dk j) (lv' := [(2, .int (dk j)), (1, .int ((U 1 j) / 2)), (3, .int ((U 1 j) / 2)), (0, .ref (bs 0))]) hx hb dX4_goUp_41 hl (k := 3) rfl (show nI j + Int32.ofInt (-1) = dk j from dk_m1 j) (by decide) rfl (fun ls hl => ?_)
      refine lv_goto (tgt := 5) hx hb dX4_goUp_44 (by decide) ?_
      have hl : lv_has ls 4 [(2, .int (dk j)), (1, .int ((U 1 j) / 2)), (3, .int ((U 1 j) / 2)), (0, .ref (bs 0))] := hl
      have e8 : U 1 j / 2 = clB (U 1) j := by unfold clB; rw [if_neg (by omega)]
      rw [e8] at hl
      exact ih _ _ _ (by omega) hP hS (lv_sub hl [3, 1, 0] rfl)
  exact lq9 16 _ _ ls (Nat.le_refl _) (by rw [cl_161]; exact hP) hS (lv_sub hl [2, 1, 0] rfl)
