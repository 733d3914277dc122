abbrev rmX4_pass : Room := { frames := 3, cells := 0, slots := 0, locals := 72 }
set_option maxHeartbeats 4000000 in
set_option maxRecDepth 100000 in
/-- pass() -/
theorem c_X4_pass (l : Launch) (D : va_G) (y : Nat → ClassId) (sz : Nat) (am bs : Nat → Nat) (s0 a0 : Nat) (F U : Nat → Nat → Int32) (hO : okM F U) : WrV l D y yX4_pass wsX4_pass rmX4_pass [.ref (bs 0)] (moW y am s0 a0 F ++ stW y bs (am 0) U) sz (moW y am s0 a0 F ++ stW y bs (am 0) (paM F U)) := by
  refine mW (fun A => va_Qv (fun (_ : Unit) => True) (fun _ t9 => Bp D y (moW y am s0 a0 F ++ stW y bs (am 0) (paM F U)) t9) A) (C := RX4) (cc := cX4_pass) (maxL := 2) (ret := none) (by decide) rfl rfl (Nat.le_of_ble_eq_true rfl) ?_
  intro p e s m a below meth c ls A Q hQ hsz hx hb hr hts hown hlocks hin hml hP hK hN hD hA hS hl
  have hl : lv_has ls 2 [(0, .ref (bs 0))] := hl
  rw [mo2_fst] at hD
  obtain ⟨hC, hT, hF, hH, hA9⟩ := hO
  have hC7 : ix (F 0 1) < 7 := in_ix hC
  have hT4 : ix (F 0 2) < 4 := in_ix hT
  refine lv_iconst (v := 0) hx hb dX4_pass_0 (by decide) ?_
  refine lv_istore_n (lv' := [(1, .int 0), (0, .ref (bs 0))]) hx hb dX4_pass_1 rfl hl (by decide) rfl (fun ls hl => ?_)
  have hl : lv_has ls 2 [(1, .int (nI 0)), (0, .ref (bs 0))] := hl
  have lr24 : ∀ (n i : Nat) (H : Heap) (locs : List Loc) (ls : Array Slot), (ix (F 0 1)) - i < n → i ≤ (ix (F 0 1)) → va_P D vwCl (moW y am s0 a0 F ++ stW y bs (am 0) (goI F U i)) H → va_S A s.heap H locs → lv_has ls 2 [(0, .ref (bs 0)), (1, .int (nI i))] → W p l e rmX4_pass s m a below meth c H locs 0 0 Q (F0 m 2 ls []) := by
    intro n
    induction n with
    | zero => intro i H locs ls hn; exact absurd hn (Nat.not_lt_zero _)
    | succ n ih =>
      intro i H locs ls hn hi hP hS hl
      rcases Nat.lt_or_ge i (ix (F 0 1)) with hiN | hiN
      · have hi9 : i < 6 := by omega
        have ei : ix (nI i) = i := nI_clamp (by omega)
        refine lv_iload_n hx hb dX4_pass_2 rfl (lv_at hl 1 rfl) ?_
        refine lv_aload_n hx hb dX4_pass_3 rfl (lv_at hl 0 rfl) ?_
        have hin4 : ∀ w ∈ u_ws RX4 TX4 13, w ∈ wsX4_pass := by decide +kernel
        have hf3 := hts (.fieldLink RX4 3 "CoracleMakersModel$State" "this$0" "LCoracleMakersModel;") (by decide +kernel)
        refine va_get (D := D) (ci := 4) (v := .ref (am 0)) (C := RX4) (T := TX4) (N := 13) hx hb hts hin4 hown hK hP (9 + 0) (ap_r (wf_len 9 _ _) (wf_at (by decide) rfl)) rfl 12 (by decide) hf3 (fun _ h9 => h9) rfl dX4_pass_4 ?_
        have hin5 : ∀ w ∈ u_ws RX5 TX5 14, w ∈ wsX4_pass := by decide +kernel
        have hf104 : (Cond.fieldLinkNest RX4 104 "CoracleMakersModel" "coracles" "I" "CoracleMakersModel").before a s = true := va_Nw.use rfl (hN.1 _ (List.mem_of_getElem? (i := 12) rfl))
        refine va_getN (D := D) (ci := 5) (v := .int (F 0 1)) (C := RX5) (T := TX5) (N := 14) hx hb hts hin5 hown hK hP 0 (ap_l (wf_at (by decide) rfl)) rfl 3 (by decide) hf104 (fun _ h9 => h9) rfl dX4_pass_7 ?_
        refine lv_icmp_ge (tgt := 33) hx hb dX4_pass_10 (by decide) (fun c9 => absurd c9 (self_gt hC (by decide) hiN)) (fun _ => ?_)
        refine lv_aload_n hx hb dX4_pass_13 rfl (lv_at hl 0 rfl) ?_
        have hf38 := hts (.fieldLink RX4 38 "CoracleMakersModel$State" "hasSunk" "[Z") (by decide +kernel)
        refine va_get (D := D) (ci := 4) (v := .ref (bs 7)) (C := RX4) (T := TX4) (N := 13) hx hb hts hin4 hown hK hP (9 + 0) (ap_r (wf_len 9 _ _) (wf_at (by decide) rfl)) rfl 10 (by decide) hf38 (fun _ h9 => h9) rfl dX4_pass_14 ?_
        refine lv_iload_n hx hb dX4_pass_17 rfl (lv_at hl 1 rfl) ?_
        refine va_zald hx hb hK hP (9 + 7) 1 (ap_r (wf_len 9 _ _) (wf_at (by decide) rfl)) rfl (vp_in_nI hi9 (by decide)) dX4_pass_18 ?_
        rw [show (nI i).toNatClampNeg = i from ei]
        refine lv_if_ne (tgt := 27) hx hb dX4_pass_19 (by decide) (fun c_165 => ?_) (fun c_165 => ?_)
        · have hP : va_P D vwCl (moW y am s0 a0 F ++ stW y bs (am 0) (goI F U (i + 1))) H := (by rw [← goI_n c_165]; exact hP)
          refine lv_iinc (v := nI (i + 1)) (lv' := [(1, .int (nI (i + 1))), (0, .ref (bs 0))]) hx hb dX4_pass_27 hl (k := 1) rfl (by first | rfl | exact (nI_1 i)) (by decide) rfl (fun ls hl => ?_)
          refine lv_goto (tgt := 2) hx hb dX4_pass_30 (by decide) ?_
          exact ih (i + 1) _ _ _ (by omega) (by omega) hP hS (lv_sub hl [1, 0] rfl)
        · refine lv_aload_n hx hb dX4_pass_22 rfl (lv_at hl 0 rfl) ?_
          refine lv_iload_n hx hb dX4_pass_23 rfl (lv_at hl 1 rfl) ?_
          refine cWV_V (As := [.int (nI i)]) (rest := []) ⟨hx, hb, hml, hown, hts⟩ (c_X4_go l D y _ am bs s0 a0 F (goI F U i) (nI i) (vp_in_nI hi9 (by decide)) (by rw [goI_row _ _ (by omega)]; exact hH)) (cwV 1 hts gX4_pass_X4_go rfl rfl rfl (by decide +kernel) ⟨Nat.le_of_ble_eq_true rfl, Nat.le_of_ble_eq_true rfl⟩) hK hN hP (by rw [mo2_fst]; exact hD) hS hA (va_recv hK hP (ci := 4) (q0 := (9 + 0)) rfl (ap_r (wf_len 9 _ _) (wf_at (by decide) rfl))) rfl hl.1 rfl (Nat.le_of_ble_eq_true rfl) dX4_pass_24 ⟨Nat.le_of_ble_eq_true rfl, Nat.le_of_ble_eq_true rfl⟩ (fun H locs hP9 hk9 hS => ?_)
          have hP : va_P D vwCl (moW y am s0 a0 F ++ stW y bs (am 0) (goI F U (i + 1))) H := (by rw [← goI_y c_165]; rw [show ix (nI i) = i from ei] at hP9; exact hP9)
          refine lv_iinc (v := nI (i + 1)) (lv' := [(1, .int (nI (i + 1))), (0, .ref (bs 0))]) hx hb dX4_pass_27 hl (k := 1) rfl (by first | rfl | exact (nI_1 i)) (by decide) rfl (fun ls hl => ?_)
          refine lv_goto (tgt := 2) hx hb dX4_pass_30 (by decide) ?_
          exact ih (i + 1) _ _ _ (by omega) (by omega) hP hS (lv_sub hl [1, 0] rfl)
      · have e9i : (ix (F 0 1)) = i := by omega
        subst e9i
        refine lv_iload_n hx hb dX4_pass_2 rfl (lv_at hl 1 rfl) ?_
        refine lv_aload_n hx hb dX4_pass_3 rfl (lv_at hl 0 rfl) ?_
        have hin4 : ∀ w ∈ u_ws RX4 TX4 13, w ∈ wsX4_pass := by decide +kernel
        have hf3 := hts (.fieldLink RX4 3 "CoracleMakersModel$State" "this$0" "LCoracleMakersModel;") (by decide +kernel)
        refine va_get (D := D) (ci := 4) (v := .ref (am 0)) (C := RX4) (T := TX4) (N := 13) hx hb hts hin4 hown hK hP (9 + 0) (ap_r (wf_len 9 _ _) (wf_at (by decide) rfl)) rfl 12 (by decide) hf3 (fun _ h9 => h9) rfl dX4_pass_4 ?_
        have hin5 : ∀ w ∈ u_ws RX5 TX5 14, w ∈ wsX4_pass := by decide +kernel
        have hf104 : (Cond.fieldLinkNest RX4 104 "CoracleMakersModel" "coracles" "I" "CoracleMakersModel").before a s = true := va_Nw.use rfl (hN.1 _ (List.mem_of_getElem? (i := 12) rfl))
        refine va_getN (D := D) (ci := 5) (v := .int (F 0 1)) (C := RX5) (T := TX5) (N := 14) hx hb hts hin5 hown hK hP 0 (ap_l (wf_at (by decide) rfl)) rfl 3 (by decide) hf104 (fun _ h9 => h9) rfl dX4_pass_7 ?_
        refine lv_icmp_ge (tgt := 33) hx hb dX4_pass_10 (by decide) (fun _ => ?_) (fun c9 => absurd (self_le hC (by decide)) c9)
        refine lv_iconst (v := 0) hx hb dX4_pass_33 (by decide) ?_
        refine lv_istore_n (lv' := [(1, .int 0), (0, .ref (bs 0))]) hx hb dX4_pass_34 rfl hl (by decide) rfl (fun ls hl => ?_)
        have hl : lv_has ls 2 [(1, .int (nI 0)), (0, .ref (bs 0))] := hl
        have lr25 : ∀ (n i : Nat) (H : Heap) (locs : List Loc) (ls : Array Slot), (ix (F 0 2)) - i < n → i ≤ (ix (F 0 2)) → va_P D vwCl (moW y am s0 a0 F ++ stW y bs (am 0) (drI F (uA F U) i)) H → va_S A s.heap H locs → lv_has ls 2 [(0, .ref (bs 0)), (1, .int (nI i))] → W p l e rmX4_pass s m a below meth c H locs 0 0 Q (F0 m 35 ls []) := by
          intro n
          induction n with
          | zero => intro i H locs ls hn; exact absurd hn (Nat.not_lt_zero _)
          | succ n ih =>
            intro i H locs ls hn hi hP hS hl
            rcases Nat.lt_or_ge i (ix (F 0 2)) with hiN | hiN
            · have hi9 : i < 3 := by omega
              have ei : ix (nI i) = i := nI_clamp (by omega)
              refine lv_iload_n hx hb dX4_pass_35 rfl (lv_at hl 1 rfl) ?_
              refine lv_aload_n hx hb dX4_pass_36 rfl (lv_at hl 0 rfl) ?_
              refine va_get (D := D) (ci := 4) (v := .ref (am 0)) (C := RX4) (T := TX4) (N := 13) hx hb hts hin4 hown hK hP (9 + 0) (ap_r (wf_len 9 _ _) (wf_at (by decide) rfl)) rfl 12 (by decide) hf3 (fun _ h9 => h9) rfl dX4_pass_37 ?_
              have hf111 : (Cond.fieldLinkNest RX4 111 "CoracleMakersModel" "nets" "I" "CoracleMakersModel").before a s = true := va_Nw.use rfl (hN.1 _ (List.mem_of_getElem? (i := 16) rfl))
              refine va_getN (D := D) (ci := 5) (v := .int (F 0 2)) (C := RX5) (T := TX5) (N := 14) hx hb hts hin5 hown hK hP 0 (ap_l (wf_at (by decide) rfl)) rfl 7 (by decide) hf111 (fun _ h9 => h9) rfl dX4_pass_40 ?_
              refine lv_icmp_ge (tgt := 57) hx hb dX4_pass_43 (by decide) (fun c9 => absurd c9 (self_gt hT (by decide) hiN)) (fun _ => ?_)
              refine lv_aload_n hx hb dX4_pass_46 rfl (lv_at hl 0 rfl) ?_
              refine lv_iload_n hx hb dX4_pass_47 rfl (lv_at hl 1 rfl) ?_
              refine cWV_V (As := [.int (nI i)]) (rest := []) ⟨hx, hb, hml, hown, hts⟩ (c_X4_draw l D y _ am bs s0 a0 F (drI F (uA F U) i) (nI i) (vp_in_nI hi9 (by decide)) hF (fun k hk => by rw [drI_row _ _ (by omega) (by omega) (by omega)]; exact hA9 k hk)) (cwV 1 hts gX4_pass_X4_draw rfl rfl rfl (by decide +kernel) ⟨Nat.le_of_ble_eq_true rfl, Nat.le_of_ble_eq_true rfl⟩) hK hN hP (by rw [mo2_fst]; exact hD) hS hA (va_recv hK hP (ci := 4) (q0 := (9 + 0)) rfl (ap_r (wf_len 9 _ _) (wf_at (by decide) rfl))) rfl hl.1 rfl (Nat.le_of_ble_eq_true rfl) dX4_pass_48 ⟨Nat.le_of_ble_eq_true rfl, Nat.le_of_ble_eq_true rfl⟩ (fun H locs hP9 hk9 hS => ?_)
              have hP : va_P D vwCl (moW y am s0 a0 F ++ stW y bs (am 0) (drI F (uA F U) (i + 1))) H := (by rw [show ix (nI i) = i from ei] at hP9; exact hP9)
              refine lv_iinc (v := nI (i + 1)) (lv' := [(1, .int (nI (i + 1))), (0, .ref (bs 0))]) hx hb dX4_pass_51 hl (k := 1) rfl (by first | rfl | exact (nI_1 i)) (by decide) rfl (fun ls hl => ?_)
              refine lv_goto (tgt := 35) hx hb dX4_pass_54 (by decide) ?_
              exact ih (i + 1) _ _ _ (by omega) (by omega) hP hS (lv_sub hl [1, 0] rfl)
            · have e9i : (ix (F 0 2)) = i := by omega
              subst e9i
              refine lv_iload_n hx hb dX4_pass_35 rfl (lv_at hl 1 rfl) ?_
              refine lv_aload_n hx hb dX4_pass_36 rfl (lv_at hl 0 rfl) ?_
              refine va_get (D := D) (ci := 4) (v := .ref (am 0)) (C := RX4) (T := TX4) (N := 13) hx hb hts hin4 hown hK hP (9 + 0) (ap_r (wf_len 9 _ _) (wf_at (by decide) rfl)) rfl 12 (by decide) hf3 (fun _ h9 => h9) rfl dX4_pass_37 ?_
              have hf111 : (Cond.fieldLinkNest RX4 111 "CoracleMakersModel" "nets" "I" "CoracleMakersModel").before a s = true := va_Nw.use rfl (hN.1 _ (List.mem_of_getElem? (i := 16) rfl))
              refine va_getN (D := D) (ci := 5) (v := .int (F 0 2)) (C := RX5) (T := TX5) (N := 14) hx hb hts hin5 hown hK hP 0 (ap_l (wf_at (by decide) rfl)) rfl 7 (by decide) hf111 (fun _ h9 => h9) rfl dX4_pass_40 ?_
              refine lv_icmp_ge (tgt := 57) hx hb dX4_pass_43 (by decide) (fun _ => ?_) (fun c9 => absurd (self_le hT (by decide)) c9)
              refine lv_iconst (v := 0) hx hb dX4_pass_57 (by decide) ?_
              refine lv_istore_n (lv' := [(1, .int 0), (0, .ref (bs 0))]) hx hb dX4_pass_58 rfl hl (by decide) rfl (fun ls hl => ?_)
              have hl : lv_has ls 2 [(1, .int (nI 0)), (0, .ref (bs 0))] := hl
              have lr26 : ∀ (n i : Nat) (H : Heap) (locs : List Loc) (ls : Array Slot), (ix (F 0 1)) - i < n → i ≤ (ix (F 0 1)) → va_P D vwCl (moW y am s0 a0 F ++ stW y bs (am 0) (soI F (uB F U) i)) H → va_S A s.heap H locs → lv_has ls 2 [(0, .ref (bs 0)), (1, .int (nI i))] → W p l e rmX4_pass s m a below meth c H locs 0 0 Q (F0 m 59 ls []) := by
                intro n
                induction n with
                | zero => intro i H locs ls hn; exact absurd hn (Nat.not_lt_zero _)
                | succ n ih =>
                  intro i H locs ls hn hi hP hS hl
                  rcases Nat.lt_or_ge i (ix (F 0 1)) with hiN | hiN
                  · have hi9 : i < 6 := by omega
                    have ei : ix (nI i) = i := nI_clamp (by omega)
                    refine lv_iload_n hx hb dX4_pass_59 rfl (lv_at hl 1 rfl) ?_
                    refine lv_aload_n hx hb dX4_pass_60 rfl (lv_at hl 0 rfl) ?_
                    refine va_get (D := D) (ci := 4) (v := .ref (am 0)) (C := RX4) (T := TX4) (N := 13) hx hb hts hin4 hown hK hP (9 + 0) (ap_r (wf_len 9 _ _) (wf_at (by decide) rfl)) rfl 12 (by decide) hf3 (fun _ h9 => h9) rfl dX4_pass_61 ?_
                    refine va_getN (D := D) (ci := 5) (v := .int (F 0 1)) (C := RX5) (T := TX5) (N := 14) hx hb hts hin5 hown hK hP 0 (ap_l (wf_at (by decide) rfl)) rfl 3 (by decide) hf104 (fun _ h9 => h9) rfl dX4_pass_64 ?_
                    refine lv_icmp_ge (tgt := 90) hx hb dX4_pass_67 (by decide) (fun c9 => absurd c9 (self_gt hC (by decide) hiN)) (fun _ => ?_)
                    refine lv_aload_n hx hb dX4_pass_70 rfl (lv_at hl 0 rfl) ?_
                    have hf38 := hts (.fieldLink RX4 38 "CoracleMakersModel$State" "hasSunk" "[Z") (by decide +kernel)
                    refine va_get (D := D) (ci := 4) (v := .ref (bs 7)) (C := RX4) (T := TX4) (N := 13) hx hb hts hin4 hown hK hP (9 + 0) (ap_r (wf_len 9 _ _) (wf_at (by decide) rfl)) rfl 10 (by decide) hf38 (fun _ h9 => h9) rfl dX4_pass_71 ?_
                    refine lv_iload_n hx hb dX4_pass_74 rfl (lv_at hl 1 rfl) ?_
                    refine va_zald hx hb hK hP (9 + 7) 1 (ap_r (wf_len 9 _ _) (wf_at (by decide) rfl)) rfl (vp_in_nI hi9 (by decide)) dX4_pass_75 ?_
                    rw [show (nI i).toNatClampNeg = i from ei]
                    refine lv_if_ne (tgt := 84) hx hb dX4_pass_76 (by decide) (fun c_166 => ?_) (fun c_166 => ?_)
                    · have hP : va_P D vwCl (moW y am s0 a0 F ++ stW y bs (am 0) (soI F (uB F U) (i + 1))) H := (by rw [← soI_n c_166]; exact hP)
                      refine lv_iinc (v := nI (i + 1)) (lv' := [(1, .int (nI (i + 1))), (0, .ref (bs 0))]) hx hb dX4_pass_84 hl (k := 1) rfl (by first | rfl | exact (nI_1 i)) (by decide) rfl (fun ls hl => ?_)
                      refine lv_goto (tgt := 59) hx hb dX4_pass_87 (by decide) ?_
                      exact ih (i + 1) _ _ _ (by omega) (by omega) hP hS (lv_sub hl [1, 0] rfl)
                    · refine lv_aload_n hx hb dX4_pass_79 rfl (lv_at hl 0 rfl) ?_
                      refine lv_iload_n hx hb dX4_pass_80 rfl (lv_at hl 1 rfl) ?_
                      refine cWV_V (As := [.int (nI i)]) (rest := []) ⟨hx, hb, hml, hown, hts⟩ (c_X4_soak l D y _ am bs s0 a0 F (soI F (uB F U) i) (nI i) (vp_in_nI hi9 (by decide)) ) (cwV 1 hts gX4_pass_X4_soak rfl rfl rfl (by decide +kernel) ⟨Nat.le_of_ble_eq_true rfl, Nat.le_of_ble_eq_true rfl⟩) hK hN hP (by rw [mo2_fst]; exact hD) hS hA (va_recv hK hP (ci := 4) (q0 := (9 + 0)) rfl (ap_r (wf_len 9 _ _) (wf_at (by decide) rfl))) rfl hl.1 rfl (Nat.le_of_ble_eq_true rfl) dX4_pass_81 ⟨Nat.le_of_ble_eq_true rfl, Nat.le_of_ble_eq_true rfl⟩ (fun H locs hP9 hk9 hS => ?_)
                      have hP : va_P D vwCl (moW y am s0 a0 F ++ stW y bs (am 0) (soI F (uB F U) (i + 1))) H := (by rw [← soI_y c_166]; rw [show ix (nI i) = i from ei] at hP9; exact hP9)
                      refine lv_iinc (v := nI (i + 1)) (lv' := [(1, .int (nI (i + 1))), (0, .ref (bs 0))]) hx hb dX4_pass_84 hl (k := 1) rfl (by first | rfl | exact (nI_1 i)) (by decide) rfl (fun ls hl => ?_)
                      refine lv_goto (tgt := 59) hx hb dX4_pass_87 (by decide) ?_
                      exact ih (i + 1) _ _ _ (by omega) (by omega) hP hS (lv_sub hl [1, 0] rfl)
                  · have e9i : (ix (F 0 1)) = i := by omega
                    subst e9i
                    refine lv_iload_n hx hb dX4_pass_59 rfl (lv_at hl 1 rfl) ?_
                    refine lv_aload_n hx hb dX4_pass_60 rfl (lv_at hl 0 rfl) ?_
                    refine va_get (D := D) (ci := 4) (v := .ref (am 0)) (C := RX4) (T := TX4) (N := 13) hx hb hts hin4 hown hK hP (9 + 0) (ap_r (wf_len 9 _ _) (wf_at (by decide) rfl)) rfl 12 (by decide) hf3 (fun _ h9 => h9) rfl dX4_pass_61 ?_
                    refine va_getN (D := D) (ci := 5) (v := .int (F 0 1)) (C := RX5) (T := TX5) (N := 14) hx hb hts hin5 hown hK hP 0 (ap_l (wf_at (by decide) rfl)) rfl 3 (by decide) hf104 (fun _ h9 => h9) rfl dX4_pass_64 ?_
                    refine lv_icmp_ge (tgt := 90) hx hb dX4_pass_67 (by decide) (fun _ => ?_) (fun c9 => absurd (self_le hC (by decide)) c9)
                    have hP : va_P D vwCl (moW y am s0 a0 F ++ stW y bs (am 0) (uC F U)) H := hP
                    have e0 : uD F U 0 0 = U 0 0 := uD_0 F U
                    refine lv_aload_n hx hb dX4_pass_90 rfl (lv_at hl 0 rfl) ?_
                    have hf45 := hts (.fieldLink RX4 45 "CoracleMakersModel$State" "hour" "I") (by decide +kernel)
                    refine va_get (D := D) (ci := 4) (v := .int ((uC F U) 0 0)) (C := RX4) (T := TX4) (N := 13) hx hb hts hin4 hown hK hP (9 + 0) (ap_r (wf_len 9 _ _) (wf_at (by decide) rfl)) rfl 0 (by decide) hf45 (fun _ h9 => h9) rfl dX4_pass_91 ?_
                    refine lv_iconst (v := 4) hx hb dX4_pass_94 (by decide) ?_
                    refine lv_irem hx hb dX4_pass_95 (by decide) ?_
                    refine lv_iconst (v := 3) hx hb dX4_pass_96 (by decide) ?_
                    refine lv_icmp_ne (tgt := 104) hx hb dX4_pass_97 (by decide) (fun c_167 => ?_) (fun c_167 => ?_)
                    · have hP : va_P D vwCl (moW y am s0 a0 F ++ stW y bs (am 0) (uD F U)) H := (by unfold uD; rw [if_neg c_167]; exact hP)
                      refine lv_aload_n hx hb dX4_pass_104 rfl (lv_at hl 0 rfl) ?_
                      have hf19 := hts (.fieldLink RX4 19 "CoracleMakersModel$State" "salmon" "[I") (by decide +kernel)
                      refine va_get (D := D) (ci := 4) (v := .ref (bs 1)) (C := RX4) (T := TX4) (N := 13) hx hb hts hin4 hown hK hP (9 + 0) (ap_r (wf_len 9 _ _) (wf_at (by decide) rfl)) rfl 4 (by decide) hf19 (fun _ h9 => h9) rfl dX4_pass_105 ?_
                      refine lv_bipush (v := 15) hx hb dX4_pass_108 (by decide) ?_
                      refine lv_bipush (v := 60) hx hb dX4_pass_110 (by decide) ?_
                      refine lv_aload_n hx hb dX4_pass_112 rfl (lv_at hl 0 rfl) ?_
                      refine va_get (D := D) (ci := 4) (v := .ref (bs 1)) (C := RX4) (T := TX4) (N := 13) hx hb hts hin4 hown hK hP (9 + 0) (ap_r (wf_len 9 _ _) (wf_at (by decide) rfl)) rfl 4 (by decide) hf19 (fun _ h9 => h9) rfl dX4_pass_113 ?_
                      refine lv_bipush (v := 15) hx hb dX4_pass_116 (by decide) ?_
                      refine va_iald hx hb hK hP (9 + 1) 0 (ap_r (wf_len 9 _ _) (wf_at (by decide) rfl)) rfl (show vp_in (15 : Int32) 16 from vp_in_nI (n := 15) (by decide) (by decide)) dX4_pass_118 ?_
                      refine W.eq (g2 := F0 m 119 ls (.int ((uD F U) 1 15) :: .int 60 :: .int 15 :: .ref (bs 1) :: [])) rfl ?_
                      refine lv_aload_n hx hb dX4_pass_119 rfl (lv_at hl 0 rfl) ?_
                      refine va_get (D := D) (ci := 4) (v := .ref (am 0)) (C := RX4) (T := TX4) (N := 13) hx hb hts hin4 hown hK hP (9 + 0) (ap_r (wf_len 9 _ _) (wf_at (by decide) rfl)) rfl 12 (by decide) hf3 (fun _ h9 => h9) rfl dX4_pass_120 ?_
                      have hf123 : (Cond.fieldLinkNest RX4 123 "CoracleMakersModel" "run" "[I" "CoracleMakersModel").before a s = true := va_Nw.use rfl (hN.1 _ (List.mem_of_getElem? (i := 11) rfl))
                      refine va_getN (D := D) (ci := 5) (v := .ref (am 2)) (C := RX5) (T := TX5) (N := 14) hx hb hts hin5 hown hK hP 0 (ap_l (wf_at (by decide) rfl)) rfl 2 (by decide) hf123 (fun _ h9 => h9) rfl dX4_pass_123 ?_
                      refine lv_aload_n hx hb dX4_pass_126 rfl (lv_at hl 0 rfl) ?_
                      refine va_get (D := D) (ci := 4) (v := .int ((uD F U) 0 0)) (C := RX4) (T := TX4) (N := 13) hx hb hts hin4 hown hK hP (9 + 0) (ap_r (wf_len 9 _ _) (wf_at (by decide) rfl)) rfl 0 (by decide) hf45 (fun _ h9 => h9) rfl dX4_pass_127 ?_
                      refine lv_bipush (v := 8) hx hb dX4_pass_130 (by decide) ?_
                      refine lv_irem hx hb dX4_pass_132 (by decide) ?_
                      refine va_iald hx hb hK hP 2 0 (ap_l (wf_at (by decide) rfl)) rfl (by rw [e0]; exact hH) dX4_pass_133 ?_
                      refine lv_iadd hx hb dX4_pass_134 ?_
                      refine va_mmin hx hb (hml.trans hl.1.symm) hown (hts (.methodLink RX4 76 Lib.Math.min.name) (by decide +kernel)) (hts (.static Lib.Math.min.name) (by decide +kernel)) (hts (.initialized "java/lang/Math") (by decide +kernel)) (hts (.code Lib.Math.min.name Lib.Math.min.code 2 (some .int)) (by decide +kernel)) (Nat.le_of_ble_eq_true rfl) (Nat.le_of_ble_eq_true rfl) (Nat.le_of_ble_eq_true rfl) (Nat.le_of_ble_eq_true rfl) dX4_pass_135 ?_
                      refine W.eq (g2 := F0 m 138 ls (.int (mn 60 (((uD F U) 1 15) + (F 2 (ix (((uD F U) 0 0) - ((uD F U) 0 0) / 8 * 8))))) :: .int 15 :: .ref (bs 1) :: [])) rfl ?_
                      refine lv_topi (fun x_168 ex_168 => ?_)
                      obtain ⟨U57, hU57⟩ : ∃ z, z = va_up (uD F U) 1 (upd ((uD F U) 1) 15 x_168) := ⟨_, rfl⟩
                      refine va_iast hx hb hK hP (aD_D hD (show List.map Prod.fst (moW y am s0 a0 F ++ stW y bs (am 0) (uD F U)) = _ from by rw [List.map_append, mo_fst y am _ _ _, st_fst y bs _ _])) hS (9 + 1) 0 (ap_r (wf_len 9 _ _) (wf_at (by decide) rfl)) rfl (show vp_in (15 : Int32) 16 from vp_in_nI (n := 15) (by decide) (by decide)) dX4_pass_138 (fun H locs hP _ hS => ?_)
                      have hP : va_P D vwCl (moW y am s0 a0 F ++ stW y bs (am 0) U57) H := (by rw [hU57]; exact P_eq (ap_set_r (wf_len 9 _ _) (st_set (k := 1) (upd ((uD F U) 1) 15 x_168) (by decide) rfl)) hP)
                      refine lv_aload_n hx hb dX4_pass_139 rfl (lv_at hl 0 rfl) ?_
                      refine lv_dup hx hb dX4_pass_140 rfl ?_
                      refine va_get (D := D) (ci := 4) (v := .int (U57 0 0)) (C := RX4) (T := TX4) (N := 13) hx hb hts hin4 hown hK hP (9 + 0) (ap_r (wf_len 9 _ _) (wf_at (by decide) rfl)) rfl 0 (by decide) hf45 (fun _ h9 => h9) rfl dX4_pass_141 ?_
                      refine lv_iconst (v := 1) hx hb dX4_pass_144 (by decide) ?_
                      refine lv_iadd hx hb dX4_pass_145 ?_
                      refine lv_topi (fun x_169 ex_169 => ?_)
                      obtain ⟨U58, hU58⟩ : ∃ z, z = va_up U57 0 (upd (U57 0) 0 x_169) := ⟨_, rfl⟩
                      refine va_put (D := D) (ci := 4) (v := .int x_169) (ty := .int) (C := RX4) (T := TX4) (N := 13) hx hb hts hin4 tyX4 tyX4_ok nmX4 hown hK hP (aD_D hD (show List.map Prod.fst (moW y am s0 a0 F ++ stW y bs (am 0) U57) = _ from by rw [List.map_append, mo_fst y am _ _ _, st_fst y bs _ _])) hS (9 + 0) (ap_r (wf_len 9 _ _) (wf_at (by decide) rfl)) rfl 0 (by decide) hf45 (fun _ h9 => h9) rfl (by decide +kernel) rfl rfl (Nat.le_of_ble_eq_true rfl) dX4_pass_146 (fun H locs hP _ hS => ?_)
                      have hP : va_P D vwCl (moW y am s0 a0 F ++ stW y bs (am 0) U58) H := (by rw [hU58]; exact P_eq (ap_set_r (wf_len 9 _ _) (st_set (k := 0) (upd (U57 0) 0 x_169) (by decide) rfl)) hP)
                      have hP : va_P D vwCl (moW y am s0 a0 F ++ stW y bs (am 0) (paM F U)) H := (by subst hU58 ex_169 hU57 ex_168; exact hP)
                      subst hQ
                      exact W.vret hx hb hr (fun t ht hW => ⟨⟨(), rfl, trivial, bp_at hK hN hP t ht hW⟩, hS.F ht⟩) hS.2.2 dX4_pass_149
                    · refine lv_aload_n hx hb dX4_pass_100 rfl (lv_at hl 0 rfl) ?_
                      refine cWV_V (As := []) (rest := []) ⟨hx, hb, hml, hown, hts⟩ (c_X4_goUp l D y _ am bs s0 a0 F (uC F U) ) (cwV 0 hts gX4_pass_X4_goUp rfl rfl rfl (by decide +kernel) ⟨Nat.le_of_ble_eq_true rfl, Nat.le_of_ble_eq_true rfl⟩) hK hN hP (by rw [mo2_fst]; exact hD) hS hA (va_recv hK hP (ci := 4) (q0 := (9 + 0)) rfl (ap_r (wf_len 9 _ _) (wf_at (by decide) rfl))) rfl hl.1 rfl (Nat.le_of_ble_eq_true rfl) dX4_pass_101 ⟨Nat.le_of_ble_eq_true rfl, Nat.le_of_ble_eq_true rfl⟩ (fun H locs hP9 hk9 hS => ?_)
                      have hP : va_P D vwCl (moW y am s0 a0 F ++ stW y bs (am 0) (uD F U)) H := (by unfold uD; rw [if_pos c_167]; exact hP9)
                      refine lv_aload_n hx hb dX4_pass_104 rfl (lv_at hl 0 rfl) ?_
                      have hf19 := hts (.fieldLink RX4 19 "CoracleMakersModel$State" "salmon" "[I") (by decide +kernel)
                      refine va_get (D := D) (ci := 4) (v := .ref (bs 1)) (C := RX4) (T := TX4) (N := 13) hx hb hts hin4 hown hK hP (9 + 0) (ap_r (wf_len 9 _ _) (wf_at (by decide) rfl)) rfl 4 (by decide) hf19 (fun _ h9 => h9) rfl dX4_pass_105 ?_
                      refine lv_bipush (v := 15) hx hb dX4_pass_108 (by decide) ?_
                      refine lv_bipush (v := 60) hx hb dX4_pass_110 (by decide) ?_
                      refine lv_aload_n hx hb dX4_pass_112 rfl (lv_at hl 0 rfl) ?_
                      refine va_get (D := D) (ci := 4) (v := .ref (bs 1)) (C := RX4) (T := TX4) (N := 13) hx hb hts hin4 hown hK hP (9 + 0) (ap_r (wf_len 9 _ _) (wf_at (by decide) rfl)) rfl 4 (by decide) hf19 (fun _ h9 => h9) rfl dX4_pass_113 ?_
                      refine lv_bipush (v := 15) hx hb dX4_pass_116 (by decide) ?_
                      refine va_iald hx hb hK hP (9 + 1) 0 (ap_r (wf_len 9 _ _) (wf_at (by decide) rfl)) rfl (show vp_in (15 : Int32) 16 from vp_in_nI (n := 15) (by decide) (by decide)) dX4_pass_118 ?_
                      refine W.eq (g2 := F0 m 119 ls (.int ((uD F U) 1 15) :: .int 60 :: .int 15 :: .ref (bs 1) :: [])) rfl ?_
                      refine lv_aload_n hx hb dX4_pass_119 rfl (lv_at hl 0 rfl) ?_
                      refine va_get (D := D) (ci := 4) (v := .ref (am 0)) (C := RX4) (T := TX4) (N := 13) hx hb hts hin4 hown hK hP (9 + 0) (ap_r (wf_len 9 _ _) (wf_at (by decide) rfl)) rfl 12 (by decide) hf3 (fun _ h9 => h9) rfl dX4_pass_120 ?_
                      have hf123 : (Cond.fieldLinkNest RX4 123 "CoracleMakersModel" "run" "[I" "CoracleMakersModel").before a s = true := va_Nw.use rfl (hN.1 _ (List.mem_of_getElem? (i := 11) rfl))
                      refine va_getN (D := D) (ci := 5) (v := .ref (am 2)) (C := RX5) (T := TX5) (N := 14) hx hb hts hin5 hown hK hP 0 (ap_l (wf_at (by decide) rfl)) rfl 2 (by decide) hf123 (fun _ h9 => h9) rfl dX4_pass_123 ?_
                      refine lv_aload_n hx hb dX4_pass_126 rfl (lv_at hl 0 rfl) ?_
                      refine va_get (D := D) (ci := 4) (v := .int ((uD F U) 0 0)) (C := RX4) (T := TX4) (N := 13) hx hb hts hin4 hown hK hP (9 + 0) (ap_r (wf_len 9 _ _) (wf_at (by decide) rfl)) rfl 0 (by decide) hf45 (fun _ h9 => h9) rfl dX4_pass_127 ?_
                      refine lv_bipush (v := 8) hx hb dX4_pass_130 (by decide) ?_
                      refine lv_irem hx hb dX4_pass_132 (by decide) ?_
                      refine va_iald hx hb hK hP 2 0 (ap_l (wf_at (by decide) rfl)) rfl (by rw [e0]; exact hH) dX4_pass_133 ?_
                      refine lv_iadd hx hb dX4_pass_134 ?_
                      refine va_mmin hx hb (hml.trans hl.1.symm) hown (hts (.methodLink RX4 76 Lib.Math.min.name) (by decide +kernel)) (hts (.static Lib.Math.min.name) (by decide +kernel)) (hts (.initialized "java/lang/Math") (by decide +kernel)) (hts (.code Lib.Math.min.name Lib.Math.min.code 2 (some .int)) (by decide +kernel)) (Nat.le_of_ble_eq_true rfl) (Nat.le_of_ble_eq_true rfl) (Nat.le_of_ble_eq_true rfl) (Nat.le_of_ble_eq_true rfl) dX4_pass_135 ?_
                      refine W.eq (g2 := F0 m 138 ls (.int (mn 60 (((uD F U) 1 15) + (F 2 (ix (((uD F U) 0 0) - ((uD F U) 0 0) / 8 * 8))))) :: .int 15 :: .ref (bs 1) :: [])) rfl ?_
                      refine lv_topi (fun x_170 ex_170 => ?_)
                      obtain ⟨U59, hU59⟩ : ∃ z, z = va_up (uD F U) 1 (upd ((uD F U) 1) 15 x_170) := ⟨_, rfl⟩
                      refine va_iast hx hb hK hP (aD_D hD (show List.map Prod.fst (moW y am s0 a0 F ++ stW y bs (am 0) (uD F U)) = _ from by rw [List.map_append, mo_fst y am _ _ _, st_fst y bs _ _])) hS (9 + 1) 0 (ap_r (wf_len 9 _ _) (wf_at (by decide) rfl)) rfl (show vp_in (15 : Int32) 16 from vp_in_nI (n := 15) (by decide) (by decide)) dX4_pass_138 (fun H locs hP _ hS => ?_)
                      have hP : va_P D vwCl (moW y am s0 a0 F ++ stW y bs (am 0) U59) H := (by rw [hU59]; exact P_eq (ap_set_r (wf_len 9 _ _) (st_set (k := 1) (upd ((uD F U) 1) 15 x_170) (by decide) rfl)) hP)
                      refine lv_aload_n hx hb dX4_pass_139 rfl (lv_at hl 0 rfl) ?_
                      refine lv_dup hx hb dX4_pass_140 rfl ?_
                      refine va_get (D := D) (ci := 4) (v := .int (U59 0 0)) (C := RX4) (T := TX4) (N := 13) hx hb hts hin4 hown hK hP (9 + 0) (ap_r (wf_len 9 _ _) (wf_at (by decide) rfl)) rfl 0 (by decide) hf45 (fun _ h9 => h9) rfl dX4_pass_141 ?_
                      refine lv_iconst (v := 1) hx hb dX4_pass_144 (by decide) ?_
                      refine lv_iadd hx hb dX4_pass_145 ?_
                      refine lv_topi (fun x_171 ex_171 => ?_)
                      obtain ⟨U60, hU60⟩ : ∃ z, z = va_up U59 0 (upd (U59 0) 0 x_171) := ⟨_, rfl⟩
                      refine va_put (D := D) (ci := 4) (v := .int x_171) (ty := .int) (C := RX4) (T := TX4) (N := 13) hx hb hts hin4 tyX4 tyX4_ok nmX4 hown hK hP (aD_D hD (show List.map Prod.fst (moW y am s0 a0 F ++ stW y bs (am 0) U59) = _ from by rw [List.map_append, mo_fst y am _ _ _, st_fst y bs _ _])) hS (9 + 0) (ap_r (wf_len 9 _ _) (wf_at (by decide) rfl)) rfl 0 (by decide) hf45 (fun _ h9 => h9) rfl (by decide +kernel) rfl rfl (Nat.le_of_ble_eq_true rfl) dX4_pass_146 (fun H locs hP _ hS => ?_)
                      have hP : va_P D vwCl (moW y am s0 a0 F ++ stW y bs (am 0) U60) H := (by rw [hU60]; exact P_eq (ap_set_r (wf_len 9 _ _) (st_set (k := 0) (upd (U59 0) 0 x_171) (by decide) rfl)) hP)
                      have hP : va_P D vwCl (moW y am s0 a0 F ++ stW y bs (am 0) (paM F U)) H := (by subst hU60 ex_171 hU59 ex_170; exact hP)
                      subst hQ
                      exact W.vret hx hb hr (fun t ht hW => ⟨⟨(), rfl, trivial, bp_at hK hN hP t ht hW⟩, hS.F ht⟩) hS.2.2 dX4_pass_149
              exact lr26 ((ix (F 0 1)) + 1) 0 _ _ ls (by omega) (by omega) hP hS (lv_sub hl [1, 0] rfl)
        exact lr25 ((ix (F 0 2)) + 1) 0 _ _ ls (by omega) (by omega) hP hS (lv_sub hl [1, 0] rfl)
  exact lr24 ((ix (F 0 1)) + 1) 0 _ _ ls (by omega) (by omega) hP hS (lv_sub hl [1, 0] rfl)
