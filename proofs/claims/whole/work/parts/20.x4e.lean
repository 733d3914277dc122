abbrev rmX4_pass_ : Room := { frames := 4, cells := 0, slots := 0, locals := 93 }
set_option maxHeartbeats 4000000 in
set_option maxRecDepth 100000 in
/-- pass(N) -/
theorem c_X4_pass_ (l : Launch) (D : va_G) (y : Nat → ClassId) (sz : Nat) (am bs : Nat → Nat) (s0 a0 : Nat) (F U : Nat → Nat → Int32) (N : Nat) (hN9 : N < 2 ^ 31) (hO : ∀ i, i < N → okM F (psM F U i)) : WrV l D y yX4_pass_ wsX4_pass_ rmX4_pass_ [.ref (bs 0), .int (nI N)] (moW y am s0 a0 F ++ stW y bs (am 0) U) sz (moW y am s0 a0 F ++ stW y bs (am 0) (psM F U N)) := by
  refine mW (fun A => va_Qv (fun (_ : Unit) => True) (fun _ t9 => Bp D y (moW y am s0 a0 F ++ stW y bs (am 0) (psM F U N)) t9) A) (C := RX4) (cc := cX4_pass_) (maxL := 3) (ret := none) (by decide) rfl rfl (Nat.le_of_ble_eq_true rfl) ?_
  intro p e s m a below meth c ls A Q hQ hsz hx hb hr hts hown hlocks hin hml hP hK hN hD hA hS hl
  have hl : lv_has ls 3 [(0, .ref (bs 0)), (1, .int (nI N))] := hl
  rw [mo2_fst] at hD
  refine lv_iconst (v := 0) hx hb dX4_pass__0 (by decide) ?_
  refine lv_istore_n (lv' := [(2, .int 0), (0, .ref (bs 0)), (1, .int (nI N))]) hx hb dX4_pass__1 rfl hl (by decide) rfl (fun ls hl => ?_)
  have hl : lv_has ls 3 [(2, .int (nI 0)), (0, .ref (bs 0)), (1, .int (nI N))] := hl
  have lr27 : ∀ (n i : Nat) (H : Heap) (locs : List Loc) (ls : Array Slot), N - i < n → i ≤ N → va_P D vwCl (moW y am s0 a0 F ++ stW y bs (am 0) (psM F U i)) H → va_S A s.heap H locs → lv_has ls 3 [(0, .ref (bs 0)), (1, .int (nI N)), (2, .int (nI i))] → W p l e rmX4_pass_ s m a below meth c H locs 0 0 Q (F0 m 2 ls []) := by
    intro n
    induction n with
    | zero => intro i H locs ls hn; exact absurd hn (Nat.not_lt_zero _)
    | succ n ih =>
      intro i H locs ls hn hi hP hS hl
      rcases Nat.lt_or_ge i N with hiN | hiN
      · refine lv_iload_n hx hb dX4_pass__2 rfl (lv_at hl 2 rfl) ?_
        refine lv_iload_n hx hb dX4_pass__3 rfl (lv_at hl 1 rfl) ?_
        refine lv_icmp_ge (tgt := 17) hx hb dX4_pass__4 (by decide) (fun c9 => absurd c9 (nI_ge hiN hN9)) (fun _ => ?_)
        refine lv_aload_n hx hb dX4_pass__7 rfl (lv_at hl 0 rfl) ?_
        refine cWV_V (As := []) (rest := []) ⟨hx, hb, hml, hown, hts⟩ (c_X4_pass l D y _ am bs s0 a0 F (psM F U i) (hO i hiN)) (cwV 0 hts gX4_pass__X4_pass rfl rfl rfl (by decide +kernel) ⟨Nat.le_of_ble_eq_true rfl, Nat.le_of_ble_eq_true rfl⟩) hK hN hP (by rw [mo2_fst]; exact hD) hS hA (va_recv hK hP (ci := 4) (q0 := (9 + 0)) rfl (ap_r (wf_len 9 _ _) (wf_at (by decide) rfl))) rfl hl.1 rfl (Nat.le_of_ble_eq_true rfl) dX4_pass__8 ⟨Nat.le_of_ble_eq_true rfl, Nat.le_of_ble_eq_true rfl⟩ (fun H locs hP9 hk9 hS => ?_)
        have hP : va_P D vwCl (moW y am s0 a0 F ++ stW y bs (am 0) (psM F U (i + 1))) H := hP9
        refine lv_iinc (v := nI (i + 1)) (lv' := [(2, .int (nI (i + 1))), (0, .ref (bs 0)), (1, .int (nI N))]) hx hb dX4_pass__11 hl (k := 2) rfl (by first | rfl | exact (nI_1 i)) (by decide) rfl (fun ls hl => ?_)
        refine lv_goto (tgt := 2) hx hb dX4_pass__14 (by decide) ?_
        exact ih (i + 1) _ _ _ (by omega) (by omega) hP hS (lv_sub hl [1, 2, 0] rfl)
      · have e9i : N = i := by omega
        subst e9i
        refine lv_iload_n hx hb dX4_pass__2 rfl (lv_at hl 2 rfl) ?_
        refine lv_iload_n hx hb dX4_pass__3 rfl (lv_at hl 1 rfl) ?_
        refine lv_icmp_ge (tgt := 17) hx hb dX4_pass__4 (by decide) (fun _ => ?_) (fun c9 => absurd (nI_le (Nat.le_refl _) hN9) c9)
        subst hQ
        exact W.vret hx hb hr (fun t ht hW => ⟨⟨(), rfl, trivial, bp_at hK hN hP t ht hW⟩, hS.F ht⟩) hS.2.2 dX4_pass__17
  exact lr27 (N + 1) 0 _ _ ls (by omega) (by omega) hP hS (lv_sub hl [1, 2, 0] rfl)
abbrev rmX4_afloat : Room := { frames := 0, cells := 0, slots := 0, locals := 0 }
set_option maxHeartbeats 4000000 in
set_option maxRecDepth 100000 in
/-- afloat() -/
theorem c_X4_afloat (l : Launch) (D : va_G) (y : Nat → ClassId) (am bs : Nat → Nat) (s0 a0 : Nat) (F U : Nat → Nat → Int32) (hC : vp_in (F 0 1) 7) : RdI l D y yX4_afloat wsX4_afloat rmX4_afloat [.ref (bs 0)] (moW y am s0 a0 F ++ stW y bs (am 0) U) (smI (flM U) (ix (F 0 1))) := by
  refine mR (C := RX4) (cc := cX4_afloat) (maxL := 3) (ret := (some .int)) (by decide) rfl rfl (Nat.le_of_ble_eq_true rfl) ?_
  intro p e s m a below meth c ls Q hQ hx hb hr hts hown hlocks hml hP hK hN hl
  have hl : lv_has ls 3 [(0, .ref (bs 0))] := hl
  have hC7 : ix (F 0 1) < 7 := in_ix hC
  refine lv_iconst (v := 0) hx hb dX4_afloat_0 (by decide) ?_
  refine lv_istore_n (lv' := [(1, .int 0), (0, .ref (bs 0))]) hx hb dX4_afloat_1 rfl hl (by decide) rfl (fun ls hl => ?_)
  refine lv_iconst (v := 0) hx hb dX4_afloat_2 (by decide) ?_
  refine lv_istore_n (lv' := [(2, .int 0), (1, .int 0), (0, .ref (bs 0))]) hx hb dX4_afloat_3 rfl hl (by decide) rfl (fun ls hl => ?_)
  have hl : lv_has ls 3 [(2, .int 0), (1, .int (smI (flM U) 0)), (0, .ref (bs 0))] := hl
  have hl : lv_has ls 3 [(2, .int (nI 0)), (1, .int (smI (flM U) 0)), (0, .ref (bs 0))] := hl
  have ly28 : ∀ (ni i : Nat) (ls : Array Slot), (ix (F 0 1)) - i < ni → i ≤ (ix (F 0 1)) → lv_has ls 3 [(0, .ref (bs 0)), (1, .int (smI (flM U) i)), (2, .int (nI i))] → W p l e rmX4_afloat s m a below meth c s.heap [] 0 0 Q (F0 m 4 ls ([])) := by
    intro ni
    induction ni with
    | zero => intro i ls hn; exact absurd hn (Nat.not_lt_zero _)
    | succ ni ihi =>
      intro i ls hni hii hl
      rcases Nat.lt_or_ge i (ix (F 0 1)) with hiN | hiN
      · have hi9 : i < 6 := by omega
        have ei : ix (nI i) = i := nI_clamp (by omega)
        refine lv_iload_n hx hb dX4_afloat_4 rfl (lv_at hl 2 rfl) ?_
        refine lv_aload_n hx hb dX4_afloat_5 rfl (lv_at hl 0 rfl) ?_
        have hin4 : ∀ w ∈ u_ws RX4 TX4 13, w ∈ wsX4_afloat := by decide +kernel
        have hf3 := hts (.fieldLink RX4 3 "CoracleMakersModel$State" "this$0" "LCoracleMakersModel;") (by decide +kernel)
        refine va_get (D := D) (ci := 4) (v := .ref (am 0)) (C := RX4) (T := TX4) (N := 13) hx hb hts hin4 hown hK hP (9 + 0) (ap_r (wf_len 9 _ _) (wf_at (by decide) rfl)) rfl 12 (by decide) hf3 (fun _ h9 => h9) rfl dX4_afloat_6 ?_
        have hin5 : ∀ w ∈ u_ws RX5 TX5 14, w ∈ wsX4_afloat := by decide +kernel
        have hf104 : (Cond.fieldLinkNest RX4 104 "CoracleMakersModel" "coracles" "I" "CoracleMakersModel").before a s = true := va_Nw.use rfl (hN.1 _ (List.mem_of_getElem? (i := 12) rfl))
        refine va_getN (D := D) (ci := 5) (v := .int (F 0 1)) (C := RX5) (T := TX5) (N := 14) hx hb hts hin5 hown hK hP 0 (ap_l (wf_at (by decide) rfl)) rfl 3 (by decide) hf104 (fun _ h9 => h9) rfl dX4_afloat_9 ?_
        refine lv_icmp_ge (tgt := 38) hx hb dX4_afloat_12 (by decide) (fun c9 => absurd c9 (self_gt hC (by decide) hiN)) (fun _ => ?_)
        refine lv_iload_n hx hb dX4_afloat_15 rfl (lv_at hl 1 rfl) ?_
        refine lv_aload_n hx hb dX4_afloat_16 rfl (lv_at hl 0 rfl) ?_
        have hf38 := hts (.fieldLink RX4 38 "CoracleMakersModel$State" "hasSunk" "[Z") (by decide +kernel)
        refine va_get (D := D) (ci := 4) (v := .ref (bs 7)) (C := RX4) (T := TX4) (N := 13) hx hb hts hin4 hown hK hP (9 + 0) (ap_r (wf_len 9 _ _) (wf_at (by decide) rfl)) rfl 10 (by decide) hf38 (fun _ h9 => h9) rfl dX4_afloat_17 ?_
        refine lv_iload_n hx hb dX4_afloat_20 rfl (lv_at hl 2 rfl) ?_
        refine va_zald hx hb hK hP (9 + 7) 1 (ap_r (wf_len 9 _ _) (wf_at (by decide) rfl)) rfl (vp_in_nI hi9 (by decide)) dX4_afloat_21 ?_
        rw [show (nI i).toNatClampNeg = i from ei]
        refine lv_if_eq (tgt := 29) hx hb dX4_afloat_22 (by decide) (fun c_172 => ?_) (fun c_172 => ?_)
        · refine lv_iconst (v := 1) hx hb dX4_afloat_29 (by decide) ?_
          refine lv_iadd hx hb dX4_afloat_30 ?_
          refine lv_istore_n (lv' := [(1, .int ((smI (flM U) i) + 1)), (0, .ref (bs 0)), (2, .int (nI i))]) hx hb dX4_afloat_31 rfl hl (by decide) rfl (fun ls hl => ?_)
          rw [show (smI (flM U) i) + 1 = smI (flM U) (i + 1) from smI_s _ i (by simp [flM, c_172])] at hl
          refine lv_iinc (v := nI (i + 1)) (lv' := [(2, .int (nI (i + 1))), (1, .int (smI (flM U) (i + 1))), (0, .ref (bs 0))]) hx hb dX4_afloat_32 hl (k := 2) rfl (by first | rfl | exact (nI_1 i)) (by decide) rfl (fun ls hl => ?_)
          refine lv_goto (tgt := 4) hx hb dX4_afloat_35 (by decide) ?_
          exact ihi (i + 1) _ (by omega) (by omega) (lv_sub hl [2, 1, 0] rfl)
        · refine lv_iconst (v := 0) hx hb dX4_afloat_25 (by decide) ?_
          refine lv_goto (tgt := 30) hx hb dX4_afloat_26 (by decide) ?_
          refine lv_iadd hx hb dX4_afloat_30 ?_
          refine lv_istore_n (lv' := [(1, .int ((smI (flM U) i) + 0)), (0, .ref (bs 0)), (2, .int (nI i))]) hx hb dX4_afloat_31 rfl hl (by decide) rfl (fun ls hl => ?_)
          rw [show (smI (flM U) i) + 0 = smI (flM U) (i + 1) from smI_s _ i (by simp [flM, c_172])] at hl
          refine lv_iinc (v := nI (i + 1)) (lv' := [(2, .int (nI (i + 1))), (1, .int (smI (flM U) (i + 1))), (0, .ref (bs 0))]) hx hb dX4_afloat_32 hl (k := 2) rfl (by first | rfl | exact (nI_1 i)) (by decide) rfl (fun ls hl => ?_)
          refine lv_goto (tgt := 4) hx hb dX4_afloat_35 (by decide) ?_
          exact ihi (i + 1) _ (by omega) (by omega) (lv_sub hl [2, 1, 0] rfl)
      · have e9i : (ix (F 0 1)) = i := by omega
        subst e9i
        refine lv_iload_n hx hb dX4_afloat_4 rfl (lv_at hl 2 rfl) ?_
        refine lv_aload_n hx hb dX4_afloat_5 rfl (lv_at hl 0 rfl) ?_
        have hin4 : ∀ w ∈ u_ws RX4 TX4 13, w ∈ wsX4_afloat := by decide +kernel
        have hf3 := hts (.fieldLink RX4 3 "CoracleMakersModel$State" "this$0" "LCoracleMakersModel;") (by decide +kernel)
        refine va_get (D := D) (ci := 4) (v := .ref (am 0)) (C := RX4) (T := TX4) (N := 13) hx hb hts hin4 hown hK hP (9 + 0) (ap_r (wf_len 9 _ _) (wf_at (by decide) rfl)) rfl 12 (by decide) hf3 (fun _ h9 => h9) rfl dX4_afloat_6 ?_
        have hin5 : ∀ w ∈ u_ws RX5 TX5 14, w ∈ wsX4_afloat := by decide +kernel
        have hf104 : (Cond.fieldLinkNest RX4 104 "CoracleMakersModel" "coracles" "I" "CoracleMakersModel").before a s = true := va_Nw.use rfl (hN.1 _ (List.mem_of_getElem? (i := 12) rfl))
        refine va_getN (D := D) (ci := 5) (v := .int (F 0 1)) (C := RX5) (T := TX5) (N := 14) hx hb hts hin5 hown hK hP 0 (ap_l (wf_at (by decide) rfl)) rfl 3 (by decide) hf104 (fun _ h9 => h9) rfl dX4_afloat_9 ?_
        refine lv_icmp_ge (tgt := 38) hx hb dX4_afloat_12 (by decide) (fun _ => ?_) (fun c9 => absurd (self_le hC (by decide)) c9)
        refine lv_iload_n hx hb dX4_afloat_38 rfl (lv_at hl 1 rfl) ?_
        subst hQ
        exact W.iret (v := smI (flM U) (ix (F 0 1))) hx hb hr (fun t ht hW => ⟨_, rfl, rfl, ht⟩) (fun _ h => by cases h) dX4_afloat_39
  exact ly28 ((ix (F 0 1)) + 1) 0 ls (by omega) (by omega) (lv_sub hl [2, 1, 0] rfl)
abbrev rmX4_sum : Room := { frames := 0, cells := 0, slots := 0, locals := 0 }
set_option maxHeartbeats 4000000 in
set_option maxRecDepth 100000 in
/-- sum(row) -/
theorem c_X4_sum6 (l : Launch) (D : va_G) (y : Nat → ClassId) (h0 b0 : Nat) (f : Nat → Int32) : RdI l D y yX4_sum wsX4_sum rmX4_sum [.ref h0, .ref b0] ([(b0, .inl (y 0, 6, .inl f))]) (smI f 6) := by
  refine mR (C := RX4) (cc := cX4_sum) (maxL := 7) (ret := (some .int)) (by decide) rfl rfl (Nat.le_of_ble_eq_true rfl) ?_
  intro p e s m a below meth c ls Q hQ hx hb hr hts hown hlocks hml hP hK hN hl
  have hl : lv_has ls 7 [(0, .ref h0), (1, .ref b0)] := hl
  refine lv_iconst (v := 0) hx hb dX4_sum_0 (by decide) ?_
  refine lv_istore_n (lv' := [(2, .int 0), (0, .ref h0), (1, .ref b0)]) hx hb dX4_sum_1 rfl hl (by decide) rfl (fun ls hl => ?_)
  refine lv_aload_n hx hb dX4_sum_2 rfl (lv_at hl 2 rfl) ?_
  refine lv_astore_n (lv' := [(3, .ref b0), (2, .int 0), (0, .ref h0), (1, .ref b0)]) hx hb dX4_sum_3 rfl hl (by decide) rfl (fun ls hl => ?_)
  refine lv_aload_n hx hb dX4_sum_4 rfl (lv_at hl 0 rfl) ?_
  refine va_alen (v := 6) hx hb hK hP 0 0 rfl rfl rfl dX4_sum_5 ?_
  refine lv_istore (lv' := [(4, .int 6), (3, .ref b0), (2, .int 0), (0, .ref h0), (1, .ref b0)]) hx hb dX4_sum_6 hl (by decide) rfl (fun ls hl => ?_)
  refine lv_iconst (v := 0) hx hb dX4_sum_8 (by decide) ?_
  refine lv_istore (lv' := [(5, .int 0), (4, .int 6), (3, .ref b0), (2, .int 0), (0, .ref h0), (1, .ref b0)]) hx hb dX4_sum_9 hl (by decide) rfl (fun ls hl => ?_)
  have hl : lv_has ls 7 [(5, .int 0), (4, .int 6), (3, .ref b0), (2, .int (smI f 0)), (0, .ref h0), (1, .ref b0)] := hl
  have hl : lv_has ls 7 [(5, .int (nI 0)), (4, .int 6), (3, .ref b0), (2, .int (smI f 0)), (0, .ref h0), (1, .ref b0)] := hl
  have ly29 : ∀ (ni i : Nat) (ls : Array Slot), 6 - i < ni → i ≤ 6 → lv_has ls 7 [(3, .ref b0), (4, .int 6), (2, .int (smI f i)), (5, .int (nI i))] → W p l e rmX4_sum s m a below meth c s.heap [] 0 0 Q (F0 m 11 ls ([])) := by
    intro ni
    induction ni with
    | zero => intro i ls hn; exact absurd hn (Nat.not_lt_zero _)
    | succ ni ihi =>
      intro i ls hni hii hl
      rcases Nat.lt_or_ge i 6 with hiN | hiN
      · have ei : ix (nI i) = i := nI_clamp (by omega)
        refine lv_iload hx hb dX4_sum_11 (lv_at hl 3 rfl) ?_
        refine lv_iload hx hb dX4_sum_13 (lv_at hl 1 rfl) ?_
        refine lv_icmp_ge (tgt := 35) hx hb dX4_sum_15 (by decide) (fun c9 => absurd c9 (nI_ge hiN (by decide))) (fun _ => ?_)
        refine lv_aload_n hx hb dX4_sum_18 rfl (lv_at hl 0 rfl) ?_
        refine lv_iload hx hb dX4_sum_19 (lv_at hl 3 rfl) ?_
        refine va_iald hx hb hK hP 0 0 rfl rfl (vp_in_nI hiN (by decide)) dX4_sum_21 ?_
        rw [show (nI i).toNatClampNeg = i from ei]
        refine lv_istore (lv' := [(6, .int (f i)), (3, .ref b0), (4, .int 6), (2, .int (smI f i)), (5, .int (nI i))]) hx hb dX4_sum_22 hl (by decide) rfl (fun ls hl => ?_)
        refine lv_iload_n hx hb dX4_sum_24 rfl (lv_at hl 3 rfl) ?_
        refine lv_iload hx hb dX4_sum_25 (lv_at hl 0 rfl) ?_
        refine lv_iadd hx hb dX4_sum_27 ?_
        refine lv_istore_n (lv' := [(2, .int ((smI f i) + (f i))), (6, .int (f i)), (3, .ref b0), (4, .int 6), (5, .int (nI i))]) hx hb dX4_sum_28 rfl hl (by decide) rfl (fun ls hl => ?_)
        rw [show smI f i + f i = smI f (i + 1) from rfl] at hl
        refine lv_iinc (v := nI (i + 1)) (lv' := [(5, .int (nI (i + 1))), (2, .int ((smI f i) + (f i))), (6, .int (f i)), (3, .ref b0), (4, .int 6)]) hx hb dX4_sum_29 hl (k := 4) rfl (by first | rfl | exact (nI_1 i)) (by decide) rfl (fun ls hl => ?_)
        refine lv_goto (tgt := 11) hx hb dX4_sum_32 (by decide) ?_
        exact ihi (i + 1) _ (by omega) (by omega) (lv_sub hl [3, 4, 1, 0] rfl)
      · have e9i : 6 = i := by omega
        subst e9i
        refine lv_iload hx hb dX4_sum_11 (lv_at hl 3 rfl) ?_
        refine lv_iload hx hb dX4_sum_13 (lv_at hl 1 rfl) ?_
        refine lv_icmp_ge (tgt := 35) hx hb dX4_sum_15 (by decide) (fun _ => ?_) (fun c9 => absurd (show (6 : Int32) ≤ nI 6 by decide) c9)
        refine lv_iload_n hx hb dX4_sum_35 rfl (lv_at hl 2 rfl) ?_
        subst hQ
        exact W.iret (v := smI f 6) hx hb hr (fun t ht hW => ⟨_, rfl, rfl, ht⟩) (fun _ h => by cases h) dX4_sum_36
  exact ly29 (6 + 1) 0 ls (by omega) (by omega) (lv_sub hl [2, 1, 3, 0] rfl)
set_option maxHeartbeats 4000000 in
set_option maxRecDepth 100000 in
/-- sum(row) -/
theorem c_X4_sum16 (l : Launch) (D : va_G) (y : Nat → ClassId) (h0 b0 : Nat) (f : Nat → Int32) : RdI l D y yX4_sum wsX4_sum rmX4_sum [.ref h0, .ref b0] ([(b0, .inl (y 0, 16, .inl f))]) (smI f 16) := by
  refine mR (C := RX4) (cc := cX4_sum) (maxL := 7) (ret := (some .int)) (by decide) rfl rfl (Nat.le_of_ble_eq_true rfl) ?_
  intro p e s m a below meth c ls Q hQ hx hb hr hts hown hlocks hml hP hK hN hl
  have hl : lv_has ls 7 [(0, .ref h0), (1, .ref b0)] := hl
  refine lv_iconst (v := 0) hx hb dX4_sum_0 (by decide) ?_
  refine lv_istore_n (lv' := [(2, .int 0), (0, .ref h0), (1, .ref b0)]) hx hb dX4_sum_1 rfl hl (by decide) rfl (fun ls hl => ?_)
  refine lv_aload_n hx hb dX4_sum_2 rfl (lv_at hl 2 rfl) ?_
  refine lv_astore_n (lv' := [(3, .ref b0), (2, .int 0), (0, .ref h0), (1, .ref b0)]) hx hb dX4_sum_3 rfl hl (by decide) rfl (fun ls hl => ?_)
  refine lv_aload_n hx hb dX4_sum_4 rfl (lv_at hl 0 rfl) ?_
  refine va_alen (v := 16) hx hb hK hP 0 0 rfl rfl rfl dX4_sum_5 ?_
  refine lv_istore (lv' := [(4, .int 16), (3, .ref b0), (2, .int 0), (0, .ref h0), (1, .ref b0)]) hx hb dX4_sum_6 hl (by decide) rfl (fun ls hl => ?_)
  refine lv_iconst (v := 0) hx hb dX4_sum_8 (by decide) ?_
  refine lv_istore (lv' := [(5, .int 0), (4, .int 16), (3, .ref b0), (2, .int 0), (0, .ref h0), (1, .ref b0)]) hx hb dX4_sum_9 hl (by decide) rfl (fun ls hl => ?_)
  have hl : lv_has ls 7 [(5, .int 0), (4, .int 16), (3, .ref b0), (2, .int (smI f 0)), (0, .ref h0), (1, .ref b0)] := hl
  have hl : lv_has ls 7 [(5, .int (nI 0)), (4, .int 16), (3, .ref b0), (2, .int (smI f 0)), (0, .ref h0), (1, .ref b0)] := hl
  have ly30 : ∀ (ni i : Nat) (ls : Array Slot), 16 - i < ni → i ≤ 16 → lv_has ls 7 [(3, .ref b0), (4, .int 16), (2, .int (smI f i)), (5, .int (nI i))] → W p l e rmX4_sum s m a below meth c s.heap [] 0 0 Q (F0 m 11 ls ([])) := by
    intro ni
    induction ni with
    | zero => intro i ls hn; exact absurd hn (Nat.not_lt_zero _)
    | succ ni ihi =>
      intro i ls hni hii hl
      rcases Nat.lt_or_ge i 16 with hiN | hiN
      · have ei : ix (nI i) = i := nI_clamp (by omega)
        refine lv_iload hx hb dX4_sum_11 (lv_at hl 3 rfl) ?_
        refine lv_iload hx hb dX4_sum_13 (lv_at hl 1 rfl) ?_
        refine lv_icmp_ge (tgt := 35) hx hb dX4_sum_15 (by decide) (fun c9 => absurd c9 (nI_ge hiN (by decide))) (fun _ => ?_)
        refine lv_aload_n hx hb dX4_sum_18 rfl (lv_at hl 0 rfl) ?_
        refine lv_iload hx hb dX4_sum_19 (lv_at hl 3 rfl) ?_
        refine va_iald hx hb hK hP 0 0 rfl rfl (vp_in_nI hiN (by decide)) dX4_sum_21 ?_
        rw [show (nI i).toNatClampNeg = i from ei]
        refine lv_istore (lv' := [(6, .int (f i)), (3, .ref b0), (4, .int 16), (2, .int (smI f i)), (5, .int (nI i))]) hx hb dX4_sum_22 hl (by decide) rfl (fun ls hl => ?_)
        refine lv_iload_n hx hb dX4_sum_24 rfl (lv_at hl 3 rfl) ?_
        refine lv_iload hx hb dX4_sum_25 (lv_at hl 0 rfl) ?_
        refine lv_iadd hx hb dX4_sum_27 ?_
        refine lv_istore_n (lv' := [(2, .int ((smI f i) + (f i))), (6, .int (f i)), (3, .ref b0), (4, .int 16), (5, .int (nI i))]) hx hb dX4_sum_28 rfl hl (by decide) rfl (fun ls hl => ?_)
        rw [show smI f i + f i = smI f (i + 1) from rfl] at hl
        refine lv_iinc (v := nI (i + 1)) (lv' := [(5, .int (nI (i + 1))), (2, .int ((smI f i) + (f i))), (6, .int (f i)), (3, .ref b0), (4, .int 16)]) hx hb dX4_sum_29 hl (k := 4) rfl (by first | rfl | exact (nI_1 i)) (by decide) rfl (fun ls hl => ?_)
        refine lv_goto (tgt := 11) hx hb dX4_sum_32 (by decide) ?_
        exact ihi (i + 1) _ (by omega) (by omega) (lv_sub hl [3, 4, 1, 0] rfl)
      · have e9i : 16 = i := by omega
        subst e9i
        refine lv_iload hx hb dX4_sum_11 (lv_at hl 3 rfl) ?_
        refine lv_iload hx hb dX4_sum_13 (lv_at hl 1 rfl) ?_
        refine lv_icmp_ge (tgt := 35) hx hb dX4_sum_15 (by decide) (fun _ => ?_) (fun c9 => absurd (show (16 : Int32) ≤ nI 16 by decide) c9)
        refine lv_iload_n hx hb dX4_sum_35 rfl (lv_at hl 2 rfl) ?_
        subst hQ
        exact W.iret (v := smI f 16) hx hb hr (fun t ht hW => ⟨_, rfl, rfl, ht⟩) (fun _ h => by cases h) dX4_sum_36
  exact ly30 (16 + 1) 0 ls (by omega) (by omega) (lv_sub hl [2, 1, 3, 0] rfl)
theorem cu_in {x : Int32} (h : vp_in x 13) (h0 : ¬ x = 0) (h1 : ¬ x = 1) (h2 : ¬ x = 2) (h3 : ¬ x = 3) (h4 : ¬ x = 4) (h5 : ¬ x = 5) (h6 : ¬ x = 6) (h7 : ¬ x = 7) (h8 : ¬ x = 8) (h9 : ¬ x = 9) : vp_in (x - 10) 3 := by
  obtain ⟨j, hj, rfl⟩ := vp_in_of h (by decide)
  rcases (show j = 0 ∨ j = 1 ∨ j = 2 ∨ j = 3 ∨ j = 4 ∨ j = 5 ∨ j = 6 ∨ j = 7 ∨ j = 8 ∨ j = 9 ∨ j = 10 ∨ j = 11 ∨ j = 12 by omega) with e | e | e | e | e | e | e | e | e | e | e | e | e <;> subst e
  · exact absurd rfl h0
  · exact absurd rfl h1
  · exact absurd rfl h2
  · exact absurd rfl h3
  · exact absurd rfl h4
  · exact absurd rfl h5
  · exact absurd rfl h6
  · exact absurd rfl h7
  · exact absurd rfl h8
  · exact absurd rfl h9
  · exact vp_in_nI (n := 0) (by decide) (by decide)
  · exact vp_in_nI (n := 1) (by decide) (by decide)
  · exact vp_in_nI (n := 2) (by decide) (by decide)
abbrev rmX4_counted : Room := { frames := 1, cells := 0, slots := 0, locals := 26 }
set_option maxHeartbeats 4000000 in
set_option maxRecDepth 100000 in
/-- counted(x) -/
theorem c_X4_counted (l : Launch) (D : va_G) (y : Nat → ClassId) (am bs : Nat → Nat) (s0 a0 : Nat) (F U : Nat → Nat → Int32) (x : Int32) (hx0 : vp_in x 13) (hC : vp_in (F 0 1) 7) : RdI l D y yX4_counted wsX4_counted rmX4_counted [.ref (bs 0), .int x] (moW y am s0 a0 F ++ stW y bs (am 0) U) (cuM F U x) := by
  refine mR (C := RX4) (cc := cX4_counted) (maxL := 2) (ret := (some .int)) (by decide) rfl rfl (Nat.le_of_ble_eq_true rfl) ?_
  intro p e s m a below meth c ls Q hQ hx hb hr hts hown hlocks hml hP hK hN hl
  have hl : lv_has ls 2 [(0, .ref (bs 0)), (1, .int x)] := hl
  refine lv_iload_n hx hb dX4_counted_0 rfl (lv_at hl 1 rfl) ?_
  by_cases c0 : x = 0
  · refine lv_tableIn (tgt := 56) hx hb dX4_counted_1 (by rw [c0]; decide) (by rw [c0]; decide) (by rw [c0]; rfl) (by decide) ?_
    refine lv_aload_n hx hb dX4_counted_56 rfl (lv_at hl 0 rfl) ?_
    have hin4 : ∀ w ∈ u_ws RX4 TX4 13, w ∈ wsX4_counted := by decide +kernel
    have hf45 := hts (.fieldLink RX4 45 "CoracleMakersModel$State" "hour" "I") (by decide +kernel)
    refine va_get (D := D) (ci := 4) (v := .int (U 0 0)) (C := RX4) (T := TX4) (N := 13) hx hb hts hin4 hown hK hP (9 + 0) (ap_r (wf_len 9 _ _) (wf_at (by decide) rfl)) rfl 0 (by decide) hf45 (fun _ h9 => h9) rfl dX4_counted_57 ?_
    subst hQ
    exact W.iret (v := U 0 0) hx hb hr (fun t ht hW => ⟨_, rfl, (by simp [cuM, c0]), ht⟩) (fun _ h => by cases h) dX4_counted_60
  by_cases c1 : x = 1
  · refine lv_tableIn (tgt := 61) hx hb dX4_counted_1 (by rw [c1]; decide) (by rw [c1]; decide) (by rw [c1]; rfl) (by decide) ?_
    refine lv_aload_n hx hb dX4_counted_61 rfl (lv_at hl 0 rfl) ?_
    have hin4 : ∀ w ∈ u_ws RX4 TX4 13, w ∈ wsX4_counted := by decide +kernel
    have hf15 := hts (.fieldLink RX4 15 "CoracleMakersModel$State" "coins" "I") (by decide +kernel)
    refine va_get (D := D) (ci := 4) (v := .int (U 0 1)) (C := RX4) (T := TX4) (N := 13) hx hb hts hin4 hown hK hP (9 + 0) (ap_r (wf_len 9 _ _) (wf_at (by decide) rfl)) rfl 1 (by decide) hf15 (fun _ h9 => h9) rfl dX4_counted_62 ?_
    subst hQ
    exact W.iret (v := U 0 1) hx hb hr (fun t ht hW => ⟨_, rfl, (by simp [cuM, c0, c1]), ht⟩) (fun _ h => by cases h) dX4_counted_65
  by_cases c2 : x = 2
  · refine lv_tableIn (tgt := 66) hx hb dX4_counted_1 (by rw [c2]; decide) (by rw [c2]; decide) (by rw [c2]; rfl) (by decide) ?_
    refine lv_aload_n hx hb dX4_counted_66 rfl (lv_at hl 0 rfl) ?_
    have hin4 : ∀ w ∈ u_ws RX4 TX4 13, w ∈ wsX4_counted := by decide +kernel
    have hf3 := hts (.fieldLink RX4 3 "CoracleMakersModel$State" "this$0" "LCoracleMakersModel;") (by decide +kernel)
    refine va_get (D := D) (ci := 4) (v := .ref (am 0)) (C := RX4) (T := TX4) (N := 13) hx hb hts hin4 hown hK hP (9 + 0) (ap_r (wf_len 9 _ _) (wf_at (by decide) rfl)) rfl 12 (by decide) hf3 (fun _ h9 => h9) rfl dX4_counted_67 ?_
    have hin5 : ∀ w ∈ u_ws RX5 TX5 14, w ∈ wsX4_counted := by decide +kernel
    have hf129 : (Cond.fieldLinkNest RX4 129 "CoracleMakersModel" "store" "I" "CoracleMakersModel").before a s = true := va_Nw.use rfl (hN.1 _ (List.mem_of_getElem? (i := 19) rfl))
    refine va_getN (D := D) (ci := 5) (v := .int (F 0 3)) (C := RX5) (T := TX5) (N := 14) hx hb hts hin5 hown hK hP 0 (ap_l (wf_at (by decide) rfl)) rfl 10 (by decide) hf129 (fun _ h9 => h9) rfl dX4_counted_70 ?_
    subst hQ
    exact W.iret (v := F 0 3) hx hb hr (fun t ht hW => ⟨_, rfl, (by simp [cuM, c0, c1, c2]), ht⟩) (fun _ h => by cases h) dX4_counted_73
  by_cases c3 : x = 3
  · refine lv_tableIn (tgt := 74) hx hb dX4_counted_1 (by rw [c3]; decide) (by rw [c3]; decide) (by rw [c3]; rfl) (by decide) ?_
    refine lv_aload_n hx hb dX4_counted_74 rfl (lv_at hl 0 rfl) ?_
    have hin4 : ∀ w ∈ u_ws RX4 TX4 13, w ∈ wsX4_counted := by decide +kernel
    have hf3 := hts (.fieldLink RX4 3 "CoracleMakersModel$State" "this$0" "LCoracleMakersModel;") (by decide +kernel)
    refine va_get (D := D) (ci := 4) (v := .ref (am 0)) (C := RX4) (T := TX4) (N := 13) hx hb hts hin4 hown hK hP (9 + 0) (ap_r (wf_len 9 _ _) (wf_at (by decide) rfl)) rfl 12 (by decide) hf3 (fun _ h9 => h9) rfl dX4_counted_75 ?_
    have hin5 : ∀ w ∈ u_ws RX5 TX5 14, w ∈ wsX4_counted := by decide +kernel
    have hf104 : (Cond.fieldLinkNest RX4 104 "CoracleMakersModel" "coracles" "I" "CoracleMakersModel").before a s = true := va_Nw.use rfl (hN.1 _ (List.mem_of_getElem? (i := 12) rfl))
    refine va_getN (D := D) (ci := 5) (v := .int (F 0 1)) (C := RX5) (T := TX5) (N := 14) hx hb hts hin5 hown hK hP 0 (ap_l (wf_at (by decide) rfl)) rfl 3 (by decide) hf104 (fun _ h9 => h9) rfl dX4_counted_78 ?_
    subst hQ
    exact W.iret (v := F 0 1) hx hb hr (fun t ht hW => ⟨_, rfl, (by simp [cuM, c0, c1, c2, c3]), ht⟩) (fun _ h => by cases h) dX4_counted_81
  by_cases c4 : x = 4
  · refine lv_tableIn (tgt := 82) hx hb dX4_counted_1 (by rw [c4]; decide) (by rw [c4]; decide) (by rw [c4]; rfl) (by decide) ?_
    refine lv_aload_n hx hb dX4_counted_82 rfl (lv_at hl 0 rfl) ?_
    refine cRI_V (As := []) (rest := []) ⟨hx, hb, hml, hown, hts⟩ (c_X4_afloat l D y am bs s0 a0 F U hC) (cwV 0 hts gX4_counted_X4_afloat rfl rfl rfl (by decide +kernel) ⟨Nat.le_of_ble_eq_true rfl, Nat.le_of_ble_eq_true rfl⟩) hK hN hP (va_recv hK hP (ci := 4) (q0 := (9 + 0)) rfl (ap_r (wf_len 9 _ _) (wf_at (by decide) rfl))) rfl hl.1 rfl (Nat.le_of_ble_eq_true rfl) dX4_counted_83 ⟨Nat.le_of_ble_eq_true rfl, Nat.le_of_ble_eq_true rfl⟩ ?_
    subst hQ
    exact W.iret (v := smI (flM U) (ix (F 0 1))) hx hb hr (fun t ht hW => ⟨_, rfl, (by simp [cuM, c0, c1, c2, c3, c4]), ht⟩) (fun _ h => by cases h) dX4_counted_86
  by_cases c5 : x = 5
  · refine lv_tableIn (tgt := 87) hx hb dX4_counted_1 (by rw [c5]; decide) (by rw [c5]; decide) (by rw [c5]; rfl) (by decide) ?_
    refine lv_aload_n hx hb dX4_counted_87 rfl (lv_at hl 0 rfl) ?_
    have hin4 : ∀ w ∈ u_ws RX4 TX4 13, w ∈ wsX4_counted := by decide +kernel
    have hf3 := hts (.fieldLink RX4 3 "CoracleMakersModel$State" "this$0" "LCoracleMakersModel;") (by decide +kernel)
    refine va_get (D := D) (ci := 4) (v := .ref (am 0)) (C := RX4) (T := TX4) (N := 13) hx hb hts hin4 hown hK hP (9 + 0) (ap_r (wf_len 9 _ _) (wf_at (by decide) rfl)) rfl 12 (by decide) hf3 (fun _ h9 => h9) rfl dX4_counted_88 ?_
    have hin5 : ∀ w ∈ u_ws RX5 TX5 14, w ∈ wsX4_counted := by decide +kernel
    have hf111 : (Cond.fieldLinkNest RX4 111 "CoracleMakersModel" "nets" "I" "CoracleMakersModel").before a s = true := va_Nw.use rfl (hN.1 _ (List.mem_of_getElem? (i := 16) rfl))
    refine va_getN (D := D) (ci := 5) (v := .int (F 0 2)) (C := RX5) (T := TX5) (N := 14) hx hb hts hin5 hown hK hP 0 (ap_l (wf_at (by decide) rfl)) rfl 7 (by decide) hf111 (fun _ h9 => h9) rfl dX4_counted_91 ?_
    subst hQ
    exact W.iret (v := F 0 2) hx hb hr (fun t ht hW => ⟨_, rfl, (by simp [cuM, c0, c1, c2, c3, c4, c5]), ht⟩) (fun _ h => by cases h) dX4_counted_94
  by_cases c6 : x = 6
  · refine lv_tableIn (tgt := 95) hx hb dX4_counted_1 (by rw [c6]; decide) (by rw [c6]; decide) (by rw [c6]; rfl) (by decide) ?_
    refine lv_aload_n hx hb dX4_counted_95 rfl (lv_at hl 0 rfl) ?_
    refine lv_aload_n hx hb dX4_counted_96 rfl (lv_at hl 0 rfl) ?_
    have hin4 : ∀ w ∈ u_ws RX4 TX4 13, w ∈ wsX4_counted := by decide +kernel
    have hf35 := hts (.fieldLink RX4 35 "CoracleMakersModel$State" "load" "[I") (by decide +kernel)
    refine va_get (D := D) (ci := 4) (v := .ref (bs 6)) (C := RX4) (T := TX4) (N := 13) hx hb hts hin4 hown hK hP (9 + 0) (ap_r (wf_len 9 _ _) (wf_at (by decide) rfl)) rfl 9 (by decide) hf35 (fun _ h9 => h9) rfl dX4_counted_97 ?_
    refine cRI_V (As := [.ref (bs 6)]) (rest := []) ⟨hx, hb, hml, hown, hts⟩ (c_X4_sum6 l D y (bs 0) (bs 6) (U 6)) (cwV 1 hts gX4_counted_X4_sum rfl rfl rfl (by decide +kernel) ⟨Nat.le_of_ble_eq_true rfl, Nat.le_of_ble_eq_true rfl⟩) hK hN (P_m hP (k := (9 + 6)) (ap_r (wf_len 9 _ _) (wf_at (by decide) rfl))) (va_recv hK hP (ci := 4) (q0 := (9 + 0)) rfl (ap_r (wf_len 9 _ _) (wf_at (by decide) rfl))) rfl hl.1 rfl (Nat.le_of_ble_eq_true rfl) dX4_counted_100 ⟨Nat.le_of_ble_eq_true rfl, Nat.le_of_ble_eq_true rfl⟩ ?_
    subst hQ
    exact W.iret (v := smI (U 6) 6) hx hb hr (fun t ht hW => ⟨_, rfl, (by simp [cuM, c0, c1, c2, c3, c4, c5, c6]), ht⟩) (fun _ h => by cases h) dX4_counted_103
  by_cases c7 : x = 7
  · refine lv_tableIn (tgt := 104) hx hb dX4_counted_1 (by rw [c7]; decide) (by rw [c7]; decide) (by rw [c7]; rfl) (by decide) ?_
    refine lv_aload_n hx hb dX4_counted_104 rfl (lv_at hl 0 rfl) ?_
    refine lv_aload_n hx hb dX4_counted_105 rfl (lv_at hl 0 rfl) ?_
    have hin4 : ∀ w ∈ u_ws RX4 TX4 13, w ∈ wsX4_counted := by decide +kernel
    have hf19 := hts (.fieldLink RX4 19 "CoracleMakersModel$State" "salmon" "[I") (by decide +kernel)
    refine va_get (D := D) (ci := 4) (v := .ref (bs 1)) (C := RX4) (T := TX4) (N := 13) hx hb hts hin4 hown hK hP (9 + 0) (ap_r (wf_len 9 _ _) (wf_at (by decide) rfl)) rfl 4 (by decide) hf19 (fun _ h9 => h9) rfl dX4_counted_106 ?_
    refine cRI_V (As := [.ref (bs 1)]) (rest := []) ⟨hx, hb, hml, hown, hts⟩ (c_X4_sum16 l D y (bs 0) (bs 1) (U 1)) (cwV 1 hts gX4_counted_X4_sum rfl rfl rfl (by decide +kernel) ⟨Nat.le_of_ble_eq_true rfl, Nat.le_of_ble_eq_true rfl⟩) hK hN (P_m hP (k := (9 + 1)) (ap_r (wf_len 9 _ _) (wf_at (by decide) rfl))) (va_recv hK hP (ci := 4) (q0 := (9 + 0)) rfl (ap_r (wf_len 9 _ _) (wf_at (by decide) rfl))) rfl hl.1 rfl (Nat.le_of_ble_eq_true rfl) dX4_counted_109 ⟨Nat.le_of_ble_eq_true rfl, Nat.le_of_ble_eq_true rfl⟩ ?_
    subst hQ
    exact W.iret (v := smI (U 1) 16) hx hb hr (fun t ht hW => ⟨_, rfl, (by simp [cuM, c0, c1, c2, c3, c4, c5, c6, c7]), ht⟩) (fun _ h => by cases h) dX4_counted_112
  by_cases c8 : x = 8
  · refine lv_tableIn (tgt := 113) hx hb dX4_counted_1 (by rw [c8]; decide) (by rw [c8]; decide) (by rw [c8]; rfl) (by decide) ?_
    refine lv_aload_n hx hb dX4_counted_113 rfl (lv_at hl 0 rfl) ?_
    have hin4 : ∀ w ∈ u_ws RX4 TX4 13, w ∈ wsX4_counted := by decide +kernel
    have hf48 := hts (.fieldLink RX4 48 "CoracleMakersModel$State" "sold" "I") (by decide +kernel)
    refine va_get (D := D) (ci := 4) (v := .int (U 0 2)) (C := RX4) (T := TX4) (N := 13) hx hb hts hin4 hown hK hP (9 + 0) (ap_r (wf_len 9 _ _) (wf_at (by decide) rfl)) rfl 2 (by decide) hf48 (fun _ h9 => h9) rfl dX4_counted_114 ?_
    subst hQ
    exact W.iret (v := U 0 2) hx hb hr (fun t ht hW => ⟨_, rfl, (by simp [cuM, c0, c1, c2, c3, c4, c5, c6, c7, c8]), ht⟩) (fun _ h => by cases h) dX4_counted_117
  by_cases c9 : x = 9
  · refine lv_tableIn (tgt := 118) hx hb dX4_counted_1 (by rw [c9]; decide) (by rw [c9]; decide) (by rw [c9]; rfl) (by decide) ?_
    refine lv_aload_n hx hb dX4_counted_118 rfl (lv_at hl 0 rfl) ?_
    have hin4 : ∀ w ∈ u_ws RX4 TX4 13, w ∈ wsX4_counted := by decide +kernel
    have hf51 := hts (.fieldLink RX4 51 "CoracleMakersModel$State" "spawned" "I") (by decide +kernel)
    refine va_get (D := D) (ci := 4) (v := .int (U 0 3)) (C := RX4) (T := TX4) (N := 13) hx hb hts hin4 hown hK hP (9 + 0) (ap_r (wf_len 9 _ _) (wf_at (by decide) rfl)) rfl 3 (by decide) hf51 (fun _ h9 => h9) rfl dX4_counted_119 ?_
    subst hQ
    exact W.iret (v := U 0 3) hx hb hr (fun t ht hW => ⟨_, rfl, (by simp [cuM, c0, c1, c2, c3, c4, c5, c6, c7, c8, c9]), ht⟩) (fun _ h => by cases h) dX4_counted_122
  refine lv_tableOut (tgt := 123) hx hb dX4_counted_1 (sw_out x (n := 10) (by decide) (by decide) (fun j hj e => match j, hj, e with | 0, _, e => c0 e | 1, _, e => c1 e | 2, _, e => c2 e | 3, _, e => c3 e | 4, _, e => c4 e | 5, _, e => c5 e | 6, _, e => c6 e | 7, _, e => c7 e | 8, _, e => c8 e | 9, _, e => c9 e | j + 10, hj, _ => absurd hj (by omega))) (by decide) ?_
  refine lv_aload_n hx hb dX4_counted_123 rfl (lv_at hl 0 rfl) ?_
  have hin4 : ∀ w ∈ u_ws RX4 TX4 13, w ∈ wsX4_counted := by decide +kernel
  have hf3 := hts (.fieldLink RX4 3 "CoracleMakersModel$State" "this$0" "LCoracleMakersModel;") (by decide +kernel)
  refine va_get (D := D) (ci := 4) (v := .ref (am 0)) (C := RX4) (T := TX4) (N := 13) hx hb hts hin4 hown hK hP (9 + 0) (ap_r (wf_len 9 _ _) (wf_at (by decide) rfl)) rfl 12 (by decide) hf3 (fun _ h9 => h9) rfl dX4_counted_124 ?_
  have hin5 : ∀ w ∈ u_ws RX5 TX5 14, w ∈ wsX4_counted := by decide +kernel
  have hf140 : (Cond.fieldLinkNest RX4 140 "CoracleMakersModel" "hides" "[I" "CoracleMakersModel").before a s = true := va_Nw.use rfl (hN.1 _ (List.mem_of_getElem? (i := 20) rfl))
  refine va_getN (D := D) (ci := 5) (v := .ref (am 8)) (C := RX5) (T := TX5) (N := 14) hx hb hts hin5 hown hK hP 0 (ap_l (wf_at (by decide) rfl)) rfl 11 (by decide) hf140 (fun _ h9 => h9) rfl dX4_counted_127 ?_
  refine lv_iload_n hx hb dX4_counted_130 rfl (lv_at hl 1 rfl) ?_
  refine lv_bipush (v := 10) hx hb dX4_counted_131 (by decide) ?_
  refine lv_isub hx hb dX4_counted_133 ?_
  refine va_iald hx hb hK hP 8 0 (ap_l (wf_at (by decide) rfl)) rfl (cu_in hx0 c0 c1 c2 c3 c4 c5 c6 c7 c8 c9) dX4_counted_134 ?_
  subst hQ
  exact W.iret (v := F 8 (ix (x - 10))) hx hb hr (fun t ht hW => ⟨_, rfl, (by simp [cuM, c0, c1, c2, c3, c4, c5, c6, c7, c8, c9]), ht⟩) (fun _ h => by cases h) dX4_counted_135
