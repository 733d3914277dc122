section WECALL
variable {p : Program} {l : Launch} {e : Env} {R : Room} {s : State} {m : MethodId} {args : Array Value} {below : List Frame} {meth : Method} {c : Code} {H : Heap} {locs : List Loc} {cells slots : Nat} {Q : State → Prop}
variable {pc : Nat} {ls : Array Slot} {rest st0 As : List Value} {cc : ByteArray} {nL index maxL n : Nat} {ret : Option FieldType} {own C : String} {Ts ws : List Cond} {yM : MethodName} {bytes : ByteArray} {rm : Room} {b : Nat}
variable {D : va_G} {y : Nat → ClassId} {wc : va_W} {w1 : (Nat → Nat → Int32) → va_W} {A : Nat → Prop} {H0 : Heap}
theorem cWE_V {F : Int32} (S : CallFix p m c cc nL s args Ts own) (hM : WrE l D y yM ws rm (.ref b :: As) wc H.size F w1) (cw : CallW R s args own C index yM bytes maxL ret ws rm 0 0 n) (hK : va_K D vwCl (tyL y) s) (hN : NW s) (hP : va_P D vwCl wc H) (hDc : aD A (wc.map Prod.fst)) (hS : va_S A H0 H locs) (hA : ∀ q, H0.size ≤ q → A q) (hrecv : ∃ cell : Cell, H[b]? = some cell ∧ cell.vm.isStatics = false ∧ s.vm.findClass C = some cell.cls)
    (hn : As.length = n) (hsize : ls.size = nL) (hstack : st0 = As.reverse ++ .ref b :: rest) (hW : (rest.map fun v => v.category).sum ≤ 8) (hdg : decode cc pc = .ok (.invokevirtual index, 3)) (hf : cells + 0 ≤ R.cells ∧ slots + 0 ≤ R.slots)
    (kk : ∀ (u : Nat → Nat → Int32) (H1 : Heap) (locs1 : List Loc), va_P D vwCl (w1 u) H1 → (∀ q : Nat, q < H.size → ¬ aW wc H.size q → H1[q]? = H[q]?) → va_S A H0 H1 locs1 → W p l e R s m args below meth c H1 locs1 cells slots Q (F0 m (pc + 3) ls (.int F :: rest))) : W p l e R s m args below meth c H locs cells slots Q (F0 m pc ls st0) :=
  va_calli (va_runV S hM cw ⟨Bw.blind, hrecv, fun U hU hW => ⟨rfl, by rw [hU], bp_at hK hN hP U hU hW, aD_mono hDc (fun _ _ _ => trivial)⟩⟩ rfl hn hsize hstack (lv_room hW) hdg hf) hS (fun q _ h => aW_sub hDc hS hA (fun _ h => h) q h) (aW_sub hDc hS hA (fun _ h => h)) (fun r u t H1 locs1 ht hvm hw hB hz hk hS1 => by
    rw [hw]
    exact kk u H1 locs1 (by rw [← ht]; exact hB.1) hk hS1)
end WECALL
/-! ===== CoracleMakers: what would be ===== -/
/-- the first number from i on, of n, at which p holds, else -1 -/
def fiN (p : Nat → Int32) (i : Nat) : Nat → Int32 | 0 => -1 | n + 1 => if p i = 0 then fiN p (i + 1) n else nI i
theorem fiN_0 (p : Nat → Int32) (i : Nat) : fiN p i 0 = -1 := rfl
theorem fiN_n {p : Nat → Int32} {i n : Nat} (h : p i = 0) : fiN p i (n + 1) = fiN p (i + 1) n := by show (if p i = 0 then _ else _) = _; rw [if_pos h]
theorem fiN_y {p : Nat → Int32} {i n : Nat} (h : ¬ p i = 0) : fiN p i (n + 1) = nI i := by show (if p i = 0 then _ else _) = _; rw [if_neg h]
abbrev mtP (K V : Nat → Nat → Int32) (n h : Nat) : Int32 := tgF (lsV K V h) n
abbrev siP (K V : Nat → Nat → Int32) (c h : Nat) : Int32 := if ¬ lsV K V h (c + 5) 8 = 0 then 0 else 1
def meC (V : Nat → Nat → Int32) (n : Int32) : Nat := if ciP n (V 0 3) then 1 else 0
def siC (V : Nat → Nat → Int32) (c : Int32) : Nat := if ciP c (V 0 2) then 1 else 0
def foC (h x : Int32) : Nat := if caP h 1 40 then 2 else if ciP x 13 then 1 else 0
def adC (V : Nat → Nat → Int32) (n h : Int32) : Nat := if ciP n (V 0 3) then 1 else if caP h 1 10 then 2 else 0
abbrev cwF (K V : Nat → Nat → Int32) (n h g : Nat) : Int32 := lsV K (glV V n (nI g)) h (n + 11) 2
def adM (f : Nat → Int32) : Nat → Int32 | 0 => -1 | g + 1 => if f g ≤ adM f g then adM f g else f g
def adB (f : Nat → Int32) : Nat → Int32 | 0 => 0 | g + 1 => if f g ≤ adM f g then adB f g else nI g
abbrev rmX3_meets : Room := { frames := 7, cells := 1, slots := 6, locals := 144 }
set_option maxHeartbeats 4000000 in
set_option maxRecDepth 100000 in
/-- meets(x) -/
theorem c_X3_meets (l : Launch) (D : va_G) (y : Nat → ClassId) (sz : Nat) (hst : l.stackTraces = false) (ac an ar : Nat → Nat) (K V U : Nat → Nat → Int32) (x : Int32) (hT : vp_in (V 0 3) 4) (hO : ∀ i, i < 91 → okH K (lsV K V i)) (hI : ∀ i, i < 91 → rvI (lsV K V i)) : XI (S := Nat → Nat → Int32) l D y yX3_meets wsX3_meets rmX3_meets 1 6 [.ref (ac 0), .int x] (cmA y ac an ar K V U) sz (meC V x) (fiN (mtP K V (ix x)) 0 91) (fun u => cmA y ac an ar K V u) := by
  refine mX (fun A => va_Qi (fun r9 (_ : Nat → Nat → Int32) => (meC V x) = 0 ∧ r9 = (fiN (mtP K V (ix x)) 0 91)) (fun u t9 => Bp D y (cmA y ac an ar K V u) t9) A) (fun A => vx_X (fun (_ : Unit) => ¬ (meC V x) = 0) (fun E _ t9 => E = xnm (meC V x) ∧ va_P D vwCl (cmA y ac an ar K V U) t9.heap) A) (C := RX3) (cc := cX3_meets) (maxL := 3) (ret := (some .int)) (by decide) rfl rfl (Nat.le_of_ble_eq_true rfl) ?_
  intro p e s m a below meth c ls A Q hQ hsz hx hb hr hts hown hlocks htab hml hP hK hN hE hX hD hA hS hl
  rw [cmA_fst] at hD
  have hl : lv_has ls 3 [(0, .ref (ac 0)), (1, .int x)] := hl
  refine lv_iload_n hx hb dX3_meets_0 rfl (lv_at hl 1 rfl) ?_
  refine lv_aload_n hx hb dX3_meets_1 rfl (lv_at hl 0 rfl) ?_
  have hin3 : ∀ w ∈ u_ws RX3 TX3 4, w ∈ wsX3_meets := by decide +kernel
  have hf19 := hts (.fieldLink RX3 19 "CoracleMakers" "now" "LCoracleMakers$River;") (by decide +kernel)
  refine va_get (D := D) (ci := 3) (v := .ref (an 0)) (C := RX3) (T := TX3) (N := 4) hx hb hts hin3 hown hK hP 0 (ap_l (wf_at (by decide) rfl)) rfl 2 (by decide) hf19 (fun _ h9 => h9) rfl dX3_meets_2 ?_
  have hin2 : ∀ w ∈ u_ws RX2 TX2 10, w ∈ wsX3_meets := by decide +kernel
  have hf94 := hts (.fieldLink RX3 94 "CoracleMakers$River" "tied" "I") (by decide +kernel)
  refine va_get (D := D) (ci := 2) (v := .int (V 0 3)) (C := RX2) (T := TX2) (N := 10) hx hb hts hin2 hown hK hP (3 + 0) (ap_r (wf_len 3 _ _) (ap_l (wf_at (by decide) rfl))) rfl 7 (by decide) hf94 (fun _ h9 => h9) rfl dX3_meets_5 ?_
  refine cX_S (W0 := (cmW y ac (an 0) (ar 0) K ++ (rvW y an V ++ rvW y ar U))) (As := [.int x, .int (V 0 3)]) (rest := []) ⟨hx, hb, hml, hown, hts⟩ (c_X3_checkIndex l D y _ hst x (V 0 3)) (va_cwS 2 hts gX3_meets_X3_checkIndex rfl rfl rfl (by decide +kernel) ⟨Nat.le_of_ble_eq_true rfl, Nat.le_of_ble_eq_true rfl⟩) hK hN hE hX hP hS hA rfl hl.1 rfl (Nat.le_of_ble_eq_true rfl) dX3_meets_8 ⟨Nat.le_of_ble_eq_true rfl, Nat.le_of_ble_eq_true rfl⟩ (fun hc_98 ce q9 H locs hP hS h91 h92 h93 => ?_) (fun hc_98 H locs hP hS => ?_)
  · subst hQ
    exact vx_out (fun x hx9 => (htab x hx9).elim) hlocks h91 h92 h93 (fun t ht hv9 => ⟨(), (by unfold meC; rw [if_pos hc_98]; decide), ⟨(by unfold meC; rw [if_pos hc_98]), by rw [ht]; exact hP⟩, hS.F ht⟩) hS.2.2 (Nat.le_of_ble_eq_true rfl) (Nat.le_of_ble_eq_true rfl)
  have hx3 : vp_in x 3 := nci hc_98 hT
  refine lv_aload_n hx hb dX3_meets_11 rfl (lv_at hl 0 rfl) ?_
  have hf23 := hts (.fieldLink RX3 23 "CoracleMakers" "trial" "LCoracleMakers$River;") (by decide +kernel)
  refine va_get (D := D) (ci := 3) (v := .ref (ar 0)) (C := RX3) (T := TX3) (N := 4) hx hb hts hin3 hown hK hP 0 (ap_l (wf_at (by decide) rfl)) rfl 3 (by decide) hf23 (fun _ h9 => h9) rfl dX3_meets_12 ?_
  refine lv_aload_n hx hb dX3_meets_15 rfl (lv_at hl 0 rfl) ?_
  refine va_get (D := D) (ci := 3) (v := .ref (an 0)) (C := RX3) (T := TX3) (N := 4) hx hb hts hin3 hown hK hP 0 (ap_l (wf_at (by decide) rfl)) rfl 2 (by decide) hf19 (fun _ h9 => h9) rfl dX3_meets_16 ?_
  have hI0 : rvI V := hI 0 (by decide)
  refine cWV_V (As := [.ref (an 0)]) (rest := []) ⟨hx, hb, hml, hown, hts⟩ (c_X2_becomeLike l D y _ an ar V U hI0) (cwV 1 hts gX3_meets_X2_becomeLike rfl rfl rfl (by decide +kernel) ⟨Nat.le_of_ble_eq_true rfl, Nat.le_of_ble_eq_true rfl⟩) hK hN (P_r hP) (by rw [rv2_fst]; exact aD_r hD) hS hA (va_recv hK hP (ci := 2) (q0 := (3 + (14 + 0))) rfl (ap_r (wf_len 3 _ _) (ap_r (wf_len 14 _ _) (wf_at (by decide) rfl)))) rfl hl.1 rfl (Nat.le_of_ble_eq_true rfl) dX3_meets_19 ⟨Nat.le_of_ble_eq_true rfl, Nat.le_of_ble_eq_true rfl⟩ (fun H locs hP9 hk9 hS => ?_)
  have hP : va_P D vwCl (cmW y ac (an 0) (ar 0) K ++ (rvW y an V ++ rvW y ar V)) H := fr_r hP (by rw [cm_fst, rv2_fst]; exact hD) hk9 hP9
  refine lv_iconst (v := 0) hx hb dX3_meets_22 (by decide) ?_
  refine lv_istore_n (lv' := [(2, .int 0), (0, .ref (ac 0)), (1, .int x)]) hx hb dX3_meets_23 rfl hl (by decide) rfl (fun ls hl => ?_)
  have hl : lv_has ls 3 [(2, .int (nI 0)), (0, .ref (ac 0)), (1, .int x)] := hl
  have lk20 : ∀ (n i : Nat) (H : Heap) (locs : List Loc) (ls : Array Slot), n + i = 91 → fiN (mtP K V (ix x)) 0 91 = fiN (mtP K V (ix x)) i n → va_P D vwCl (cmW y ac (an 0) (ar 0) K ++ (rvW y an V ++ rvW y ar (lsV K V i))) H → va_S A s.heap H locs → lv_has ls 3 [(0, .ref (ac 0)), (1, .int x), (2, .int (nI i))] → W p l e rmX3_meets s m a below meth c H locs (0 + 1) (0 + 6) Q (F0 m 24 ls []) := by
    intro n
    induction n with
    | zero =>
      intro i H locs ls hni hF hP hS hl
      have e9 : 91 = i := by omega
      subst e9
      refine lv_iload_n hx hb dX3_meets_24 rfl (lv_at hl 2 rfl) ?_
      refine lv_bipush (v := 90) hx hb dX3_meets_25 (by decide) ?_
      refine lv_icmp_gt (tgt := 66) hx hb dX3_meets_27 (by decide) (fun _ => ?_) (fun c9 => absurd (show (90 : Int32) < nI 91 by decide) c9)
      refine lv_iconst (v := (-1)) hx hb dX3_meets_66 (by decide) ?_
      subst hQ
      refine W.widen (k := 1) (n := 6) (Nat.le_of_ble_eq_true rfl) (Nat.le_of_ble_eq_true rfl) ?_
      exact vx_ret (W.iret (v := (-1)) hx hb hr (fun t ht hW => ⟨⟨_, (lsV K V 91), rfl, ⟨(by unfold meC; rw [if_neg hc_98]), hF.symm⟩, bp_at hK hN hP t ht hW⟩, hS.F ht⟩) hS.2.2 dX3_meets_67)
    | succ n ih =>
      intro i H locs ls hni hF hP hS hl
      have hi9 : i < 91 := by omega
      refine lv_iload_n hx hb dX3_meets_24 rfl (lv_at hl 2 rfl) ?_
      refine lv_bipush (v := 90) hx hb dX3_meets_25 (by decide) ?_
      refine lv_icmp_gt (tgt := 66) hx hb dX3_meets_27 (by decide) (fun c9 => absurd c9 (nI_nlt (a := 90) (b := i) (by omega) (by decide))) (fun _ => ?_)
      refine lv_aload_n hx hb dX3_meets_30 rfl (lv_at hl 0 rfl) ?_
      refine va_get (D := D) (ci := 3) (v := .ref (ar 0)) (C := RX3) (T := TX3) (N := 4) hx hb hts hin3 hown hK hP 0 (ap_l (wf_at (by decide) rfl)) rfl 3 (by decide) hf23 (fun _ h9 => h9) rfl dX3_meets_31 ?_
      refine lv_aload_n hx hb dX3_meets_34 rfl (lv_at hl 0 rfl) ?_
      refine va_get (D := D) (ci := 3) (v := .ref (ar 0)) (C := RX3) (T := TX3) (N := 4) hx hb hts hin3 hown hK hP 0 (ap_l (wf_at (by decide) rfl)) rfl 3 (by decide) hf23 (fun _ h9 => h9) rfl dX3_meets_35 ?_
      refine lv_iload_n hx hb dX3_meets_38 rfl (lv_at hl 1 rfl) ?_
      refine cRR_V (As := [.int x]) (rest := [.ref (ar 0)]) ⟨hx, hb, hml, hown, hts⟩ (c_X2_netOf l D y ar (lsV K V i) x hx3) (cwV 1 hts gX3_meets_X2_netOf rfl rfl rfl (by decide +kernel) ⟨Nat.le_of_ble_eq_true rfl, Nat.le_of_ble_eq_true rfl⟩) hK hN (P_r (P_r hP)) (va_recv hK hP (ci := 2) (q0 := (3 + (14 + 0))) rfl (ap_r (wf_len 3 _ _) (ap_r (wf_len 14 _ _) (wf_at (by decide) rfl)))) rfl hl.1 rfl (Nat.le_of_ble_eq_true rfl) dX3_meets_39 ⟨Nat.le_of_ble_eq_true rfl, Nat.le_of_ble_eq_true rfl⟩ ?_
      refine cRI_V (As := [.ref (ar (ix x + 11))]) (rest := []) ⟨hx, hb, hml, hown, hts⟩ (c_X2_isTogether l D y ar (lsV K V i) (ix x) (in_ix hx3) (hI i hi9)) (cwV 1 hts gX3_meets_X2_isTogether rfl rfl rfl (by decide +kernel) ⟨Nat.le_of_ble_eq_true rfl, Nat.le_of_ble_eq_true rfl⟩) hK hN (P_r (P_r hP)) (va_recv hK hP (ci := 2) (q0 := (3 + (14 + 0))) rfl (ap_r (wf_len 3 _ _) (ap_r (wf_len 14 _ _) (wf_at (by decide) rfl)))) rfl hl.1 rfl (Nat.le_of_ble_eq_true rfl) dX3_meets_42 ⟨Nat.le_of_ble_eq_true rfl, Nat.le_of_ble_eq_true rfl⟩ ?_
      refine lv_if_eq (tgt := 50) hx hb dX3_meets_45 (by decide) (fun c_99 => ?_) (fun c_99 => ?_)
      · refine lv_aload_n hx hb dX3_meets_50 rfl (lv_at hl 0 rfl) ?_
        refine lv_aload_n hx hb dX3_meets_51 rfl (lv_at hl 0 rfl) ?_
        refine va_get (D := D) (ci := 3) (v := .ref (ar 0)) (C := RX3) (T := TX3) (N := 4) hx hb hts hin3 hown hK hP 0 (ap_l (wf_at (by decide) rfl)) rfl 3 (by decide) hf23 (fun _ h9 => h9) rfl dX3_meets_52 ?_
        refine lv_iconst (v := 1) hx hb dX3_meets_55 (by decide) ?_
        refine W.eq (g2 := F0 m 56 ls (.int (nI 1) :: .ref (ar 0) :: .ref (ac 0) :: [])) rfl ?_
        refine cWI_V (As := [.ref (ar 0), .int (nI 1)]) (rest := []) ⟨hx, hb, hml, hown, hts⟩ (c_X3_letHoursPass l D y _ ac ar (an 0) (ar 0) K (lsV K V i) 1 (by decide) (fun j9 h9 => by rw [show j9 = 0 by omega]; exact (hO i hi9))) (cwV 2 hts gX3_meets_X3_letHoursPass rfl rfl rfl (by decide +kernel) ⟨Nat.le_of_ble_eq_true rfl, Nat.le_of_ble_eq_true rfl⟩) hK hN (P_xz hP) (by rw [cm2_fst]; exact aD_swap hD) hS hA (va_recv hK hP (ci := 3) (q0 := 0) rfl (ap_l (wf_at (by decide) rfl))) rfl hl.1 rfl (Nat.le_of_ble_eq_true rfl) dX3_meets_56 ⟨Nat.le_of_ble_eq_true rfl, Nat.le_of_ble_eq_true rfl⟩ (fun H locs hP9 hk9 hS => ?_)
        have e1 : lsV K (lsV K V i) 1 = (lsV K V (i + 1)) := rfl
        rw [e1] at hP9
        have hP : va_P D vwCl (cmW y ac (an 0) (ar 0) K ++ (rvW y an V ++ rvW y ar (lsV K V (i + 1)))) H := fr_xz hP (by rw [cm_fst, rv_fst, rv_fst]; exact hD) (fun q h1 h2 => hk9 q h1 (by unfold aW; rw [List.map_append]; exact h2)) hP9
        refine lv_pop hx hb dX3_meets_59 rfl ?_
        refine lv_iinc (v := nI (i + 1)) (lv' := [(2, .int (nI (i + 1))), (0, .ref (ac 0)), (1, .int x)]) hx hb dX3_meets_60 hl (k := 2) rfl (by first | rfl | exact (nI_1 i)) (by decide) rfl (fun ls hl => ?_)
        refine lv_goto (tgt := 24) hx hb dX3_meets_63 (by decide) ?_
        exact ih (i + 1) _ _ _ (by omega) (hF.trans (fiN_n (p := mtP K V (ix x)) c_99)) hP hS (lv_sub hl [1, 2, 0] rfl)
      · refine lv_iload_n hx hb dX3_meets_48 rfl (lv_at hl 2 rfl) ?_
        subst hQ
        refine W.widen (k := 1) (n := 6) (Nat.le_of_ble_eq_true rfl) (Nat.le_of_ble_eq_true rfl) ?_
        exact vx_ret (W.iret (v := nI i) hx hb hr (fun t ht hW => ⟨⟨_, (lsV K V i), rfl, ⟨(by unfold meC; rw [if_neg hc_98]), (hF.trans (fiN_y (p := mtP K V (ix x)) c_99)).symm⟩, bp_at hK hN hP t ht hW⟩, hS.F ht⟩) hS.2.2 dX3_meets_49)
  exact lk20 91 0 _ _ ls rfl rfl hP hS (lv_sub hl [1, 2, 0] rfl)
abbrev rmX3_sinks : Room := { frames := 7, cells := 1, slots := 6, locals := 144 }
set_option maxHeartbeats 4000000 in
set_option maxRecDepth 100000 in
/-- sinks(x) -/
theorem c_X3_sinks (l : Launch) (D : va_G) (y : Nat → ClassId) (sz : Nat) (hst : l.stackTraces = false) (ac an ar : Nat → Nat) (K V U : Nat → Nat → Int32) (x : Int32) (hM : vp_in (V 0 2) 7) (hO : ∀ i, i < 91 → okH K (lsV K V i)) (hI : ∀ i, i < 91 → rvI (lsV K V i)) : XI (S := Nat → Nat → Int32) l D y yX3_sinks wsX3_sinks rmX3_sinks 1 6 [.ref (ac 0), .int x] (cmA y ac an ar K V U) sz (siC V x) (fiN (siP K V (ix x)) 0 91) (fun u => cmA y ac an ar K V u) := by
  refine mX (fun A => va_Qi (fun r9 (_ : Nat → Nat → Int32) => (siC V x) = 0 ∧ r9 = (fiN (siP K V (ix x)) 0 91)) (fun u t9 => Bp D y (cmA y ac an ar K V u) t9) A) (fun A => vx_X (fun (_ : Unit) => ¬ (siC V x) = 0) (fun E _ t9 => E = xnm (siC V x) ∧ va_P D vwCl (cmA y ac an ar K V U) t9.heap) A) (C := RX3) (cc := cX3_sinks) (maxL := 3) (ret := (some .int)) (by decide) rfl rfl (Nat.le_of_ble_eq_true rfl) ?_
  intro p e s m a below meth c ls A Q hQ hsz hx hb hr hts hown hlocks htab hml hP hK hN hE hX hD hA hS hl
  rw [cmA_fst] at hD
  have hl : lv_has ls 3 [(0, .ref (ac 0)), (1, .int x)] := hl
  refine lv_iload_n hx hb dX3_sinks_0 rfl (lv_at hl 1 rfl) ?_
  refine lv_aload_n hx hb dX3_sinks_1 rfl (lv_at hl 0 rfl) ?_
  have hin3 : ∀ w ∈ u_ws RX3 TX3 4, w ∈ wsX3_sinks := by decide +kernel
  have hf19 := hts (.fieldLink RX3 19 "CoracleMakers" "now" "LCoracleMakers$River;") (by decide +kernel)
  refine va_get (D := D) (ci := 3) (v := .ref (an 0)) (C := RX3) (T := TX3) (N := 4) hx hb hts hin3 hown hK hP 0 (ap_l (wf_at (by decide) rfl)) rfl 2 (by decide) hf19 (fun _ h9 => h9) rfl dX3_sinks_2 ?_
  have hin2 : ∀ w ∈ u_ws RX2 TX2 10, w ∈ wsX3_sinks := by decide +kernel
  have hf48 := hts (.fieldLink RX3 48 "CoracleMakers$River" "made" "I") (by decide +kernel)
  refine va_get (D := D) (ci := 2) (v := .int (V 0 2)) (C := RX2) (T := TX2) (N := 10) hx hb hts hin2 hown hK hP (3 + 0) (ap_r (wf_len 3 _ _) (ap_l (wf_at (by decide) rfl))) rfl 6 (by decide) hf48 (fun _ h9 => h9) rfl dX3_sinks_5 ?_
  refine cX_S (W0 := (cmW y ac (an 0) (ar 0) K ++ (rvW y an V ++ rvW y ar U))) (As := [.int x, .int (V 0 2)]) (rest := []) ⟨hx, hb, hml, hown, hts⟩ (c_X3_checkIndex l D y _ hst x (V 0 2)) (va_cwS 2 hts gX3_sinks_X3_checkIndex rfl rfl rfl (by decide +kernel) ⟨Nat.le_of_ble_eq_true rfl, Nat.le_of_ble_eq_true rfl⟩) hK hN hE hX hP hS hA rfl hl.1 rfl (Nat.le_of_ble_eq_true rfl) dX3_sinks_8 ⟨Nat.le_of_ble_eq_true rfl, Nat.le_of_ble_eq_true rfl⟩ (fun hc_100 ce q9 H locs hP hS h91 h92 h93 => ?_) (fun hc_100 H locs hP hS => ?_)
  · subst hQ
    exact vx_out (fun x hx9 => (htab x hx9).elim) hlocks h91 h92 h93 (fun t ht hv9 => ⟨(), (by unfold siC; rw [if_pos hc_100]; decide), ⟨(by unfold siC; rw [if_pos hc_100]), by rw [ht]; exact hP⟩, hS.F ht⟩) hS.2.2 (Nat.le_of_ble_eq_true rfl) (Nat.le_of_ble_eq_true rfl)
  have hx6 : vp_in x 6 := nci hc_100 hM
  refine lv_aload_n hx hb dX3_sinks_11 rfl (lv_at hl 0 rfl) ?_
  have hf23 := hts (.fieldLink RX3 23 "CoracleMakers" "trial" "LCoracleMakers$River;") (by decide +kernel)
  refine va_get (D := D) (ci := 3) (v := .ref (ar 0)) (C := RX3) (T := TX3) (N := 4) hx hb hts hin3 hown hK hP 0 (ap_l (wf_at (by decide) rfl)) rfl 3 (by decide) hf23 (fun _ h9 => h9) rfl dX3_sinks_12 ?_
  refine lv_aload_n hx hb dX3_sinks_15 rfl (lv_at hl 0 rfl) ?_
  refine va_get (D := D) (ci := 3) (v := .ref (an 0)) (C := RX3) (T := TX3) (N := 4) hx hb hts hin3 hown hK hP 0 (ap_l (wf_at (by decide) rfl)) rfl 2 (by decide) hf19 (fun _ h9 => h9) rfl dX3_sinks_16 ?_
  have hI0 : rvI V := hI 0 (by decide)
  refine cWV_V (As := [.ref (an 0)]) (rest := []) ⟨hx, hb, hml, hown, hts⟩ (c_X2_becomeLike l D y _ an ar V U hI0) (cwV 1 hts gX3_sinks_X2_becomeLike rfl rfl rfl (by decide +kernel) ⟨Nat.le_of_ble_eq_true rfl, Nat.le_of_ble_eq_true rfl⟩) hK hN (P_r hP) (by rw [rv2_fst]; exact aD_r hD) hS hA (va_recv hK hP (ci := 2) (q0 := (3 + (14 + 0))) rfl (ap_r (wf_len 3 _ _) (ap_r (wf_len 14 _ _) (wf_at (by decide) rfl)))) rfl hl.1 rfl (Nat.le_of_ble_eq_true rfl) dX3_sinks_19 ⟨Nat.le_of_ble_eq_true rfl, Nat.le_of_ble_eq_true rfl⟩ (fun H locs hP9 hk9 hS => ?_)
  have hP : va_P D vwCl (cmW y ac (an 0) (ar 0) K ++ (rvW y an V ++ rvW y ar V)) H := fr_r hP (by rw [cm_fst, rv2_fst]; exact hD) hk9 hP9
  refine lv_iconst (v := 0) hx hb dX3_sinks_22 (by decide) ?_
  refine lv_istore_n (lv' := [(2, .int 0), (0, .ref (ac 0)), (1, .int x)]) hx hb dX3_sinks_23 rfl hl (by decide) rfl (fun ls hl => ?_)
  have hl : lv_has ls 3 [(2, .int (nI 0)), (0, .ref (ac 0)), (1, .int x)] := hl
  have lk21 : ∀ (n i : Nat) (H : Heap) (locs : List Loc) (ls : Array Slot), n + i = 91 → fiN (siP K V (ix x)) 0 91 = fiN (siP K V (ix x)) i n → va_P D vwCl (cmW y ac (an 0) (ar 0) K ++ (rvW y an V ++ rvW y ar (lsV K V i))) H → va_S A s.heap H locs → lv_has ls 3 [(0, .ref (ac 0)), (1, .int x), (2, .int (nI i))] → W p l e rmX3_sinks s m a below meth c H locs (0 + 1) (0 + 6) Q (F0 m 24 ls []) := by
    intro n
    induction n with
    | zero =>
      intro i H locs ls hni hF hP hS hl
      have e9 : 91 = i := by omega
      subst e9
      refine lv_iload_n hx hb dX3_sinks_24 rfl (lv_at hl 2 rfl) ?_
      refine lv_bipush (v := 90) hx hb dX3_sinks_25 (by decide) ?_
      refine lv_icmp_gt (tgt := 62) hx hb dX3_sinks_27 (by decide) (fun _ => ?_) (fun c9 => absurd (show (90 : Int32) < nI 91 by decide) c9)
      refine lv_iconst (v := (-1)) hx hb dX3_sinks_62 (by decide) ?_
      subst hQ
      refine W.widen (k := 1) (n := 6) (Nat.le_of_ble_eq_true rfl) (Nat.le_of_ble_eq_true rfl) ?_
      exact vx_ret (W.iret (v := (-1)) hx hb hr (fun t ht hW => ⟨⟨_, (lsV K V 91), rfl, ⟨(by unfold siC; rw [if_neg hc_100]), hF.symm⟩, bp_at hK hN hP t ht hW⟩, hS.F ht⟩) hS.2.2 dX3_sinks_63)
    | succ n ih =>
      intro i H locs ls hni hF hP hS hl
      have hi9 : i < 91 := by omega
      refine lv_iload_n hx hb dX3_sinks_24 rfl (lv_at hl 2 rfl) ?_
      refine lv_bipush (v := 90) hx hb dX3_sinks_25 (by decide) ?_
      refine lv_icmp_gt (tgt := 62) hx hb dX3_sinks_27 (by decide) (fun c9 => absurd c9 (nI_nlt (a := 90) (b := i) (by omega) (by decide))) (fun _ => ?_)
      refine lv_aload_n hx hb dX3_sinks_30 rfl (lv_at hl 0 rfl) ?_
      refine va_get (D := D) (ci := 3) (v := .ref (ar 0)) (C := RX3) (T := TX3) (N := 4) hx hb hts hin3 hown hK hP 0 (ap_l (wf_at (by decide) rfl)) rfl 3 (by decide) hf23 (fun _ h9 => h9) rfl dX3_sinks_31 ?_
      refine lv_iload_n hx hb dX3_sinks_34 rfl (lv_at hl 1 rfl) ?_
      refine cRR_V (As := [.int x]) (rest := []) ⟨hx, hb, hml, hown, hts⟩ (c_X2_coracleOf l D y ar (lsV K V i) x hx6) (cwV 1 hts gX3_sinks_X2_coracleOf rfl rfl rfl (by decide +kernel) ⟨Nat.le_of_ble_eq_true rfl, Nat.le_of_ble_eq_true rfl⟩) hK hN (P_r (P_r hP)) (va_recv hK hP (ci := 2) (q0 := (3 + (14 + 0))) rfl (ap_r (wf_len 3 _ _) (ap_r (wf_len 14 _ _) (wf_at (by decide) rfl)))) rfl hl.1 rfl (Nat.le_of_ble_eq_true rfl) dX3_sinks_35 ⟨Nat.le_of_ble_eq_true rfl, Nat.le_of_ble_eq_true rfl⟩ ?_
      have hin0 : ∀ w ∈ u_ws RX0 TX0 10, w ∈ wsX3_sinks := by decide +kernel
      have hf122 := hts (.fieldLink RX3 122 "CoracleMakers$Coracle" "afloat" "Z") (by decide +kernel)
      refine va_get (D := D) (ci := 0) (v := .int ((lsV K V i) (ix x + 5) 8)) (C := RX0) (T := TX0) (N := 10) hx hb hts hin0 hown hK hP (3 + (14 + (ix x + 5))) (ap_r (wf_len 3 _ _) (ap_r (wf_len 14 _ _) (rv_co y ar (lsV K V i) (in_ix hx6)))) rfl 8 (by decide) hf122 (fun _ h9 => h9) rfl dX3_sinks_38 ?_
      refine lv_if_ne (tgt := 46) hx hb dX3_sinks_41 (by decide) (fun c_101 => ?_) (fun c_101 => ?_)
      · refine lv_aload_n hx hb dX3_sinks_46 rfl (lv_at hl 0 rfl) ?_
        refine lv_aload_n hx hb dX3_sinks_47 rfl (lv_at hl 0 rfl) ?_
        refine va_get (D := D) (ci := 3) (v := .ref (ar 0)) (C := RX3) (T := TX3) (N := 4) hx hb hts hin3 hown hK hP 0 (ap_l (wf_at (by decide) rfl)) rfl 3 (by decide) hf23 (fun _ h9 => h9) rfl dX3_sinks_48 ?_
        refine lv_iconst (v := 1) hx hb dX3_sinks_51 (by decide) ?_
        refine W.eq (g2 := F0 m 52 ls (.int (nI 1) :: .ref (ar 0) :: .ref (ac 0) :: [])) rfl ?_
        refine cWI_V (As := [.ref (ar 0), .int (nI 1)]) (rest := []) ⟨hx, hb, hml, hown, hts⟩ (c_X3_letHoursPass l D y _ ac ar (an 0) (ar 0) K (lsV K V i) 1 (by decide) (fun j9 h9 => by rw [show j9 = 0 by omega]; exact (hO i hi9))) (cwV 2 hts gX3_sinks_X3_letHoursPass rfl rfl rfl (by decide +kernel) ⟨Nat.le_of_ble_eq_true rfl, Nat.le_of_ble_eq_true rfl⟩) hK hN (P_xz hP) (by rw [cm2_fst]; exact aD_swap hD) hS hA (va_recv hK hP (ci := 3) (q0 := 0) rfl (ap_l (wf_at (by decide) rfl))) rfl hl.1 rfl (Nat.le_of_ble_eq_true rfl) dX3_sinks_52 ⟨Nat.le_of_ble_eq_true rfl, Nat.le_of_ble_eq_true rfl⟩ (fun H locs hP9 hk9 hS => ?_)
        have e1 : lsV K (lsV K V i) 1 = (lsV K V (i + 1)) := rfl
        rw [e1] at hP9
        have hP : va_P D vwCl (cmW y ac (an 0) (ar 0) K ++ (rvW y an V ++ rvW y ar (lsV K V (i + 1)))) H := fr_xz hP (by rw [cm_fst, rv_fst, rv_fst]; exact hD) (fun q h1 h2 => hk9 q h1 (by unfold aW; rw [List.map_append]; exact h2)) hP9
        refine lv_pop hx hb dX3_sinks_55 rfl ?_
        refine lv_iinc (v := nI (i + 1)) (lv' := [(2, .int (nI (i + 1))), (0, .ref (ac 0)), (1, .int x)]) hx hb dX3_sinks_56 hl (k := 2) rfl (by first | rfl | exact (nI_1 i)) (by decide) rfl (fun ls hl => ?_)
        refine lv_goto (tgt := 24) hx hb dX3_sinks_59 (by decide) ?_
        exact ih (i + 1) _ _ _ (by omega) (hF.trans (fiN_n (p := siP K V (ix x)) (if_pos c_101))) hP hS (lv_sub hl [1, 2, 0] rfl)
      · refine lv_iload_n hx hb dX3_sinks_44 rfl (lv_at hl 2 rfl) ?_
        subst hQ
        refine W.widen (k := 1) (n := 6) (Nat.le_of_ble_eq_true rfl) (Nat.le_of_ble_eq_true rfl) ?_
        exact vx_ret (W.iret (v := nI i) hx hb hr (fun t ht hW => ⟨⟨_, (lsV K V i), rfl, ⟨(by unfold siC; rw [if_neg hc_100]), (hF.trans (fiN_y (p := siP K V (ix x)) (show ¬ siP K V (ix x) i = 0 by unfold siP; rw [if_neg (not_not_intro c_101)]; decide))).symm⟩, bp_at hK hN hP t ht hW⟩, hS.F ht⟩) hS.2.2 dX3_sinks_45)
  exact lk21 91 0 _ _ ls rfl rfl hP hS (lv_sub hl [1, 2, 0] rfl)
abbrev rmX3_foresee : Room := { frames := 7, cells := 2, slots := 12, locals := 144 }
set_option maxHeartbeats 4000000 in
set_option maxRecDepth 100000 in
/-- foresee(h, x) -/
theorem c_X3_foresee (l : Launch) (D : va_G) (y : Nat → ClassId) (sz : Nat) (hst : l.stackTraces = false) (ac an ar : Nat → Nat) (K V U : Nat → Nat → Int32) (h x : Int32) (hI0 : rvI V) (hO : foC h x = 0 → ∀ i, i < ix h → okH K (lsV K V i)) : XI (S := Nat → Nat → Int32) l D y yX3_foresee wsX3_foresee rmX3_foresee 2 12 [.ref (ac 0), .int h, .int x] (cmA y ac an ar K V U) sz (foC h x) (tcF (lsV K V (ix h)) x) (fun u => cmA y ac an ar K V u) := by
  refine mX (fun A => va_Qi (fun r9 (_ : Nat → Nat → Int32) => (foC h x) = 0 ∧ r9 = (tcF (lsV K V (ix h)) x)) (fun u t9 => Bp D y (cmA y ac an ar K V u) t9) A) (fun A => vx_X (fun (_ : Unit) => ¬ (foC h x) = 0) (fun E _ t9 => E = xnm (foC h x) ∧ va_P D vwCl (cmA y ac an ar K V U) t9.heap) A) (C := RX3) (cc := cX3_foresee) (maxL := 3) (ret := (some .int)) (by decide) rfl rfl (Nat.le_of_ble_eq_true rfl) ?_
  intro p e s m a below meth c ls A Q hQ hsz hx hb hr hts hown hlocks htab hml hP hK hN hE hX hD hA hS hl
  rw [cmA_fst] at hD
  have hl : lv_has ls 3 [(0, .ref (ac 0)), (1, .int h), (2, .int x)] := hl
  refine lv_iload_n hx hb dX3_foresee_0 rfl (lv_at hl 1 rfl) ?_
  refine lv_iconst (v := 1) hx hb dX3_foresee_1 (by decide) ?_
  refine lv_bipush (v := 40) hx hb dX3_foresee_2 (by decide) ?_
  refine cX_S (W0 := (cmW y ac (an 0) (ar 0) K ++ (rvW y an V ++ rvW y ar U))) (As := [.int h, .int 1, .int 40]) (rest := []) ⟨hx, hb, hml, hown, hts⟩ (c_X3_checkArgument l D y _ hst h 1 40) (va_cwS 3 hts gX3_foresee_X3_checkArgument rfl rfl rfl (by decide +kernel) ⟨Nat.le_of_ble_eq_true rfl, Nat.le_of_ble_eq_true rfl⟩) hK hN hE hX hP hS hA rfl hl.1 rfl (Nat.le_of_ble_eq_true rfl) dX3_foresee_4 ⟨Nat.le_of_ble_eq_true rfl, Nat.le_of_ble_eq_true rfl⟩ (fun hc_102 ce q9 H locs hP hS h91 h92 h93 => ?_) (fun hc_102 H locs hP hS => ?_)
  · subst hQ
    exact vx_out (fun x hx9 => (htab x hx9).elim) hlocks h91 h92 h93 (fun t ht hv9 => ⟨(), (by unfold foC; rw [if_pos hc_102]; decide), ⟨(by unfold foC; rw [if_pos hc_102]), by rw [ht]; exact hP⟩, hS.F ht⟩) hS.2.2 (Nat.le_of_ble_eq_true rfl) (Nat.le_of_ble_eq_true rfl)
  refine lv_iload_n hx hb dX3_foresee_7 rfl (lv_at hl 2 rfl) ?_
  refine lv_bipush (v := 13) hx hb dX3_foresee_8 (by decide) ?_
  refine cX_S (W0 := (cmW y ac (an 0) (ar 0) K ++ (rvW y an V ++ rvW y ar U))) (As := [.int x, .int 13]) (rest := []) ⟨hx, hb, hml, hown, hts⟩ (c_X3_checkIndex l D y _ hst x 13) (va_cwS 2 hts gX3_foresee_X3_checkIndex rfl rfl rfl (by decide +kernel) ⟨Nat.le_of_ble_eq_true rfl, Nat.le_of_ble_eq_true rfl⟩) hK hN hE hX hP hS hA rfl hl.1 rfl (Nat.le_of_ble_eq_true rfl) dX3_foresee_10 ⟨Nat.le_of_ble_eq_true rfl, Nat.le_of_ble_eq_true rfl⟩ (fun hc_103 ce q9 H locs hP hS h91 h92 h93 => ?_) (fun hc_103 H locs hP hS => ?_)
  · subst hQ
    exact vx_out (fun x hx9 => (htab x hx9).elim) hlocks h91 h92 h93 (fun t ht hv9 => ⟨(), (by unfold foC; rw [if_neg hc_102, if_pos hc_103]; decide), ⟨(by unfold foC; rw [if_neg hc_102, if_pos hc_103]), by rw [ht]; exact hP⟩, hS.F ht⟩) hS.2.2 (Nat.le_of_ble_eq_true rfl) (Nat.le_of_ble_eq_true rfl)
  have hh : vp_in h 41 := nca (a := 1) (b := 40) (n := 41) hc_102 (by decide) (by decide)
  have eh : h = nI (ix h) := in_nI hh (by decide)
  have hO2 := hO (by unfold foC; rw [if_neg hc_102, if_neg hc_103])
  refine lv_aload_n hx hb dX3_foresee_13 rfl (lv_at hl 0 rfl) ?_
  have hin3 : ∀ w ∈ u_ws RX3 TX3 4, w ∈ wsX3_foresee := by decide +kernel
  have hf23 := hts (.fieldLink RX3 23 "CoracleMakers" "trial" "LCoracleMakers$River;") (by decide +kernel)
  refine va_get (D := D) (ci := 3) (v := .ref (ar 0)) (C := RX3) (T := TX3) (N := 4) hx hb hts hin3 hown hK hP 0 (ap_l (wf_at (by decide) rfl)) rfl 3 (by decide) hf23 (fun _ h9 => h9) rfl dX3_foresee_14 ?_
  refine lv_aload_n hx hb dX3_foresee_17 rfl (lv_at hl 0 rfl) ?_
  have hf19 := hts (.fieldLink RX3 19 "CoracleMakers" "now" "LCoracleMakers$River;") (by decide +kernel)
  refine va_get (D := D) (ci := 3) (v := .ref (an 0)) (C := RX3) (T := TX3) (N := 4) hx hb hts hin3 hown hK hP 0 (ap_l (wf_at (by decide) rfl)) rfl 2 (by decide) hf19 (fun _ h9 => h9) rfl dX3_foresee_18 ?_
  refine cWV_V (As := [.ref (an 0)]) (rest := []) ⟨hx, hb, hml, hown, hts⟩ (c_X2_becomeLike l D y _ an ar V U hI0) (cwV 1 hts gX3_foresee_X2_becomeLike rfl rfl rfl (by decide +kernel) ⟨Nat.le_of_ble_eq_true rfl, Nat.le_of_ble_eq_true rfl⟩) hK hN (P_r hP) (by rw [rv2_fst]; exact aD_r hD) hS hA (va_recv hK hP (ci := 2) (q0 := (3 + (14 + 0))) rfl (ap_r (wf_len 3 _ _) (ap_r (wf_len 14 _ _) (wf_at (by decide) rfl)))) rfl hl.1 rfl (Nat.le_of_ble_eq_true rfl) dX3_foresee_21 ⟨Nat.le_of_ble_eq_true rfl, Nat.le_of_ble_eq_true rfl⟩ (fun H locs hP9 hk9 hS => ?_)
  have hP : va_P D vwCl (cmW y ac (an 0) (ar 0) K ++ (rvW y an V ++ rvW y ar V)) H := fr_r hP (by rw [cm_fst, rv2_fst]; exact hD) hk9 hP9
  refine lv_aload_n hx hb dX3_foresee_24 rfl (lv_at hl 0 rfl) ?_
  refine lv_aload_n hx hb dX3_foresee_25 rfl (lv_at hl 0 rfl) ?_
  refine va_get (D := D) (ci := 3) (v := .ref (ar 0)) (C := RX3) (T := TX3) (N := 4) hx hb hts hin3 hown hK hP 0 (ap_l (wf_at (by decide) rfl)) rfl 3 (by decide) hf23 (fun _ h9 => h9) rfl dX3_foresee_26 ?_
  refine lv_iload_n hx hb dX3_foresee_29 rfl (lv_at hl 1 rfl) ?_
  refine W.eq (g2 := F0 m 30 ls (.int (nI (ix h)) :: .ref (ar 0) :: .ref (ac 0) :: [])) (by rw [← eh]) ?_
  refine cWI_V (As := [.ref (ar 0), .int (nI (ix h))]) (rest := []) ⟨hx, hb, hml, hown, hts⟩ (c_X3_letHoursPass l D y _ ac ar (an 0) (ar 0) K V (ix h) (by have := in_ix hh; omega) hO2) (cwV 2 hts gX3_foresee_X3_letHoursPass rfl rfl rfl (by decide +kernel) ⟨Nat.le_of_ble_eq_true rfl, Nat.le_of_ble_eq_true rfl⟩) hK hN (P_xz hP) (by rw [cm2_fst]; exact aD_swap hD) hS hA (va_recv hK hP (ci := 3) (q0 := 0) rfl (ap_l (wf_at (by decide) rfl))) rfl hl.1 rfl (Nat.le_of_ble_eq_true rfl) dX3_foresee_30 ⟨Nat.le_of_ble_eq_true rfl, Nat.le_of_ble_eq_true rfl⟩ (fun H locs hP9 hk9 hS => ?_)
  have hP : va_P D vwCl (cmW y ac (an 0) (ar 0) K ++ (rvW y an V ++ rvW y ar (lsV K V (ix h)))) H := fr_xz hP (by rw [cm_fst, rv_fst, rv_fst]; exact hD) (fun q h1 h2 => hk9 q h1 (by unfold aW; rw [List.map_append]; exact h2)) hP9
  refine lv_pop hx hb dX3_foresee_33 rfl ?_
  refine lv_aload_n hx hb dX3_foresee_34 rfl (lv_at hl 0 rfl) ?_
  refine va_get (D := D) (ci := 3) (v := .ref (ar 0)) (C := RX3) (T := TX3) (N := 4) hx hb hts hin3 hown hK hP 0 (ap_l (wf_at (by decide) rfl)) rfl 3 (by decide) hf23 (fun _ h9 => h9) rfl dX3_foresee_35 ?_
  refine lv_iload_n hx hb dX3_foresee_38 rfl (lv_at hl 2 rfl) ?_
  refine cRI_V (As := [.int x]) (rest := []) ⟨hx, hb, hml, hown, hts⟩ (c_X2_tellCount l D y ar (lsV K V (ix h)) x) (cwV 1 hts gX3_foresee_X2_tellCount rfl rfl rfl (by decide +kernel) ⟨Nat.le_of_ble_eq_true rfl, Nat.le_of_ble_eq_true rfl⟩) hK hN (P_r (P_r hP)) (va_recv hK hP (ci := 2) (q0 := (3 + (14 + 0))) rfl (ap_r (wf_len 3 _ _) (ap_r (wf_len 14 _ _) (wf_at (by decide) rfl)))) rfl hl.1 rfl (Nat.le_of_ble_eq_true rfl) dX3_foresee_39 ⟨Nat.le_of_ble_eq_true rfl, Nat.le_of_ble_eq_true rfl⟩ ?_
  subst hQ
  refine W.widen (k := 2) (n := 12) (Nat.le_of_ble_eq_true rfl) (Nat.le_of_ble_eq_true rfl) ?_
  exact vx_ret (W.iret (v := tcF (lsV K V (ix h)) x) hx hb hr (fun t ht hW => ⟨⟨_, (lsV K V (ix h)), rfl, ⟨(by unfold foC; rw [if_neg hc_102, if_neg hc_103]), rfl⟩, bp_at hK hN hP t ht hW⟩, hS.F ht⟩) hS.2.2 dX3_foresee_42)
abbrev rmX3_advise : Room := { frames := 7, cells := 2, slots := 12, locals := 168 }
set_option maxHeartbeats 4000000 in
set_option maxRecDepth 100000 in
/-- advise(x, h) -/
theorem c_X3_advise (l : Launch) (D : va_G) (y : Nat → ClassId) (sz : Nat) (hst : l.stackTraces = false) (ac an ar : Nat → Nat) (K V U : Nat → Nat → Int32) (x h : Int32) (hT : vp_in (V 0 3) 4) (hI0 : rvI V) (hO : adC V x h = 0 → ∀ g, g < 16 → ∀ i, i < ix h → okH K (lsV K (glV V (ix x) (nI g)) i)) : XI (S := Nat → Nat → Int32) l D y yX3_advise wsX3_advise rmX3_advise 2 12 [.ref (ac 0), .int x, .int h] (cmA y ac an ar K V U) sz (adC V x h) (adB (cwF K V (ix x) (ix h)) 16) (fun u => cmA y ac an ar K V u) := by
  refine mX (fun A => va_Qi (fun r9 (_ : Nat → Nat → Int32) => (adC V x h) = 0 ∧ r9 = (adB (cwF K V (ix x) (ix h)) 16)) (fun u t9 => Bp D y (cmA y ac an ar K V u) t9) A) (fun A => vx_X (fun (_ : Unit) => ¬ (adC V x h) = 0) (fun E _ t9 => E = xnm (adC V x h) ∧ va_P D vwCl (cmA y ac an ar K V U) t9.heap) A) (C := RX3) (cc := cX3_advise) (maxL := 7) (ret := (some .int)) (by decide) rfl rfl (Nat.le_of_ble_eq_true rfl) ?_
  intro p e s m a below meth c ls A Q hQ hsz hx hb hr hts hown hlocks htab hml hP hK hN hE hX hD hA hS hl
  rw [cmA_fst] at hD
  have hl : lv_has ls 7 [(0, .ref (ac 0)), (1, .int x), (2, .int h)] := hl
  refine lv_iload_n hx hb dX3_advise_0 rfl (lv_at hl 1 rfl) ?_
  refine lv_aload_n hx hb dX3_advise_1 rfl (lv_at hl 0 rfl) ?_
  have hin3 : ∀ w ∈ u_ws RX3 TX3 4, w ∈ wsX3_advise := by decide +kernel
  have hf19 := hts (.fieldLink RX3 19 "CoracleMakers" "now" "LCoracleMakers$River;") (by decide +kernel)
  refine va_get (D := D) (ci := 3) (v := .ref (an 0)) (C := RX3) (T := TX3) (N := 4) hx hb hts hin3 hown hK hP 0 (ap_l (wf_at (by decide) rfl)) rfl 2 (by decide) hf19 (fun _ h9 => h9) rfl dX3_advise_2 ?_
  have hin2 : ∀ w ∈ u_ws RX2 TX2 10, w ∈ wsX3_advise := by decide +kernel
  have hf94 := hts (.fieldLink RX3 94 "CoracleMakers$River" "tied" "I") (by decide +kernel)
  refine va_get (D := D) (ci := 2) (v := .int (V 0 3)) (C := RX2) (T := TX2) (N := 10) hx hb hts hin2 hown hK hP (3 + 0) (ap_r (wf_len 3 _ _) (ap_l (wf_at (by decide) rfl))) rfl 7 (by decide) hf94 (fun _ h9 => h9) rfl dX3_advise_5 ?_
  refine cX_S (W0 := (cmW y ac (an 0) (ar 0) K ++ (rvW y an V ++ rvW y ar U))) (As := [.int x, .int (V 0 3)]) (rest := []) ⟨hx, hb, hml, hown, hts⟩ (c_X3_checkIndex l D y _ hst x (V 0 3)) (va_cwS 2 hts gX3_advise_X3_checkIndex rfl rfl rfl (by decide +kernel) ⟨Nat.le_of_ble_eq_true rfl, Nat.le_of_ble_eq_true rfl⟩) hK hN hE hX hP hS hA rfl hl.1 rfl (Nat.le_of_ble_eq_true rfl) dX3_advise_8 ⟨Nat.le_of_ble_eq_true rfl, Nat.le_of_ble_eq_true rfl⟩ (fun hc_104 ce q9 H locs hP hS h91 h92 h93 => ?_) (fun hc_104 H locs hP hS => ?_)
  · subst hQ
    exact vx_out (fun x hx9 => (htab x hx9).elim) hlocks h91 h92 h93 (fun t ht hv9 => ⟨(), (by unfold adC; rw [if_pos hc_104]; decide), ⟨(by unfold adC; rw [if_pos hc_104]), by rw [ht]; exact hP⟩, hS.F ht⟩) hS.2.2 (Nat.le_of_ble_eq_true rfl) (Nat.le_of_ble_eq_true rfl)
  refine lv_iload_n hx hb dX3_advise_11 rfl (lv_at hl 2 rfl) ?_
  refine lv_iconst (v := 1) hx hb dX3_advise_12 (by decide) ?_
  refine lv_bipush (v := 10) hx hb dX3_advise_13 (by decide) ?_
  refine cX_S (W0 := (cmW y ac (an 0) (ar 0) K ++ (rvW y an V ++ rvW y ar U))) (As := [.int h, .int 1, .int 10]) (rest := []) ⟨hx, hb, hml, hown, hts⟩ (c_X3_checkArgument l D y _ hst h 1 10) (va_cwS 3 hts gX3_advise_X3_checkArgument rfl rfl rfl (by decide +kernel) ⟨Nat.le_of_ble_eq_true rfl, Nat.le_of_ble_eq_true rfl⟩) hK hN hE hX hP hS hA rfl hl.1 rfl (Nat.le_of_ble_eq_true rfl) dX3_advise_15 ⟨Nat.le_of_ble_eq_true rfl, Nat.le_of_ble_eq_true rfl⟩ (fun hc_105 ce q9 H locs hP hS h91 h92 h93 => ?_) (fun hc_105 H locs hP hS => ?_)
  · subst hQ
    exact vx_out (fun x hx9 => (htab x hx9).elim) hlocks h91 h92 h93 (fun t ht hv9 => ⟨(), (by unfold adC; rw [if_neg hc_104, if_pos hc_105]; decide), ⟨(by unfold adC; rw [if_neg hc_104, if_pos hc_105]), by rw [ht]; exact hP⟩, hS.F ht⟩) hS.2.2 (Nat.le_of_ble_eq_true rfl) (Nat.le_of_ble_eq_true rfl)
  have hx3 : vp_in x 3 := nci hc_104 hT
  have hh : vp_in h 11 := nca (a := 1) (b := 10) (n := 11) hc_105 (by decide) (by decide)
  have eh : h = nI (ix h) := in_nI hh (by decide)
  have hO2 := hO (by unfold adC; rw [if_neg hc_104, if_neg hc_105])
  refine lv_iconst (v := 0) hx hb dX3_advise_18 (by decide) ?_
  refine lv_istore_n (lv' := [(3, .int 0), (0, .ref (ac 0)), (1, .int x), (2, .int h)]) hx hb dX3_advise_19 rfl hl (by decide) rfl (fun ls hl => ?_)
  refine lv_iconst (v := (-1)) hx hb dX3_advise_20 (by decide) ?_
  refine lv_istore (lv' := [(4, .int (-1)), (3, .int 0), (0, .ref (ac 0)), (1, .int x), (2, .int h)]) hx hb dX3_advise_21 hl (by decide) rfl (fun ls hl => ?_)
  refine lv_iconst (v := 0) hx hb dX3_advise_23 (by decide) ?_
  refine lv_istore (lv' := [(5, .int 0), (4, .int (-1)), (3, .int 0), (0, .ref (ac 0)), (1, .int x), (2, .int h)]) hx hb dX3_advise_24 hl (by decide) rfl (fun ls hl => ?_)
  have hl : lv_has ls 7 [(5, .int 0), (4, .int (-1)), (3, .int (adB (cwF K V (ix x) (ix h)) 0)), (0, .ref (ac 0)), (1, .int x), (2, .int h)] := hl
  have hl : lv_has ls 7 [(5, .int 0), (4, .int (adM (cwF K V (ix x) (ix h)) 0)), (3, .int (adB (cwF K V (ix x) (ix h)) 0)), (0, .ref (ac 0)), (1, .int x), (2, .int h)] := hl
  have hl : lv_has ls 7 [(5, .int (nI 0)), (4, .int (adM (cwF K V (ix x) (ix h)) 0)), (3, .int (adB (cwF K V (ix x) (ix h)) 0)), (0, .ref (ac 0)), (1, .int x), (2, .int h)] := hl
  have la9 : ∀ (n i : Nat) (X : Nat → Nat → Int32) (H : Heap) (locs : List Loc) (ls : Array Slot), n + i = 16 → va_P D vwCl (cmW y ac (an 0) (ar 0) K ++ (rvW y an V ++ rvW y ar X)) H → va_S A s.heap H locs → lv_has ls 7 [(0, .ref (ac 0)), (1, .int x), (2, .int h), (3, .int (adB (cwF K V (ix x) (ix h)) i)), (4, .int (adM (cwF K V (ix x) (ix h)) i)), (5, .int (nI i))] → W p l e rmX3_advise s m a below meth c H locs (0 + 1 + 1) (0 + 6 + 6) Q (F0 m 26 ls []) := by
    intro n
    induction n with
    | zero =>
      intro i X H locs ls hni hP hS hl
      have e9 : 16 = i := by omega
      subst e9
      refine lv_iload hx hb dX3_advise_26 (lv_at hl 5 rfl) ?_
      refine lv_bipush (v := 16) hx hb dX3_advise_28 (by decide) ?_
      refine lv_icmp_ge (tgt := 63) hx hb dX3_advise_30 (by decide) (fun _ => ?_) (fun c9 => absurd (show (16 : Int32) ≤ nI 16 by decide) c9)
      refine lv_iload_n hx hb dX3_advise_63 rfl (lv_at hl 3 rfl) ?_
      subst hQ
      refine W.widen (k := 2) (n := 12) (Nat.le_of_ble_eq_true rfl) (Nat.le_of_ble_eq_true rfl) ?_
      exact vx_ret (W.iret (v := adB (cwF K V (ix x) (ix h)) 16) hx hb hr (fun t ht hW => ⟨⟨_, X, rfl, ⟨(by unfold adC; rw [if_neg hc_104, if_neg hc_105]), rfl⟩, bp_at hK hN hP t ht hW⟩, hS.F ht⟩) hS.2.2 dX3_advise_64)
    | succ n ih =>
      intro i X H locs ls hni hP hS hl
      have hi9 : i < 16 := by omega
      refine lv_iload hx hb dX3_advise_26 (lv_at hl 5 rfl) ?_
      refine lv_bipush (v := 16) hx hb dX3_advise_28 (by decide) ?_
      refine lv_icmp_ge (tgt := 63) hx hb dX3_advise_30 (by decide) (fun c9 => absurd c9 (nI_ge (a := i) (b := 16) hi9 (by decide))) (fun _ => ?_)
      refine lv_aload_n hx hb dX3_advise_33 rfl (lv_at hl 0 rfl) ?_
      refine lv_iload_n hx hb dX3_advise_34 rfl (lv_at hl 1 rfl) ?_
      refine lv_iload hx hb dX3_advise_35 (lv_at hl 5 rfl) ?_
      refine lv_iload_n hx hb dX3_advise_37 rfl (lv_at hl 2 rfl) ?_
      refine W.eq (g2 := F0 m 38 ls (.int (nI (ix h)) :: .int (nI i) :: .int x :: .ref (ac 0) :: [])) (by rw [← eh]) ?_
      refine cWE_V (As := [.int x, .int (nI i), .int (nI (ix h))]) (rest := []) ⟨hx, hb, hml, hown, hts⟩ (c_X3_caughtWithGoal l D y _ ac an ar K V X x (nI i) (ix h) (by have := in_ix hh; omega) hx3 hI0 (hO2 i hi9)) (cwV 3 hts gX3_advise_X3_caughtWithGoal rfl rfl rfl (by decide +kernel) ⟨Nat.le_of_ble_eq_true rfl, Nat.le_of_ble_eq_true rfl⟩) hK hN hP (by rw [cmA_fst]; exact hD) hS hA (va_recv hK hP (ci := 3) (q0 := 0) rfl (ap_l (wf_at (by decide) rfl))) rfl hl.1 rfl (Nat.le_of_ble_eq_true rfl) dX3_advise_38 ⟨Nat.le_of_ble_eq_true rfl, Nat.le_of_ble_eq_true rfl⟩ (fun X2 H locs hP9 hk9 hS => ?_)
      have hP : va_P D vwCl (cmW y ac (an 0) (ar 0) K ++ (rvW y an V ++ rvW y ar X2)) H := hP9
      refine lv_istore (lv' := [(6, .int (cwF K V (ix x) (ix h) i)), (0, .ref (ac 0)), (1, .int x), (2, .int h), (3, .int (adB (cwF K V (ix x) (ix h)) i)), (4, .int (adM (cwF K V (ix x) (ix h)) i)), (5, .int (nI i))]) hx hb dX3_advise_41 hl (by decide) rfl (fun ls hl => ?_)
      refine lv_iload hx hb dX3_advise_43 (lv_at hl 0 rfl) ?_
      refine lv_iload hx hb dX3_advise_45 (lv_at hl 5 rfl) ?_
      refine lv_icmp_le (tgt := 57) hx hb dX3_advise_47 (by decide) (fun c_106 => ?_) (fun c_106 => ?_)
      · have e1 : adB (cwF K V (ix x) (ix h)) (i + 1) = adB (cwF K V (ix x) (ix h)) i := if_pos c_106
        have e2 : adM (cwF K V (ix x) (ix h)) (i + 1) = adM (cwF K V (ix x) (ix h)) i := if_pos c_106
        rw [← e1, ← e2] at hl
        refine lv_iinc (v := nI (i + 1)) (lv' := [(5, .int (nI (i + 1))), (6, .int (cwF K V (ix x) (ix h) i)), (0, .ref (ac 0)), (1, .int x), (2, .int h), (3, .int (adB (cwF K V (ix x) (ix h)) (i + 1))), (4, .int (adM (cwF K V (ix x) (ix h)) (i + 1)))]) hx hb dX3_advise_57 hl (k := 6) rfl (by first | rfl | exact (nI_1 i)) (by decide) rfl (fun ls hl => ?_)
        refine lv_goto (tgt := 26) hx hb dX3_advise_60 (by decide) ?_
        exact ih (i + 1) _ _ _ _ (by omega) hP hS (lv_sub hl [2, 3, 4, 5, 6, 0] rfl)
      · refine lv_iload hx hb dX3_advise_50 (lv_at hl 0 rfl) ?_
        refine lv_istore (lv' := [(4, .int (cwF K V (ix x) (ix h) i)), (6, .int (cwF K V (ix x) (ix h) i)), (0, .ref (ac 0)), (1, .int x), (2, .int h), (3, .int (adB (cwF K V (ix x) (ix h)) i)), (5, .int (nI i))]) hx hb dX3_advise_52 hl (by decide) rfl (fun ls hl => ?_)
        refine lv_iload hx hb dX3_advise_54 (lv_at hl 6 rfl) ?_
        refine lv_istore_n (lv' := [(3, .int (nI i)), (4, .int (cwF K V (ix x) (ix h) i)), (6, .int (cwF K V (ix x) (ix h) i)), (0, .ref (ac 0)), (1, .int x), (2, .int h), (5, .int (nI i))]) hx hb dX3_advise_56 rfl hl (by decide) rfl (fun ls hl => ?_)
        have e1 : adB (cwF K V (ix x) (ix h)) (i + 1) = nI i := if_neg c_106
        have e2 : adM (cwF K V (ix x) (ix h)) (i + 1) = cwF K V (ix x) (ix h) i := if_neg c_106
        have hl : lv_has ls 7 [(3, .int (adB (cwF K V (ix x) (ix h)) (i + 1))), (4, .int (adM (cwF K V (ix x) (ix h)) (i + 1))), (6, .int (cwF K V (ix x) (ix h) i)), (0, .ref (ac 0)), (1, .int x), (2, .int h), (5, .int (nI i))] := by rw [e1, e2]; exact hl
        refine lv_iinc (v := nI (i + 1)) (lv' := [(5, .int (nI (i + 1))), (3, .int (adB (cwF K V (ix x) (ix h)) (i + 1))), (4, .int (adM (cwF K V (ix x) (ix h)) (i + 1))), (6, .int (cwF K V (ix x) (ix h) i)), (0, .ref (ac 0)), (1, .int x), (2, .int h)]) hx hb dX3_advise_57 hl (k := 6) rfl (by first | rfl | exact (nI_1 i)) (by decide) rfl (fun ls hl => ?_)
        refine lv_goto (tgt := 26) hx hb dX3_advise_60 (by decide) ?_
        exact ih (i + 1) _ _ _ _ (by omega) hP hS (lv_sub hl [4, 5, 6, 1, 2, 0] rfl)
  exact la9 16 0 _ _ _ ls rfl hP hS (lv_sub hl [3, 4, 5, 2, 1, 0] rfl)
