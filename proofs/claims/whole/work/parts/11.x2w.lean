/-! ===== River: writes ===== -/
def tkF (V : Nat → Nat → Int32) (x k : Int32) : Nat → Nat → Int32 := vU V 3 (ix x) (V 3 (ix x) - k)
def mkF (V : Nat → Nat → Int32) (a b c : Int32) : Nat → Nat → Int32 :=
  let V1 := vU V 4 3 (V 4 3 - a)
  let V2 := vU V1 4 (ix b) (V1 4 (ix b) - 1)
  let V3 := va_up V2 (ix (V 0 2) + 5) (bnF (V2 (ix (V 0 2) + 5)) a b c)
  vU V3 0 2 (V3 0 2 + 1)
def tiF (V : Nat → Nat → Int32) (a b : Int32) : Nat → Nat → Int32 :=
  let V1 := vU V (ix (V 0 3) + 11) 0 a
  let V2 := vU V1 (ix (V 0 3) + 11) 1 b
  let V3 := vU V2 (ix a + 5) 9 b
  let V4 := vU V3 (ix b + 5) 9 a
  vU V4 0 3 (V4 0 3 + 1)
/-- draw: net n's catch c is taken and shared -/
def drS (V : Nat → Nat → Int32) (n : Nat) : Int32 := mn (V (nA V n + 5) 0 - V (nA V n + 5) 7) (mx (wcF V n - wcF V n / 2) (wcF V n - (V (nB V n + 5) 0 - V (nB V n + 5) 7)))
def drV (V : Nat → Nat → Int32) (n : Nat) : Nat → Nat → Int32 :=
  let V1 := tkF V (V (nA V n + 5) 3) (wcF V n)
  let V2 := vU V1 (nA V n + 5) 7 (V1 (nA V n + 5) 7 + drS V n)
  let V3 := vU V2 (nB V n + 5) 7 (V2 (nB V n + 5) 7 + (wcF V n - drS V n))
  vU V3 (n + 11) 2 (V3 (n + 11) 2 + wcF V n)
def dnS (V : Nat → Nat → Int32) : Nat → (Nat → Nat → Int32) | 0 => V | k + 1 => drV (dnS V k) k
def dnC (V : Nat → Nat → Int32) : Nat → Int32 | 0 => 0 | k + 1 => dnC V k + wcF (dnS V k) k
/-- the hour's coracles: those afloat -/
def mvG (d : Int32) (w : Nat → Int32) : Nat → Int32 := if w 8 = 0 then w else mvF w d
def wrG (w : Nat → Int32) : Nat → Int32 := if w 8 = 0 then w else wrF w
/-- climb: what each reach has then, where those up from reach 16 - i on are done -/
def clN (f : Nat → Int32) (j : Nat) : Int32 := mn 60 (f j - f j / 2 + (if j = 15 then 0 else f (j + 1) / 2))
def clR (f : Nat → Int32) (k : Nat) : Nat → Int32 := fun j => if k ≤ j ∧ j < 16 then clN f j else f j
def clB (f : Nat → Int32) (k : Nat) : Int32 := if k = 16 then 0 else f k / 2
def clV (V : Nat → Nat → Int32) : Nat → Nat → Int32 := vU (va_up V 3 (clR (V 3) 0)) 0 5 (V 0 5 + V 3 0 / 2)
def fmF (x z : Int32) : Int32 := if 0 ≤ x ^^^ z then x - x / z * z else if x - x / z * z = 0 then x - x / z * z else x - x / z * z + z
/-- an hour -/
def hA1 (V : Nat → Nat → Int32) (d : Int32) : Nat → Nat → Int32 := mpI (mvG d) 6 V
def hA2 (V : Nat → Nat → Int32) (d : Int32) : Nat → Nat → Int32 := dnS (hA1 V d) (ix (V 0 3))
def hA3 (V : Nat → Nat → Int32) (d : Int32) : Nat → Nat → Int32 := mpI wrG 6 (hA2 V d)
def hA4 (V : Nat → Nat → Int32) (d : Int32) : Nat → Nat → Int32 := if fmF (hA3 V d 0 0) 4 = 3 then clV (hA3 V d) else hA3 V d
def hrV (V : Nat → Nat → Int32) (d r : Int32) : Nat → Nat → Int32 :=
  let V5 := vU (hA4 V d) 3 15 (mn 60 (hA4 V d 3 15 + r))
  vU V5 0 0 (V5 0 0 + 1)
def hrC (V : Nat → Nat → Int32) (d : Int32) : Int32 := dnC (hA1 V d) (ix (V 0 3))
theorem rvI_of {V X : Nat → Nat → Int32} (h : rvI V) (h1 : ∀ k, k < 6 → X (k + 5) 3 = V (k + 5) 3 ∧ X (k + 5) 8 = V (k + 5) 8) (h2 : ∀ n, n < 3 → X (n + 11) 0 = V (n + 11) 0 ∧ X (n + 11) 1 = V (n + 11) 1) : rvI X := by
  refine ⟨fun k hk => ?_, fun n hn => ?_⟩
  · rw [(h1 k hk).1, (h1 k hk).2]; exact h.1 k hk
  · rw [(h2 n hn).1, (h2 n hn).2]; exact h.2 n hn
/-- what a draw leaves -/
theorem dr_at (V : Nat → Nat → Int32) (n j k : Nat) (h : ¬ (j = 3) ∧ ¬ (k = 7 ∧ 5 ≤ j ∧ (j = nA V n + 5 ∨ j = nB V n + 5)) ∧ ¬ (j = n + 11 ∧ k = 2)) : drV V n j k = V j k := by
  unfold drV tkF
  simp only [vU_at]
  have h1 : ¬ (j = n + 11 ∧ k = 2) := h.2.2
  have h2 : ¬ (j = nB V n + 5 ∧ k = 7) := fun z => h.2.1 ⟨z.2, by omega, Or.inr z.1⟩
  have h3 : ¬ (j = nA V n + 5 ∧ k = 7) := fun z => h.2.1 ⟨z.2, by omega, Or.inl z.1⟩
  have h4 : ¬ (j = 3 ∧ k = ix (V (nA V n + 5) 3)) := fun z => h.1 z.1
  rw [if_neg h1, if_neg h2, if_neg h3, if_neg h4]
theorem rvI_dr {V : Nat → Nat → Int32} (n : Nat) (h : rvI V) : rvI (drV V n) :=
  rvI_of h (fun k _ => ⟨dr_at V n _ _ (by omega), dr_at V n _ _ (by omega)⟩) (fun k _ => ⟨dr_at V n _ _ (by omega), dr_at V n _ _ (by omega)⟩)
theorem rvI_dn {V : Nat → Nat → Int32} (h : rvI V) : ∀ n, rvI (dnS V n)
  | 0 => h
  | n + 1 => rvI_dr n (rvI_dn h n)
theorem dn_0 (V : Nat → Nat → Int32) (i : Nat) : ∀ n, dnS V n 0 i = V 0 i
  | 0 => rfl
  | n + 1 => by
    show drV (dnS V n) n 0 i = V 0 i
    rw [dr_at _ _ _ _ (by omega), dn_0 V i n]
abbrev rmX2_takeSalmon : Room := { frames := 0, cells := 0, slots := 0, locals := 0 }
set_option maxHeartbeats 4000000 in
set_option maxRecDepth 100000 in
/-- takeSalmon(x, k) -/
theorem c_X2_takeSalmon (l : Launch) (D : va_G) (y : Nat → ClassId) (sz : Nat) (ad : Nat → Nat) (V : Nat → Nat → Int32) (x k : Int32) (hx0 : vp_in x 16) : WrV l D y yX2_takeSalmon wsX2_takeSalmon rmX2_takeSalmon [.ref (ad 0), .int x, .int k] (rvW y ad V) sz (rvW y ad (tkF V x k)) := by
  refine mW (fun A => va_Qv (fun (_ : Unit) => True) (fun _ t9 => Bp D y (rvW y ad (tkF V x k)) t9) A) (C := RX2) (cc := cX2_takeSalmon) (maxL := 3) (ret := none) (by decide) rfl rfl (Nat.le_of_ble_eq_true rfl) ?_
  intro p e s m a below meth c ls A Q hQ hsz hx hb hr hts hown hlocks hin hml hP hK hN hD hA hS hl
  have hl : lv_has ls 3 [(0, .ref (ad 0)), (1, .int x), (2, .int k)] := hl
  rw [rv_fst] at hD
  refine lv_iload_n hx hb dX2_takeSalmon_0 rfl (lv_at hl 1 rfl) ?_
  refine lv_if_lt (tgt := 20) hx hb dX2_takeSalmon_1 (by decide) (fun c9 => absurd c9 (in_lt hx0)) (fun _ => ?_)
  refine lv_iload_n hx hb dX2_takeSalmon_4 rfl (lv_at hl 1 rfl) ?_
  refine lv_bipush (v := 16) hx hb dX2_takeSalmon_5 (by decide) ?_
  refine lv_icmp_ge (tgt := 20) hx hb dX2_takeSalmon_7 (by decide) (fun c9 => absurd c9 (lt_in hx0 rfl)) (fun _ => ?_)
  refine lv_aload_n hx hb dX2_takeSalmon_10 rfl (lv_at hl 0 rfl) ?_
  have hin2 : ∀ w ∈ u_ws RX2 TX2 10, w ∈ wsX2_takeSalmon := by decide +kernel
  have hf23 := hts (.fieldLink RX2 23 "CoracleMakers$River" "salmon" "[I") (by decide +kernel)
  refine va_get (D := D) (ci := 2) (v := .ref (ad 3)) (C := RX2) (T := TX2) (N := 10) hx hb hts hin2 hown hK hP 0 (wf_at (by decide) rfl) rfl 2 (by decide) hf23 (fun _ h9 => h9) rfl dX2_takeSalmon_11 ?_
  refine lv_iload_n hx hb dX2_takeSalmon_14 rfl (lv_at hl 1 rfl) ?_
  refine lv_dup2_11 hx hb dX2_takeSalmon_15 rfl rfl ?_
  refine va_iald hx hb hK hP 3 0 (wf_at (by decide) rfl) rfl hx0 dX2_takeSalmon_16 ?_
  refine lv_iload_n hx hb dX2_takeSalmon_17 rfl (lv_at hl 2 rfl) ?_
  refine lv_isub hx hb dX2_takeSalmon_18 ?_
  refine lv_topi (fun x_23 ex_23 => ?_)
  obtain ⟨V1, hV1⟩ : ∃ z, z = va_up V 3 (upd (V 3) (ix x) x_23) := ⟨_, rfl⟩
  refine va_iast hx hb hK hP (aD_D hD (rv_fst y ad V)) hS 3 0 (wf_at (by decide) rfl) rfl hx0 dX2_takeSalmon_19 (fun H locs hP _ hS => ?_)
  have hP : va_P D vwCl (rvW y ad V1) H := (by rw [hV1]; exact P_eq (rv_set (k := 3) (upd (V 3) (ix x) x_23) rfl) hP)
  have hP : va_P D vwCl (rvW y ad (tkF V x k)) H := (by subst hV1 ex_23; exact hP)
  subst hQ
  exact W.vret hx hb hr (fun t ht hW => ⟨⟨(), rfl, trivial, bp_at hK hN hP t ht hW⟩, hS.F ht⟩) hS.2.2 dX2_takeSalmon_20
abbrev rmX2_makeCoracle : Room := { frames := 1, cells := 0, slots := 0, locals := 23 }
set_option maxHeartbeats 4000000 in
set_option maxRecDepth 100000 in
/-- makeCoracle(xa, xb, xc) -/
theorem c_X2_makeCoracle (l : Launch) (D : va_G) (y : Nat → ClassId) (sz : Nat) (ad : Nat → Nat) (V : Nat → Nat → Int32) (xa xb xc : Int32) (hm : vp_in (V 0 2) 6) (hb0 : vp_in xb 3) : WrI l D y yX2_makeCoracle wsX2_makeCoracle rmX2_makeCoracle [.ref (ad 0), .int xa, .int xb, .int xc] (rvW y ad V) sz (V 0 2) (rvW y ad (mkF V xa xb xc)) := by
  refine mW (fun A => va_Qi (fun r (_ : Unit) => r = (V 0 2)) (fun _ t9 => Bp D y (rvW y ad (mkF V xa xb xc)) t9) A) (C := RX2) (cc := cX2_makeCoracle) (maxL := 5) (ret := (some .int)) (by decide) rfl rfl (Nat.le_of_ble_eq_true rfl) ?_
  intro p e s m a below meth c ls A Q hQ hsz hx hb hr hts hown hlocks hin hml hP hK hN hD hA hS hl
  have hl : lv_has ls 5 [(0, .ref (ad 0)), (1, .int xa), (2, .int xb), (3, .int xc)] := hl
  rw [rv_fst] at hD
  have hM6 : ix (V 0 2) < 6 := in_ix hm
  refine lv_aload_n hx hb dX2_makeCoracle_0 rfl (lv_at hl 0 rfl) ?_
  have hin2 : ∀ w ∈ u_ws RX2 TX2 10, w ∈ wsX2_makeCoracle := by decide +kernel
  have hf52 := hts (.fieldLink RX2 52 "CoracleMakers$River" "made" "I") (by decide +kernel)
  refine va_get (D := D) (ci := 2) (v := .int (V 0 2)) (C := RX2) (T := TX2) (N := 10) hx hb hts hin2 hown hK hP 0 (wf_at (by decide) rfl) rfl 6 (by decide) hf52 (fun _ h9 => h9) rfl dX2_makeCoracle_1 ?_
  refine lv_istore (lv' := [(4, .int (V 0 2)), (0, .ref (ad 0)), (1, .int xa), (2, .int xb), (3, .int xc)]) hx hb dX2_makeCoracle_4 hl (by decide) rfl (fun ls hl => ?_)
  refine lv_aload_n hx hb dX2_makeCoracle_6 rfl (lv_at hl 1 rfl) ?_
  have hf27 := hts (.fieldLink RX2 27 "CoracleMakers$River" "stores" "[I") (by decide +kernel)
  refine va_get (D := D) (ci := 2) (v := .ref (ad 4)) (C := RX2) (T := TX2) (N := 10) hx hb hts hin2 hown hK hP 0 (wf_at (by decide) rfl) rfl 3 (by decide) hf27 (fun _ h9 => h9) rfl dX2_makeCoracle_7 ?_
  refine lv_iconst (v := 3) hx hb dX2_makeCoracle_10 (by decide) ?_
  refine lv_dup2_11 hx hb dX2_makeCoracle_11 rfl rfl ?_
  refine va_iald hx hb hK hP 4 0 (wf_at (by decide) rfl) rfl (show vp_in (3 : Int32) 4 from vp_in_nI (n := 3) (by decide) (by decide)) dX2_makeCoracle_12 ?_
  refine W.eq (g2 := F0 m 13 ls (.int (V 4 3) :: .int 3 :: .ref (ad 4) :: [])) rfl ?_
  refine lv_iload_n hx hb dX2_makeCoracle_13 rfl (lv_at hl 2 rfl) ?_
  refine lv_isub hx hb dX2_makeCoracle_14 ?_
  refine lv_topi (fun x_24 ex_24 => ?_)
  obtain ⟨V2, hV2⟩ : ∃ z, z = va_up V 4 (upd (V 4) 3 x_24) := ⟨_, rfl⟩
  refine va_iast hx hb hK hP (aD_D hD (rv_fst y ad V)) hS 4 0 (wf_at (by decide) rfl) rfl (show vp_in (3 : Int32) 4 from vp_in_nI (n := 3) (by decide) (by decide)) dX2_makeCoracle_15 (fun H locs hP _ hS => ?_)
  have hP : va_P D vwCl (rvW y ad V2) H := (by rw [hV2]; exact P_eq (rv_set (k := 4) (upd (V 4) 3 x_24) rfl) hP)
  refine lv_iload_n hx hb dX2_makeCoracle_16 rfl (lv_at hl 3 rfl) ?_
  refine lv_if_lt (tgt := 35) hx hb dX2_makeCoracle_17 (by decide) (fun c9 => absurd c9 (in_lt hb0)) (fun _ => ?_)
  refine lv_iload_n hx hb dX2_makeCoracle_20 rfl (lv_at hl 3 rfl) ?_
  refine lv_iconst (v := 2) hx hb dX2_makeCoracle_21 (by decide) ?_
  refine lv_icmp_gt (tgt := 35) hx hb dX2_makeCoracle_22 (by decide) (fun c9 => absurd c9 (gt_in hb0 (by decide))) (fun _ => ?_)
  refine lv_aload_n hx hb dX2_makeCoracle_25 rfl (lv_at hl 1 rfl) ?_
  refine va_get (D := D) (ci := 2) (v := .ref (ad 4)) (C := RX2) (T := TX2) (N := 10) hx hb hts hin2 hown hK hP 0 (wf_at (by decide) rfl) rfl 3 (by decide) hf27 (fun _ h9 => h9) rfl dX2_makeCoracle_26 ?_
  refine lv_iload_n hx hb dX2_makeCoracle_29 rfl (lv_at hl 3 rfl) ?_
  refine lv_dup2_11 hx hb dX2_makeCoracle_30 rfl rfl ?_
  refine va_iald hx hb hK hP 4 0 (wf_at (by decide) rfl) rfl (show vp_in xb 4 from in_mono hb0 (by decide)) dX2_makeCoracle_31 ?_
  refine lv_iconst (v := 1) hx hb dX2_makeCoracle_32 (by decide) ?_
  refine lv_isub hx hb dX2_makeCoracle_33 ?_
  refine lv_topi (fun x_25 ex_25 => ?_)
  obtain ⟨V3, hV3⟩ : ∃ z, z = va_up V2 4 (upd (V2 4) (ix xb) x_25) := ⟨_, rfl⟩
  refine va_iast hx hb hK hP (aD_D hD (rv_fst y ad V2)) hS 4 0 (wf_at (by decide) rfl) rfl (show vp_in xb 4 from in_mono hb0 (by decide)) dX2_makeCoracle_34 (fun H locs hP _ hS => ?_)
  have hP : va_P D vwCl (rvW y ad V3) H := (by rw [hV3]; exact P_eq (rv_set (k := 4) (upd (V2 4) (ix xb) x_25) rfl) hP)
  refine lv_aload_n hx hb dX2_makeCoracle_35 rfl (lv_at hl 1 rfl) ?_
  refine lv_iload hx hb dX2_makeCoracle_36 (lv_at hl 0 rfl) ?_
  refine cRR_V (As := [.int (V 0 2)]) (rest := []) ⟨hx, hb, hml, hown, hts⟩ (c_X2_coracleOf l D y ad V3 (V 0 2) hm) (cwV 1 hts gX2_makeCoracle_X2_coracleOf rfl rfl rfl (by decide +kernel) ⟨Nat.le_of_ble_eq_true rfl, Nat.le_of_ble_eq_true rfl⟩) hK hN hP (va_recv hK hP (ci := 2) (q0 := 0) rfl (wf_at (by decide) rfl)) rfl hl.1 rfl (Nat.le_of_ble_eq_true rfl) dX2_makeCoracle_38 ⟨Nat.le_of_ble_eq_true rfl, Nat.le_of_ble_eq_true rfl⟩ ?_
  refine lv_iload_n hx hb dX2_makeCoracle_41 rfl (lv_at hl 2 rfl) ?_
  refine lv_iload_n hx hb dX2_makeCoracle_42 rfl (lv_at hl 3 rfl) ?_
  refine lv_iload_n hx hb dX2_makeCoracle_43 rfl (lv_at hl 4 rfl) ?_
  refine cWV_V (As := [.int xa, .int xb, .int xc]) (rest := []) ⟨hx, hb, hml, hown, hts⟩ (c_X0_becomeNew l D y _ (ad (ix (V 0 2) + 5)) (V3 (ix (V 0 2) + 5)) xa xb xc) (cwV 3 hts gX2_makeCoracle_X0_becomeNew rfl rfl rfl (by decide +kernel) ⟨Nat.le_of_ble_eq_true rfl, Nat.le_of_ble_eq_true rfl⟩) hK hN (P_m hP (rv_co y ad V3 hM6)) (aD_1 hD (k := (ix (V 0 2) + 5)) (wa_at (by have := hM6; omega))) hS hA (va_recv hK hP (ci := 0) (q0 := (ix (V 0 2) + 5)) rfl (rv_co y ad V3 hM6)) rfl hl.1 rfl (Nat.le_of_ble_eq_true rfl) dX2_makeCoracle_44 ⟨Nat.le_of_ble_eq_true rfl, Nat.le_of_ble_eq_true rfl⟩ (fun H locs hP9 hk9 hS => ?_)
  obtain ⟨V4, hV4⟩ : ∃ z, z = va_up V3 (ix (V 0 2) + 5) (bnF (V3 (ix (V 0 2) + 5)) xa xb xc) := ⟨_, rfl⟩
  have hP : va_P D vwCl (rvW y ad V4) H := (by rw [hV4]; exact (P_eq (rv_setC (bnF (V3 (ix (V 0 2) + 5)) xa xb xc) hM6) (fr_1 hP (by rw [rv_fst]; exact hD) (rv_co y ad V3 hM6) hk9 hP9)))
  refine lv_aload_n hx hb dX2_makeCoracle_47 rfl (lv_at hl 1 rfl) ?_
  refine lv_dup hx hb dX2_makeCoracle_48 rfl ?_
  refine va_get (D := D) (ci := 2) (v := .int (V4 0 2)) (C := RX2) (T := TX2) (N := 10) hx hb hts hin2 hown hK hP 0 (wf_at (by decide) rfl) rfl 6 (by decide) hf52 (fun _ h9 => h9) rfl dX2_makeCoracle_49 ?_
  refine lv_iconst (v := 1) hx hb dX2_makeCoracle_52 (by decide) ?_
  refine lv_iadd hx hb dX2_makeCoracle_53 ?_
  refine lv_topi (fun x_26 ex_26 => ?_)
  obtain ⟨V5, hV5⟩ : ∃ z, z = va_up V4 0 (upd (V4 0) 2 x_26) := ⟨_, rfl⟩
  refine va_put (D := D) (ci := 2) (v := .int x_26) (ty := .int) (C := RX2) (T := TX2) (N := 10) hx hb hts hin2 tyX2 tyX2_ok nmX2 hown hK hP (aD_D hD (rv_fst y ad V4)) hS 0 (wf_at (by decide) rfl) rfl 6 (by decide) hf52 (fun _ h9 => h9) rfl (by decide +kernel) rfl rfl (Nat.le_of_ble_eq_true rfl) dX2_makeCoracle_54 (fun H locs hP _ hS => ?_)
  have hP : va_P D vwCl (rvW y ad V5) H := (by rw [hV5]; exact P_eq (rv_set (k := 0) (upd (V4 0) 2 x_26) rfl) hP)
  refine lv_iload hx hb dX2_makeCoracle_57 (lv_at hl 0 rfl) ?_
  have hP : va_P D vwCl (rvW y ad (mkF V xa xb xc)) H := (by subst hV5 ex_26 hV4 hV3 ex_25 hV2 ex_24; exact hP)
  subst hQ
  exact W.iret (v := V 0 2) hx hb hr (fun t ht hW => ⟨⟨_, (), rfl, rfl, bp_at hK hN hP t ht hW⟩, hS.F ht⟩) hS.2.2 dX2_makeCoracle_59
abbrev rmX2_tieNet : Room := { frames := 1, cells := 0, slots := 0, locals := 21 }
set_option maxHeartbeats 4000000 in
set_option maxRecDepth 100000 in
/-- tieNet(one, other) -/
theorem c_X2_tieNet (l : Launch) (D : va_G) (y : Nat → ClassId) (sz : Nat) (ad : Nat → Nat) (V : Nat → Nat → Int32) (xa xb : Int32) (ht : vp_in (V 0 3) 3) (ha : vp_in xa 6) (hb0 : vp_in xb 6) : WrI l D y yX2_tieNet wsX2_tieNet rmX2_tieNet [.ref (ad 0), .int xa, .int xb] (rvW y ad V) sz (V 0 3) (rvW y ad (tiF V xa xb)) := by
  refine mW (fun A => va_Qi (fun r (_ : Unit) => r = (V 0 3)) (fun _ t9 => Bp D y (rvW y ad (tiF V xa xb)) t9) A) (C := RX2) (cc := cX2_tieNet) (maxL := 5) (ret := (some .int)) (by decide) rfl rfl (Nat.le_of_ble_eq_true rfl) ?_
  intro p e s m a below meth c ls A Q hQ hsz hx hb hr hts hown hlocks hin hml hP hK hN hD hA hS hl
  have hl : lv_has ls 5 [(0, .ref (ad 0)), (1, .int xa), (2, .int xb)] := hl
  rw [rv_fst] at hD
  refine lv_aload_n hx hb dX2_tieNet_0 rfl (lv_at hl 0 rfl) ?_
  have hin2 : ∀ w ∈ u_ws RX2 TX2 10, w ∈ wsX2_tieNet := by decide +kernel
  have hf55 := hts (.fieldLink RX2 55 "CoracleMakers$River" "tied" "I") (by decide +kernel)
  refine va_get (D := D) (ci := 2) (v := .int (V 0 3)) (C := RX2) (T := TX2) (N := 10) hx hb hts hin2 hown hK hP 0 (wf_at (by decide) rfl) rfl 7 (by decide) hf55 (fun _ h9 => h9) rfl dX2_tieNet_1 ?_
  refine lv_istore_n (lv' := [(3, .int (V 0 3)), (0, .ref (ad 0)), (1, .int xa), (2, .int xb)]) hx hb dX2_tieNet_4 rfl hl (by decide) rfl (fun ls hl => ?_)
  refine lv_aload_n hx hb dX2_tieNet_5 rfl (lv_at hl 1 rfl) ?_
  refine lv_iload_n hx hb dX2_tieNet_6 rfl (lv_at hl 0 rfl) ?_
  refine cRR_V (As := [.int (V 0 3)]) (rest := []) ⟨hx, hb, hml, hown, hts⟩ (c_X2_netOf l D y ad V (V 0 3) ht) (cwV 1 hts gX2_tieNet_X2_netOf rfl rfl rfl (by decide +kernel) ⟨Nat.le_of_ble_eq_true rfl, Nat.le_of_ble_eq_true rfl⟩) hK hN hP (va_recv hK hP (ci := 2) (q0 := 0) rfl (wf_at (by decide) rfl)) rfl hl.1 rfl (Nat.le_of_ble_eq_true rfl) dX2_tieNet_7 ⟨Nat.le_of_ble_eq_true rfl, Nat.le_of_ble_eq_true rfl⟩ ?_
  refine lv_astore (lv' := [(4, .ref (ad (ix (V 0 3) + 11))), (3, .int (V 0 3)), (0, .ref (ad 0)), (1, .int xa), (2, .int xb)]) hx hb dX2_tieNet_10 hl (by decide) rfl (fun ls hl => ?_)
  refine lv_aload hx hb dX2_tieNet_12 (lv_at hl 0 rfl) ?_
  refine lv_iload_n hx hb dX2_tieNet_14 rfl (lv_at hl 3 rfl) ?_
  have hin1 : ∀ w ∈ u_ws RX1 TX1 3, w ∈ wsX2_tieNet := by decide +kernel
  have hf76 := hts (.fieldLink RX2 76 "CoracleMakers$Net" "first" "I") (by decide +kernel)
  obtain ⟨V6, hV6⟩ : ∃ z, z = va_up V (ix (V 0 3) + 11) (upd (V (ix (V 0 3) + 11)) 0 xa) := ⟨_, rfl⟩
  refine va_put (D := D) (ci := 1) (v := .int xa) (ty := .int) (C := RX1) (T := TX1) (N := 3) hx hb hts hin1 tyX1 tyX1_ok nmX1 hown hK hP (aD_D hD (rv_fst y ad V)) hS (ix (V 0 3) + 11) (rv_ne y ad V (in_ix ht)) rfl 0 (by decide) hf76 (fun _ h9 => h9) rfl (by decide +kernel) rfl rfl (Nat.le_of_ble_eq_true rfl) dX2_tieNet_15 (fun H locs hP _ hS => ?_)
  have hP : va_P D vwCl (rvW y ad V6) H := (by rw [hV6]; exact P_eq (rv_setN (upd (V (ix (V 0 3) + 11)) 0 xa)) hP)
  refine lv_aload hx hb dX2_tieNet_18 (lv_at hl 0 rfl) ?_
  refine lv_iload_n hx hb dX2_tieNet_20 rfl (lv_at hl 4 rfl) ?_
  have hf79 := hts (.fieldLink RX2 79 "CoracleMakers$Net" "second" "I") (by decide +kernel)
  obtain ⟨V7, hV7⟩ : ∃ z, z = va_up V6 (ix (V 0 3) + 11) (upd (V6 (ix (V 0 3) + 11)) 1 xb) := ⟨_, rfl⟩
  refine va_put (D := D) (ci := 1) (v := .int xb) (ty := .int) (C := RX1) (T := TX1) (N := 3) hx hb hts hin1 tyX1 tyX1_ok nmX1 hown hK hP (aD_D hD (rv_fst y ad V6)) hS (ix (V 0 3) + 11) (rv_ne y ad V6 (in_ix ht)) rfl 1 (by decide) hf79 (fun _ h9 => h9) rfl (by decide +kernel) rfl rfl (Nat.le_of_ble_eq_true rfl) dX2_tieNet_21 (fun H locs hP _ hS => ?_)
  have hP : va_P D vwCl (rvW y ad V7) H := (by rw [hV7]; exact P_eq (rv_setN (upd (V6 (ix (V 0 3) + 11)) 1 xb)) hP)
  refine lv_aload_n hx hb dX2_tieNet_24 rfl (lv_at hl 2 rfl) ?_
  refine lv_iload_n hx hb dX2_tieNet_25 rfl (lv_at hl 3 rfl) ?_
  refine cRR_V (As := [.int xa]) (rest := []) ⟨hx, hb, hml, hown, hts⟩ (c_X2_coracleOf l D y ad V7 xa ha) (cwV 1 hts gX2_tieNet_X2_coracleOf rfl rfl rfl (by decide +kernel) ⟨Nat.le_of_ble_eq_true rfl, Nat.le_of_ble_eq_true rfl⟩) hK hN hP (va_recv hK hP (ci := 2) (q0 := 0) rfl (wf_at (by decide) rfl)) rfl hl.1 rfl (Nat.le_of_ble_eq_true rfl) dX2_tieNet_26 ⟨Nat.le_of_ble_eq_true rfl, Nat.le_of_ble_eq_true rfl⟩ ?_
  refine lv_iload_n hx hb dX2_tieNet_29 rfl (lv_at hl 4 rfl) ?_
  have hin0 : ∀ w ∈ u_ws RX0 TX0 10, w ∈ wsX2_tieNet := by decide +kernel
  have hf82 := hts (.fieldLink RX2 82 "CoracleMakers$Coracle" "partner" "I") (by decide +kernel)
  obtain ⟨V8, hV8⟩ : ∃ z, z = va_up V7 (ix xa + 5) (upd (V7 (ix xa + 5)) 9 xb) := ⟨_, rfl⟩
  refine va_put (D := D) (ci := 0) (v := .int xb) (ty := .int) (C := RX0) (T := TX0) (N := 10) hx hb hts hin0 tyX0 tyX0_ok nmX0 hown hK hP (aD_D hD (rv_fst y ad V7)) hS (ix xa + 5) (rv_co y ad V7 (in_ix ha)) rfl 9 (by decide) hf82 (fun _ h9 => h9) rfl (by decide +kernel) rfl rfl (Nat.le_of_ble_eq_true rfl) dX2_tieNet_30 (fun H locs hP _ hS => ?_)
  have hP : va_P D vwCl (rvW y ad V8) H := (by rw [hV8]; exact P_eq (rv_setC (upd (V7 (ix xa + 5)) 9 xb) (in_ix ha)) hP)
  refine lv_aload_n hx hb dX2_tieNet_33 rfl (lv_at hl 2 rfl) ?_
  refine lv_iload_n hx hb dX2_tieNet_34 rfl (lv_at hl 4 rfl) ?_
  refine cRR_V (As := [.int xb]) (rest := []) ⟨hx, hb, hml, hown, hts⟩ (c_X2_coracleOf l D y ad V8 xb hb0) (cwV 1 hts gX2_tieNet_X2_coracleOf rfl rfl rfl (by decide +kernel) ⟨Nat.le_of_ble_eq_true rfl, Nat.le_of_ble_eq_true rfl⟩) hK hN hP (va_recv hK hP (ci := 2) (q0 := 0) rfl (wf_at (by decide) rfl)) rfl hl.1 rfl (Nat.le_of_ble_eq_true rfl) dX2_tieNet_35 ⟨Nat.le_of_ble_eq_true rfl, Nat.le_of_ble_eq_true rfl⟩ ?_
  refine lv_iload_n hx hb dX2_tieNet_38 rfl (lv_at hl 3 rfl) ?_
  obtain ⟨V9, hV9⟩ : ∃ z, z = va_up V8 (ix xb + 5) (upd (V8 (ix xb + 5)) 9 xa) := ⟨_, rfl⟩
  refine va_put (D := D) (ci := 0) (v := .int xa) (ty := .int) (C := RX0) (T := TX0) (N := 10) hx hb hts hin0 tyX0 tyX0_ok nmX0 hown hK hP (aD_D hD (rv_fst y ad V8)) hS (ix xb + 5) (rv_co y ad V8 (in_ix hb0)) rfl 9 (by decide) hf82 (fun _ h9 => h9) rfl (by decide +kernel) rfl rfl (Nat.le_of_ble_eq_true rfl) dX2_tieNet_39 (fun H locs hP _ hS => ?_)
  have hP : va_P D vwCl (rvW y ad V9) H := (by rw [hV9]; exact P_eq (rv_setC (upd (V8 (ix xb + 5)) 9 xa) (in_ix hb0)) hP)
  refine lv_aload_n hx hb dX2_tieNet_42 rfl (lv_at hl 2 rfl) ?_
  refine lv_dup hx hb dX2_tieNet_43 rfl ?_
  refine va_get (D := D) (ci := 2) (v := .int (V9 0 3)) (C := RX2) (T := TX2) (N := 10) hx hb hts hin2 hown hK hP 0 (wf_at (by decide) rfl) rfl 7 (by decide) hf55 (fun _ h9 => h9) rfl dX2_tieNet_44 ?_
  refine lv_iconst (v := 1) hx hb dX2_tieNet_47 (by decide) ?_
  refine lv_iadd hx hb dX2_tieNet_48 ?_
  refine lv_topi (fun x_27 ex_27 => ?_)
  obtain ⟨V10, hV10⟩ : ∃ z, z = va_up V9 0 (upd (V9 0) 3 x_27) := ⟨_, rfl⟩
  refine va_put (D := D) (ci := 2) (v := .int x_27) (ty := .int) (C := RX2) (T := TX2) (N := 10) hx hb hts hin2 tyX2 tyX2_ok nmX2 hown hK hP (aD_D hD (rv_fst y ad V9)) hS 0 (wf_at (by decide) rfl) rfl 7 (by decide) hf55 (fun _ h9 => h9) rfl (by decide +kernel) rfl rfl (Nat.le_of_ble_eq_true rfl) dX2_tieNet_49 (fun H locs hP _ hS => ?_)
  have hP : va_P D vwCl (rvW y ad V10) H := (by rw [hV10]; exact P_eq (rv_set (k := 0) (upd (V9 0) 3 x_27) rfl) hP)
  refine lv_iload_n hx hb dX2_tieNet_52 rfl (lv_at hl 1 rfl) ?_
  have hP : va_P D vwCl (rvW y ad (tiF V xa xb)) H := (by subst hV10 ex_27 hV9 hV8 hV7 hV6; exact hP)
  subst hQ
  exact W.iret (v := V 0 3) hx hb hr (fun t ht hW => ⟨⟨_, (), rfl, rfl, bp_at hK hN hP t ht hW⟩, hS.F ht⟩) hS.2.2 dX2_tieNet_53
abbrev rmX2_draw : Room := { frames := 3, cells := 0, slots := 0, locals := 69 }
set_option maxHeartbeats 4000000 in
set_option maxRecDepth 100000 in
/-- draw(net) -/
theorem c_X2_draw (l : Launch) (D : va_G) (y : Nat → ClassId) (sz : Nat) (ad : Nat → Nat) (V : Nat → Nat → Int32) (n : Nat) (hn : n < 3) (hI : rvI V) : WrI l D y yX2_draw wsX2_draw rmX2_draw [.ref (ad 0), .ref (ad (n + 11))] (rvW y ad V) sz (wcF V n) (rvW y ad (drV V n)) := by
  refine mW (fun A => va_Qi (fun r (_ : Unit) => r = (wcF V n)) (fun _ t9 => Bp D y (rvW y ad (drV V n)) t9) A) (C := RX2) (cc := cX2_draw) (maxL := 7) (ret := (some .int)) (by decide) rfl rfl (Nat.le_of_ble_eq_true rfl) ?_
  intro p e s m a below meth c ls A Q hQ hsz hx hb hr hts hown hlocks hin hml hP hK hN hD hA hS hl
  have hl : lv_has ls 7 [(0, .ref (ad 0)), (1, .ref (ad (n + 11)))] := hl
  rw [rv_fst] at hD
  have hA6 : nA V n < 6 := in_ix (hI.2 n hn).1
  have hB6 : nB V n < 6 := in_ix (hI.2 n hn).2
  refine lv_aload_n hx hb dX2_draw_0 rfl (lv_at hl 0 rfl) ?_
  refine lv_aload_n hx hb dX2_draw_1 rfl (lv_at hl 1 rfl) ?_
  have hin1 : ∀ w ∈ u_ws RX1 TX1 3, w ∈ wsX2_draw := by decide +kernel
  have hf76 := hts (.fieldLink RX2 76 "CoracleMakers$Net" "first" "I") (by decide +kernel)
  refine va_get (D := D) (ci := 1) (v := .int (V (n + 11) 0)) (C := RX1) (T := TX1) (N := 3) hx hb hts hin1 hown hK hP (n + 11) (rv_ne y ad V hn) rfl 0 (by decide) hf76 (fun _ h9 => h9) rfl dX2_draw_2 ?_
  refine cRR_V (As := [.int (V (n + 11) 0)]) (rest := []) ⟨hx, hb, hml, hown, hts⟩ (c_X2_coracleOf l D y ad V (V (n + 11) 0) (hI.2 n hn).1) (cwV 1 hts gX2_draw_X2_coracleOf rfl rfl rfl (by decide +kernel) ⟨Nat.le_of_ble_eq_true rfl, Nat.le_of_ble_eq_true rfl⟩) hK hN hP (va_recv hK hP (ci := 2) (q0 := 0) rfl (wf_at (by decide) rfl)) rfl hl.1 rfl (Nat.le_of_ble_eq_true rfl) dX2_draw_5 ⟨Nat.le_of_ble_eq_true rfl, Nat.le_of_ble_eq_true rfl⟩ ?_
  refine lv_astore_n (lv' := [(2, .ref (ad (nA V n + 5))), (0, .ref (ad 0)), (1, .ref (ad (n + 11)))]) hx hb dX2_draw_8 rfl hl (by decide) rfl (fun ls hl => ?_)
  refine lv_aload_n hx hb dX2_draw_9 rfl (lv_at hl 1 rfl) ?_
  refine lv_aload_n hx hb dX2_draw_10 rfl (lv_at hl 2 rfl) ?_
  have hf79 := hts (.fieldLink RX2 79 "CoracleMakers$Net" "second" "I") (by decide +kernel)
  refine va_get (D := D) (ci := 1) (v := .int (V (n + 11) 1)) (C := RX1) (T := TX1) (N := 3) hx hb hts hin1 hown hK hP (n + 11) (rv_ne y ad V hn) rfl 1 (by decide) hf79 (fun _ h9 => h9) rfl dX2_draw_11 ?_
  refine cRR_V (As := [.int (V (n + 11) 1)]) (rest := []) ⟨hx, hb, hml, hown, hts⟩ (c_X2_coracleOf l D y ad V (V (n + 11) 1) (hI.2 n hn).2) (cwV 1 hts gX2_draw_X2_coracleOf rfl rfl rfl (by decide +kernel) ⟨Nat.le_of_ble_eq_true rfl, Nat.le_of_ble_eq_true rfl⟩) hK hN hP (va_recv hK hP (ci := 2) (q0 := 0) rfl (wf_at (by decide) rfl)) rfl hl.1 rfl (Nat.le_of_ble_eq_true rfl) dX2_draw_14 ⟨Nat.le_of_ble_eq_true rfl, Nat.le_of_ble_eq_true rfl⟩ ?_
  refine lv_astore_n (lv' := [(3, .ref (ad (nB V n + 5))), (2, .ref (ad (nA V n + 5))), (0, .ref (ad 0)), (1, .ref (ad (n + 11)))]) hx hb dX2_draw_17 rfl hl (by decide) rfl (fun ls hl => ?_)
  refine lv_aload_n hx hb dX2_draw_18 rfl (lv_at hl 2 rfl) ?_
  refine lv_aload_n hx hb dX2_draw_19 rfl (lv_at hl 3 rfl) ?_
  refine cRI_V (As := [.ref (ad (n + 11))]) (rest := []) ⟨hx, hb, hml, hown, hts⟩ (c_X2_wouldCatch l D y ad V n hn hI) (cwV 1 hts gX2_draw_X2_wouldCatch rfl rfl rfl (by decide +kernel) ⟨Nat.le_of_ble_eq_true rfl, Nat.le_of_ble_eq_true rfl⟩) hK hN hP (va_recv hK hP (ci := 2) (q0 := 0) rfl (wf_at (by decide) rfl)) rfl hl.1 rfl (Nat.le_of_ble_eq_true rfl) dX2_draw_20 ⟨Nat.le_of_ble_eq_true rfl, Nat.le_of_ble_eq_true rfl⟩ ?_
  refine lv_istore (lv' := [(4, .int (wcF V n)), (3, .ref (ad (nB V n + 5))), (2, .ref (ad (nA V n + 5))), (0, .ref (ad 0)), (1, .ref (ad (n + 11)))]) hx hb dX2_draw_23 hl (by decide) rfl (fun ls hl => ?_)
  refine lv_iload hx hb dX2_draw_25 (lv_at hl 0 rfl) ?_
  refine lv_iload hx hb dX2_draw_27 (lv_at hl 0 rfl) ?_
  refine lv_iconst (v := 2) hx hb dX2_draw_29 (by decide) ?_
  refine lv_idiv hx hb dX2_draw_30 (by decide) ?_
  refine lv_isub hx hb dX2_draw_31 ?_
  refine lv_istore (lv' := [(5, .int ((wcF V n) - ((wcF V n) / 2))), (4, .int (wcF V n)), (3, .ref (ad (nB V n + 5))), (2, .ref (ad (nA V n + 5))), (0, .ref (ad 0)), (1, .ref (ad (n + 11)))]) hx hb dX2_draw_32 hl (by decide) rfl (fun ls hl => ?_)
  refine lv_aload_n hx hb dX2_draw_34 rfl (lv_at hl 3 rfl) ?_
  refine cRI_V (As := []) (rest := []) ⟨hx, hb, hml, hown, hts⟩ (c_X0_room l D y (ad (nA V n + 5)) (V (nA V n + 5))) (cwV 0 hts gX2_draw_X0_room rfl rfl rfl (by decide +kernel) ⟨Nat.le_of_ble_eq_true rfl, Nat.le_of_ble_eq_true rfl⟩) hK hN (P_m hP (rv_co y ad V hA6)) (va_recv hK hP (ci := 0) (q0 := (nA V n + 5)) rfl (rv_co y ad V hA6)) rfl hl.1 rfl (Nat.le_of_ble_eq_true rfl) dX2_draw_35 ⟨Nat.le_of_ble_eq_true rfl, Nat.le_of_ble_eq_true rfl⟩ ?_
  refine lv_iload hx hb dX2_draw_38 (lv_at hl 0 rfl) ?_
  refine lv_iload hx hb dX2_draw_40 (lv_at hl 1 rfl) ?_
  refine lv_aload_n hx hb dX2_draw_42 rfl (lv_at hl 2 rfl) ?_
  refine cRI_V (As := []) (rest := [.int (wcF V n), .int ((wcF V n) - ((wcF V n) / 2)), .int (V (nA V n + 5) 0 - V (nA V n + 5) 7)]) ⟨hx, hb, hml, hown, hts⟩ (c_X0_room l D y (ad (nB V n + 5)) (V (nB V n + 5))) (cwV 0 hts gX2_draw_X0_room rfl rfl rfl (by decide +kernel) ⟨Nat.le_of_ble_eq_true rfl, Nat.le_of_ble_eq_true rfl⟩) hK hN (P_m hP (rv_co y ad V hB6)) (va_recv hK hP (ci := 0) (q0 := (nB V n + 5)) rfl (rv_co y ad V hB6)) rfl hl.1 rfl (Nat.le_of_ble_eq_true rfl) dX2_draw_43 ⟨Nat.le_of_ble_eq_true rfl, Nat.le_of_ble_eq_true rfl⟩ ?_
  refine lv_isub hx hb dX2_draw_46 ?_
  refine va_mmax hx hb (hml.trans hl.1.symm) hown (hts (.methodLink RX2 122 Lib.Math.max.name) (by decide +kernel)) (hts (.static Lib.Math.max.name) (by decide +kernel)) (hts (.initialized "java/lang/Math") (by decide +kernel)) (hts (.code Lib.Math.max.name Lib.Math.max.code 2 (some .int)) (by decide +kernel)) (Nat.le_of_ble_eq_true rfl) (Nat.le_of_ble_eq_true rfl) (Nat.le_of_ble_eq_true rfl) (Nat.le_of_ble_eq_true rfl) dX2_draw_47 ?_
  refine W.eq (g2 := F0 m 50 ls (.int (mx ((wcF V n) - ((wcF V n) / 2)) ((wcF V n) - (V (nB V n + 5) 0 - V (nB V n + 5) 7))) :: .int (V (nA V n + 5) 0 - V (nA V n + 5) 7) :: [])) rfl ?_
  refine va_mmin hx hb (hml.trans hl.1.symm) hown (hts (.methodLink RX2 105 Lib.Math.min.name) (by decide +kernel)) (hts (.static Lib.Math.min.name) (by decide +kernel)) (hts (.initialized "java/lang/Math") (by decide +kernel)) (hts (.code Lib.Math.min.name Lib.Math.min.code 2 (some .int)) (by decide +kernel)) (Nat.le_of_ble_eq_true rfl) (Nat.le_of_ble_eq_true rfl) (Nat.le_of_ble_eq_true rfl) (Nat.le_of_ble_eq_true rfl) dX2_draw_50 ?_
  refine W.eq (g2 := F0 m 53 ls (.int (mn (V (nA V n + 5) 0 - V (nA V n + 5) 7) (mx ((wcF V n) - ((wcF V n) / 2)) ((wcF V n) - (V (nB V n + 5) 0 - V (nB V n + 5) 7)))) :: [])) rfl ?_
  refine W.eq (g2 := F0 m 53 ls (.int (drS V n) :: [])) rfl ?_
  refine lv_istore (lv' := [(6, .int (drS V n)), (5, .int ((wcF V n) - ((wcF V n) / 2))), (4, .int (wcF V n)), (3, .ref (ad (nB V n + 5))), (2, .ref (ad (nA V n + 5))), (0, .ref (ad 0)), (1, .ref (ad (n + 11)))]) hx hb dX2_draw_53 hl (by decide) rfl (fun ls hl => ?_)
  refine lv_aload_n hx hb dX2_draw_55 rfl (lv_at hl 5 rfl) ?_
  refine lv_aload_n hx hb dX2_draw_56 rfl (lv_at hl 4 rfl) ?_
  have hin0 : ∀ w ∈ u_ws RX0 TX0 10, w ∈ wsX2_draw := by decide +kernel
  have hf125 := hts (.fieldLink RX2 125 "CoracleMakers$Coracle" "reach" "I") (by decide +kernel)
  refine va_get (D := D) (ci := 0) (v := .int (V (nA V n + 5) 3)) (C := RX0) (T := TX0) (N := 10) hx hb hts hin0 hown hK hP (nA V n + 5) (rv_co y ad V hA6) rfl 3 (by decide) hf125 (fun _ h9 => h9) rfl dX2_draw_57 ?_
  refine lv_iload hx hb dX2_draw_60 (lv_at hl 2 rfl) ?_
  refine cWV_V (As := [.int (V (nA V n + 5) 3), .int (wcF V n)]) (rest := []) ⟨hx, hb, hml, hown, hts⟩ (c_X2_takeSalmon l D y _ ad V (V (nA V n + 5) 3) (wcF V n) (hI.1 _ hA6).1) (cwV 2 hts gX2_draw_X2_takeSalmon rfl rfl rfl (by decide +kernel) ⟨Nat.le_of_ble_eq_true rfl, Nat.le_of_ble_eq_true rfl⟩) hK hN hP (by rw [rv_fst]; exact hD) hS hA (va_recv hK hP (ci := 2) (q0 := 0) rfl (wf_at (by decide) rfl)) rfl hl.1 rfl (Nat.le_of_ble_eq_true rfl) dX2_draw_62 ⟨Nat.le_of_ble_eq_true rfl, Nat.le_of_ble_eq_true rfl⟩ (fun H locs hP9 hk9 hS => ?_)
  have hP : va_P D vwCl (rvW y ad (tkF V (V (nA V n + 5) 3) (wcF V n))) H := hP9
  refine lv_aload_n hx hb dX2_draw_65 rfl (lv_at hl 4 rfl) ?_
  refine lv_dup hx hb dX2_draw_66 rfl ?_
  have hf132 := hts (.fieldLink RX2 132 "CoracleMakers$Coracle" "load" "I") (by decide +kernel)
  refine va_get (D := D) (ci := 0) (v := .int ((tkF V (V (nA V n + 5) 3) (wcF V n)) (nA V n + 5) 7)) (C := RX0) (T := TX0) (N := 10) hx hb hts hin0 hown hK hP (nA V n + 5) (rv_co y ad (tkF V (V (nA V n + 5) 3) (wcF V n)) hA6) rfl 7 (by decide) hf132 (fun _ h9 => h9) rfl dX2_draw_67 ?_
  refine lv_iload hx hb dX2_draw_70 (lv_at hl 0 rfl) ?_
  refine lv_iadd hx hb dX2_draw_72 ?_
  refine lv_topi (fun x_28 ex_28 => ?_)
  obtain ⟨V11, hV11⟩ : ∃ z, z = va_up (tkF V (V (nA V n + 5) 3) (wcF V n)) (nA V n + 5) (upd ((tkF V (V (nA V n + 5) 3) (wcF V n)) (nA V n + 5)) 7 x_28) := ⟨_, rfl⟩
  refine va_put (D := D) (ci := 0) (v := .int x_28) (ty := .int) (C := RX0) (T := TX0) (N := 10) hx hb hts hin0 tyX0 tyX0_ok nmX0 hown hK hP (aD_D hD (rv_fst y ad (tkF V (V (nA V n + 5) 3) (wcF V n)))) hS (nA V n + 5) (rv_co y ad (tkF V (V (nA V n + 5) 3) (wcF V n)) hA6) rfl 7 (by decide) hf132 (fun _ h9 => h9) rfl (by decide +kernel) rfl rfl (Nat.le_of_ble_eq_true rfl) dX2_draw_73 (fun H locs hP _ hS => ?_)
  have hP : va_P D vwCl (rvW y ad V11) H := (by rw [hV11]; exact P_eq (rv_setC (upd ((tkF V (V (nA V n + 5) 3) (wcF V n)) (nA V n + 5)) 7 x_28) hA6) hP)
  refine lv_aload_n hx hb dX2_draw_76 rfl (lv_at hl 3 rfl) ?_
  refine lv_dup hx hb dX2_draw_77 rfl ?_
  refine va_get (D := D) (ci := 0) (v := .int (V11 (nB V n + 5) 7)) (C := RX0) (T := TX0) (N := 10) hx hb hts hin0 hown hK hP (nB V n + 5) (rv_co y ad V11 hB6) rfl 7 (by decide) hf132 (fun _ h9 => h9) rfl dX2_draw_78 ?_
  refine lv_iload hx hb dX2_draw_81 (lv_at hl 2 rfl) ?_
  refine lv_iload hx hb dX2_draw_83 (lv_at hl 0 rfl) ?_
  refine lv_isub hx hb dX2_draw_85 ?_
  refine lv_iadd hx hb dX2_draw_86 ?_
  refine lv_topi (fun x_29 ex_29 => ?_)
  obtain ⟨V12, hV12⟩ : ∃ z, z = va_up V11 (nB V n + 5) (upd (V11 (nB V n + 5)) 7 x_29) := ⟨_, rfl⟩
  refine va_put (D := D) (ci := 0) (v := .int x_29) (ty := .int) (C := RX0) (T := TX0) (N := 10) hx hb hts hin0 tyX0 tyX0_ok nmX0 hown hK hP (aD_D hD (rv_fst y ad V11)) hS (nB V n + 5) (rv_co y ad V11 hB6) rfl 7 (by decide) hf132 (fun _ h9 => h9) rfl (by decide +kernel) rfl rfl (Nat.le_of_ble_eq_true rfl) dX2_draw_87 (fun H locs hP _ hS => ?_)
  have hP : va_P D vwCl (rvW y ad V12) H := (by rw [hV12]; exact P_eq (rv_setC (upd (V11 (nB V n + 5)) 7 x_29) hB6) hP)
  refine lv_aload_n hx hb dX2_draw_90 rfl (lv_at hl 6 rfl) ?_
  refine lv_dup hx hb dX2_draw_91 rfl ?_
  have hf135 := hts (.fieldLink RX2 135 "CoracleMakers$Net" "caught" "I") (by decide +kernel)
  refine va_get (D := D) (ci := 1) (v := .int (V12 (n + 11) 2)) (C := RX1) (T := TX1) (N := 3) hx hb hts hin1 hown hK hP (n + 11) (rv_ne y ad V12 hn) rfl 2 (by decide) hf135 (fun _ h9 => h9) rfl dX2_draw_92 ?_
  refine lv_iload hx hb dX2_draw_95 (lv_at hl 2 rfl) ?_
  refine lv_iadd hx hb dX2_draw_97 ?_
  refine lv_topi (fun x_30 ex_30 => ?_)
  obtain ⟨V13, hV13⟩ : ∃ z, z = va_up V12 (n + 11) (upd (V12 (n + 11)) 2 x_30) := ⟨_, rfl⟩
  refine va_put (D := D) (ci := 1) (v := .int x_30) (ty := .int) (C := RX1) (T := TX1) (N := 3) hx hb hts hin1 tyX1 tyX1_ok nmX1 hown hK hP (aD_D hD (rv_fst y ad V12)) hS (n + 11) (rv_ne y ad V12 hn) rfl 2 (by decide) hf135 (fun _ h9 => h9) rfl (by decide +kernel) rfl rfl (Nat.le_of_ble_eq_true rfl) dX2_draw_98 (fun H locs hP _ hS => ?_)
  have hP : va_P D vwCl (rvW y ad V13) H := (by rw [hV13]; exact P_eq (rv_setN (upd (V12 (n + 11)) 2 x_30)) hP)
  refine lv_iload hx hb dX2_draw_101 (lv_at hl 2 rfl) ?_
  have hP : va_P D vwCl (rvW y ad (drV V n)) H := (by subst hV13 ex_30 hV12 ex_29 hV11 ex_28; exact hP)
  subst hQ
  exact W.iret (v := wcF V n) hx hb hr (fun t ht hW => ⟨⟨_, (), rfl, rfl, bp_at hK hN hP t ht hW⟩, hS.F ht⟩) hS.2.2 dX2_draw_103
abbrev rmX2_moveAll : Room := { frames := 2, cells := 0, slots := 0, locals := 45 }
set_option maxHeartbeats 4000000 in
set_option maxRecDepth 100000 in
/-- every coracle that is afloat -/
theorem c_X2_moveAll (l : Launch) (D : va_G) (y : Nat → ClassId) (sz : Nat) (ad : Nat → Nat) (V : Nat → Nat → Int32) (d : Int32) : WrV l D y yX2_moveAll wsX2_moveAll rmX2_moveAll [.ref (ad 0), .int d] (rvW y ad V) sz (rvW y ad (mpI (mvG d) 6 V)) := by
  refine mW (fun A => va_Qv (fun (_ : Unit) => True) (fun _ t9 => Bp D y (rvW y ad (mpI (mvG d) 6 V)) t9) A) (C := RX2) (cc := cX2_moveAll) (maxL := 6) (ret := none) (by decide) rfl rfl (Nat.le_of_ble_eq_true rfl) ?_
  intro p e s m a below meth c ls A Q hQ hsz hx hb hr hts hown hlocks hin hml hP hK hN hD hA hS hl
  have hl : lv_has ls 6 [(0, .ref (ad 0)), (1, .int d)] := hl
  rw [rv_fst] at hD
  refine lv_aload_n hx hb dX2_moveAll_0 rfl (lv_at hl 0 rfl) ?_
  have hin2 : ∀ w ∈ u_ws RX2 TX2 10, w ∈ wsX2_moveAll := by decide +kernel
  have hf11 := hts (.fieldLink RX2 11 "CoracleMakers$River" "coracles" "[LCoracleMakers$Coracle;") (by decide +kernel)
  refine va_get (D := D) (ci := 2) (v := .ref (ad 1)) (C := RX2) (T := TX2) (N := 10) hx hb hts hin2 hown hK hP 0 (wf_at (by decide) rfl) rfl 0 (by decide) hf11 (fun _ h9 => h9) rfl dX2_moveAll_1 ?_
  refine lv_astore_n (lv' := [(2, .ref (ad 1)), (0, .ref (ad 0)), (1, .int d)]) hx hb dX2_moveAll_4 rfl hl (by decide) rfl (fun ls hl => ?_)
  refine lv_aload_n hx hb dX2_moveAll_5 rfl (lv_at hl 0 rfl) ?_
  refine va_alen (v := 6) hx hb hK hP 1 3 (wf_at (by decide) rfl) rfl rfl dX2_moveAll_6 ?_
  refine lv_istore_n (lv' := [(3, .int 6), (2, .ref (ad 1)), (0, .ref (ad 0)), (1, .int d)]) hx hb dX2_moveAll_7 rfl hl (by decide) rfl (fun ls hl => ?_)
  refine lv_iconst (v := 0) hx hb dX2_moveAll_8 (by decide) ?_
  refine lv_istore (lv' := [(4, .int 0), (3, .int 6), (2, .ref (ad 1)), (0, .ref (ad 0)), (1, .int d)]) hx hb dX2_moveAll_9 hl (by decide) rfl (fun ls hl => ?_)
  have hl : lv_has ls 6 [(4, .int (nI 0)), (3, .int 6), (2, .ref (ad 1)), (0, .ref (ad 0)), (1, .int d)] := hl
  have lq6 : ∀ (n i : Nat) (H : Heap) (locs : List Loc) (ls : Array Slot), 6 - i < n → i ≤ 6 → va_P D vwCl (rvW y ad (mpI (mvG d) i V)) H → va_S A s.heap H locs → lv_has ls 6 [(0, .ref (ad 0)), (1, .int d), (2, .ref (ad 1)), (3, .int 6), (4, .int (nI i))] → W p l e rmX2_moveAll s m a below meth c H locs 0 0 Q (F0 m 11 ls []) := by
    intro n
    induction n with
    | zero => intro i H locs ls hn; exact absurd hn (Nat.not_lt_zero _)
    | succ n ih =>
      intro i H locs ls hn hi hP hS hl
      rcases Nat.lt_or_ge i 6 with hiN | hiN
      · have eV := mpI_at (mvG d) i V
        refine lv_iload hx hb dX2_moveAll_11 (lv_at hl 4 rfl) ?_
        refine lv_iload_n hx hb dX2_moveAll_13 rfl (lv_at hl 3 rfl) ?_
        refine lv_icmp_ge (tgt := 43) hx hb dX2_moveAll_14 (by decide) (fun c9 => absurd c9 (nI_ge hiN (by decide))) (fun _ => ?_)
        refine lv_aload_n hx hb dX2_moveAll_17 rfl (lv_at hl 2 rfl) ?_
        refine lv_iload hx hb dX2_moveAll_18 (lv_at hl 4 rfl) ?_
        refine va_aldq hx hb hK hP 1 3 (wf_at (by decide) rfl) rfl (vp_in_nI hiN (by decide)) dX2_moveAll_20 ?_
        rw [show (nI i).toNatClampNeg = i from (nI_clamp (by omega))]
        refine W.eq (g2 := F0 m 21 ls (.ref (ad (i + 5)) :: [])) rfl ?_
        refine lv_astore (lv' := [(5, .ref (ad (i + 5))), (0, .ref (ad 0)), (1, .int d), (2, .ref (ad 1)), (3, .int 6), (4, .int (nI i))]) hx hb dX2_moveAll_21 hl (by decide) rfl (fun ls hl => ?_)
        refine lv_aload hx hb dX2_moveAll_23 (lv_at hl 0 rfl) ?_
        have hin0 : ∀ w ∈ u_ws RX0 TX0 10, w ∈ wsX2_moveAll := by decide +kernel
        have hf108 := hts (.fieldLink RX2 108 "CoracleMakers$Coracle" "afloat" "Z") (by decide +kernel)
        refine va_get (D := D) (ci := 0) (v := .int ((mpI (mvG d) i V) (i + 5) 8)) (C := RX0) (T := TX0) (N := 10) hx hb hts hin0 hown hK hP (i + 5) (rv_co y ad (mpI (mvG d) i V) hiN) rfl 8 (by decide) hf108 (fun _ h9 => h9) rfl dX2_moveAll_25 ?_
        refine lv_if_eq (tgt := 37) hx hb dX2_moveAll_28 (by decide) (fun c_31 => ?_) (fun c_31 => ?_)
        · have e9 : mpI (mvG d) i V = mpI (mvG d) (i + 1) V := mpI_k _ _ _ (by rw [eV] at c_31; unfold mvG; rw [if_pos c_31])
          refine lv_iinc (v := nI (i + 1)) (lv' := [(4, .int (nI (i + 1))), (5, .ref (ad (i + 5))), (0, .ref (ad 0)), (1, .int d), (2, .ref (ad 1)), (3, .int 6)]) hx hb dX2_moveAll_37 hl (k := 5) rfl (by first | rfl | exact (nI_1 i)) (by decide) rfl (fun ls hl => ?_)
          refine lv_goto (tgt := 11) hx hb dX2_moveAll_40 (by decide) ?_
          exact ih (i + 1) _ _ _ (by omega) (by omega) (e9 ▸ hP) hS (lv_sub hl [2, 3, 4, 5, 0] rfl)
        · refine lv_aload hx hb dX2_moveAll_31 (lv_at hl 0 rfl) ?_
          refine lv_iload_n hx hb dX2_moveAll_33 rfl (lv_at hl 2 rfl) ?_
          refine cWV_V (As := [.int d]) (rest := []) ⟨hx, hb, hml, hown, hts⟩ (c_X0_move l D y _ (ad (i + 5)) (mpI (mvG d) i V (i + 5)) d) (cwV 1 hts gX2_moveAll_X0_move rfl rfl rfl (by decide +kernel) ⟨Nat.le_of_ble_eq_true rfl, Nat.le_of_ble_eq_true rfl⟩) hK hN (P_m hP (rv_co y ad (mpI (mvG d) i V) hiN)) (aD_1 hD (k := (i + 5)) (wa_at (by have := hiN; omega))) hS hA (va_recv hK hP (ci := 0) (q0 := (i + 5)) rfl (rv_co y ad (mpI (mvG d) i V) hiN)) rfl hl.1 rfl (Nat.le_of_ble_eq_true rfl) dX2_moveAll_34 ⟨Nat.le_of_ble_eq_true rfl, Nat.le_of_ble_eq_true rfl⟩ (fun H locs hP9 hk9 hS => ?_)
          have hP : va_P D vwCl (rvW y ad (va_up (mpI (mvG d) i V) (i + 5) (mvF (mpI (mvG d) i V (i + 5)) d))) H := (P_eq (rv_setC (mvF (mpI (mvG d) i V (i + 5)) d) hiN) (fr_1 hP (by rw [rv_fst]; exact hD) (rv_co y ad (mpI (mvG d) i V) hiN) hk9 hP9))
          have e9 : (va_up (mpI (mvG d) i V) (i + 5) (mvF (mpI (mvG d) i V (i + 5)) d)) = mpI (mvG d) (i + 1) V := mpI_s _ _ _ (by rw [eV] at c_31 ⊢; unfold mvG; rw [if_neg c_31])
          refine lv_iinc (v := nI (i + 1)) (lv' := [(4, .int (nI (i + 1))), (5, .ref (ad (i + 5))), (0, .ref (ad 0)), (1, .int d), (2, .ref (ad 1)), (3, .int 6)]) hx hb dX2_moveAll_37 hl (k := 5) rfl (by first | rfl | exact (nI_1 i)) (by decide) rfl (fun ls hl => ?_)
          refine lv_goto (tgt := 11) hx hb dX2_moveAll_40 (by decide) ?_
          exact ih (i + 1) _ _ _ (by omega) (by omega) (e9 ▸ hP) hS (lv_sub hl [2, 3, 4, 5, 0] rfl)
      · have e9i : 6 = i := by omega
        subst e9i
        refine lv_iload hx hb dX2_moveAll_11 (lv_at hl 4 rfl) ?_
        refine lv_iload_n hx hb dX2_moveAll_13 rfl (lv_at hl 3 rfl) ?_
        refine lv_icmp_ge (tgt := 43) hx hb dX2_moveAll_14 (by decide) (fun _ => ?_) (fun c9 => absurd (show (6 : Int32) ≤ nI 6 by decide) c9)
        subst hQ
        exact W.vret hx hb hr (fun t ht hW => ⟨⟨(), rfl, trivial, bp_at hK hN hP t ht hW⟩, hS.F ht⟩) hS.2.2 dX2_moveAll_43
  exact lq6 (6 + 1) 0 _ _ ls (by omega) (by omega) (by rw [mpI_0]; exact hP) hS (lv_sub hl [3, 4, 2, 1, 0] rfl)
abbrev rmX2_wearAll : Room := { frames := 2, cells := 0, slots := 0, locals := 44 }
set_option maxHeartbeats 4000000 in
set_option maxRecDepth 100000 in
/-- every coracle that is afloat -/
theorem c_X2_wearAll (l : Launch) (D : va_G) (y : Nat → ClassId) (sz : Nat) (ad : Nat → Nat) (V : Nat → Nat → Int32) : WrV l D y yX2_wearAll wsX2_wearAll rmX2_wearAll [.ref (ad 0)] (rvW y ad V) sz (rvW y ad (mpI wrG 6 V)) := by
  refine mW (fun A => va_Qv (fun (_ : Unit) => True) (fun _ t9 => Bp D y (rvW y ad (mpI wrG 6 V)) t9) A) (C := RX2) (cc := cX2_wearAll) (maxL := 5) (ret := none) (by decide) rfl rfl (Nat.le_of_ble_eq_true rfl) ?_
  intro p e s m a below meth c ls A Q hQ hsz hx hb hr hts hown hlocks hin hml hP hK hN hD hA hS hl
  have hl : lv_has ls 5 [(0, .ref (ad 0))] := hl
  rw [rv_fst] at hD
  refine lv_aload_n hx hb dX2_wearAll_0 rfl (lv_at hl 0 rfl) ?_
  have hin2 : ∀ w ∈ u_ws RX2 TX2 10, w ∈ wsX2_wearAll := by decide +kernel
  have hf11 := hts (.fieldLink RX2 11 "CoracleMakers$River" "coracles" "[LCoracleMakers$Coracle;") (by decide +kernel)
  refine va_get (D := D) (ci := 2) (v := .ref (ad 1)) (C := RX2) (T := TX2) (N := 10) hx hb hts hin2 hown hK hP 0 (wf_at (by decide) rfl) rfl 0 (by decide) hf11 (fun _ h9 => h9) rfl dX2_wearAll_1 ?_
  refine lv_astore_n (lv' := [(1, .ref (ad 1)), (0, .ref (ad 0))]) hx hb dX2_wearAll_4 rfl hl (by decide) rfl (fun ls hl => ?_)
  refine lv_aload_n hx hb dX2_wearAll_5 rfl (lv_at hl 0 rfl) ?_
  refine va_alen (v := 6) hx hb hK hP 1 3 (wf_at (by decide) rfl) rfl rfl dX2_wearAll_6 ?_
  refine lv_istore_n (lv' := [(2, .int 6), (1, .ref (ad 1)), (0, .ref (ad 0))]) hx hb dX2_wearAll_7 rfl hl (by decide) rfl (fun ls hl => ?_)
  refine lv_iconst (v := 0) hx hb dX2_wearAll_8 (by decide) ?_
  refine lv_istore_n (lv' := [(3, .int 0), (2, .int 6), (1, .ref (ad 1)), (0, .ref (ad 0))]) hx hb dX2_wearAll_9 rfl hl (by decide) rfl (fun ls hl => ?_)
  have hl : lv_has ls 5 [(3, .int (nI 0)), (2, .int 6), (1, .ref (ad 1)), (0, .ref (ad 0))] := hl
  have lq7 : ∀ (n i : Nat) (H : Heap) (locs : List Loc) (ls : Array Slot), 6 - i < n → i ≤ 6 → va_P D vwCl (rvW y ad (mpI wrG i V)) H → va_S A s.heap H locs → lv_has ls 5 [(0, .ref (ad 0)), (1, .ref (ad 1)), (2, .int 6), (3, .int (nI i))] → W p l e rmX2_wearAll s m a below meth c H locs 0 0 Q (F0 m 10 ls []) := by
    intro n
    induction n with
    | zero => intro i H locs ls hn; exact absurd hn (Nat.not_lt_zero _)
    | succ n ih =>
      intro i H locs ls hn hi hP hS hl
      rcases Nat.lt_or_ge i 6 with hiN | hiN
      · have eV := mpI_at wrG i V
        refine lv_iload_n hx hb dX2_wearAll_10 rfl (lv_at hl 3 rfl) ?_
        refine lv_iload_n hx hb dX2_wearAll_11 rfl (lv_at hl 2 rfl) ?_
        refine lv_icmp_ge (tgt := 39) hx hb dX2_wearAll_12 (by decide) (fun c9 => absurd c9 (nI_ge hiN (by decide))) (fun _ => ?_)
        refine lv_aload_n hx hb dX2_wearAll_15 rfl (lv_at hl 1 rfl) ?_
        refine lv_iload_n hx hb dX2_wearAll_16 rfl (lv_at hl 3 rfl) ?_
        refine va_aldq hx hb hK hP 1 3 (wf_at (by decide) rfl) rfl (vp_in_nI hiN (by decide)) dX2_wearAll_17 ?_
        rw [show (nI i).toNatClampNeg = i from (nI_clamp (by omega))]
        refine W.eq (g2 := F0 m 18 ls (.ref (ad (i + 5)) :: [])) rfl ?_
        refine lv_astore (lv' := [(4, .ref (ad (i + 5))), (0, .ref (ad 0)), (1, .ref (ad 1)), (2, .int 6), (3, .int (nI i))]) hx hb dX2_wearAll_18 hl (by decide) rfl (fun ls hl => ?_)
        refine lv_aload hx hb dX2_wearAll_20 (lv_at hl 0 rfl) ?_
        have hin0 : ∀ w ∈ u_ws RX0 TX0 10, w ∈ wsX2_wearAll := by decide +kernel
        have hf108 := hts (.fieldLink RX2 108 "CoracleMakers$Coracle" "afloat" "Z") (by decide +kernel)
        refine va_get (D := D) (ci := 0) (v := .int ((mpI wrG i V) (i + 5) 8)) (C := RX0) (T := TX0) (N := 10) hx hb hts hin0 hown hK hP (i + 5) (rv_co y ad (mpI wrG i V) hiN) rfl 8 (by decide) hf108 (fun _ h9 => h9) rfl dX2_wearAll_22 ?_
        refine lv_if_eq (tgt := 33) hx hb dX2_wearAll_25 (by decide) (fun c_32 => ?_) (fun c_32 => ?_)
        · have e9 : mpI wrG i V = mpI wrG (i + 1) V := mpI_k _ _ _ (by rw [eV] at c_32; unfold wrG; rw [if_pos c_32])
          refine lv_iinc (v := nI (i + 1)) (lv' := [(3, .int (nI (i + 1))), (4, .ref (ad (i + 5))), (0, .ref (ad 0)), (1, .ref (ad 1)), (2, .int 6)]) hx hb dX2_wearAll_33 hl (k := 4) rfl (by first | rfl | exact (nI_1 i)) (by decide) rfl (fun ls hl => ?_)
          refine lv_goto (tgt := 10) hx hb dX2_wearAll_36 (by decide) ?_
          exact ih (i + 1) _ _ _ (by omega) (by omega) (e9 ▸ hP) hS (lv_sub hl [2, 3, 4, 0] rfl)
        · refine lv_aload hx hb dX2_wearAll_28 (lv_at hl 0 rfl) ?_
          refine cWV_V (As := []) (rest := []) ⟨hx, hb, hml, hown, hts⟩ (c_X0_wear l D y _ (ad (i + 5)) (mpI wrG i V (i + 5)) ) (cwV 0 hts gX2_wearAll_X0_wear rfl rfl rfl (by decide +kernel) ⟨Nat.le_of_ble_eq_true rfl, Nat.le_of_ble_eq_true rfl⟩) hK hN (P_m hP (rv_co y ad (mpI wrG i V) hiN)) (aD_1 hD (k := (i + 5)) (wa_at (by have := hiN; omega))) hS hA (va_recv hK hP (ci := 0) (q0 := (i + 5)) rfl (rv_co y ad (mpI wrG i V) hiN)) rfl hl.1 rfl (Nat.le_of_ble_eq_true rfl) dX2_wearAll_30 ⟨Nat.le_of_ble_eq_true rfl, Nat.le_of_ble_eq_true rfl⟩ (fun H locs hP9 hk9 hS => ?_)
          have hP : va_P D vwCl (rvW y ad (va_up (mpI wrG i V) (i + 5) (wrF (mpI wrG i V (i + 5))))) H := (P_eq (rv_setC (wrF (mpI wrG i V (i + 5))) hiN) (fr_1 hP (by rw [rv_fst]; exact hD) (rv_co y ad (mpI wrG i V) hiN) hk9 hP9))
          have e9 : (va_up (mpI wrG i V) (i + 5) (wrF (mpI wrG i V (i + 5)))) = mpI wrG (i + 1) V := mpI_s _ _ _ (by rw [eV] at c_32 ⊢; unfold wrG; rw [if_neg c_32])
          refine lv_iinc (v := nI (i + 1)) (lv' := [(3, .int (nI (i + 1))), (4, .ref (ad (i + 5))), (0, .ref (ad 0)), (1, .ref (ad 1)), (2, .int 6)]) hx hb dX2_wearAll_33 hl (k := 4) rfl (by first | rfl | exact (nI_1 i)) (by decide) rfl (fun ls hl => ?_)
          refine lv_goto (tgt := 10) hx hb dX2_wearAll_36 (by decide) ?_
          exact ih (i + 1) _ _ _ (by omega) (by omega) (e9 ▸ hP) hS (lv_sub hl [2, 3, 4, 0] rfl)
      · have e9i : 6 = i := by omega
        subst e9i
        refine lv_iload_n hx hb dX2_wearAll_10 rfl (lv_at hl 3 rfl) ?_
        refine lv_iload_n hx hb dX2_wearAll_11 rfl (lv_at hl 2 rfl) ?_
        refine lv_icmp_ge (tgt := 39) hx hb dX2_wearAll_12 (by decide) (fun _ => ?_) (fun c9 => absurd (show (6 : Int32) ≤ nI 6 by decide) c9)
        subst hQ
        exact W.vret hx hb hr (fun t ht hW => ⟨⟨(), rfl, trivial, bp_at hK hN hP t ht hW⟩, hS.F ht⟩) hS.2.2 dX2_wearAll_39
  exact lq7 (6 + 1) 0 _ _ ls (by omega) (by omega) (by rw [mpI_0]; exact hP) hS (lv_sub hl [3, 2, 1, 0] rfl)
theorem cl_at (V : Nat → Nat → Int32) (j : Nat) : va_up V 3 (clR (V 3) (j + 1)) 3 j = V 3 j := by
  rw [va_up_self]; unfold clR; rw [if_neg (by omega)]
theorem cl_step (V : Nat → Nat → Int32) {j : Nat} (hj : j < 16) : va_up (va_up V 3 (clR (V 3) (j + 1))) 3 (upd (va_up V 3 (clR (V 3) (j + 1)) 3) j (mn 60 (V 3 j - V 3 j / 2 + clB (V 3) (j + 1)))) = va_up V 3 (clR (V 3) j) := by
  funext r
  by_cases hr : r = 3
  · subst hr
    rw [va_up_self, va_up_self, va_up_self]
    funext i
    unfold upd
    by_cases hi : i = j
    · subst hi
      rw [if_pos rfl]
      unfold clR clN clB
      rw [if_pos (show i ≤ i ∧ i < 16 by omega)]
      by_cases h15 : i = 15
      · subst h15; rfl
      · rw [if_neg (show ¬ i + 1 = 16 by omega), if_neg h15]
    · rw [if_neg hi]
      unfold clR
      by_cases h1 : j + 1 ≤ i ∧ i < 16
      · rw [if_pos h1, if_pos (by omega)]
      · rw [if_neg h1, if_neg (by omega)]
  · rw [va_up_ne _ _ hr, va_up_ne _ _ hr, va_up_ne _ _ hr]
theorem cl_16 (V : Nat → Nat → Int32) : va_up V 3 (clR (V 3) 16) = V := by
  funext r
  by_cases hr : r = 3
  · subst hr; rw [va_up_self]; funext i; unfold clR; rw [if_neg (by omega)]
  · rw [va_up_ne _ _ hr]
theorem Met_ofWF {l : Launch} {y : MethodName} {ws ws' : List Cond} {rm : Room} {Pc : Array Value → State → Prop} {Qc : Array Value → State → Outcome → State → Prop} {mc ms : Nat} {free : Addr → Prop} {cc : ByteArray} {maxL : Nat} {ret : Option FieldType}
    (hy : plainFor y = true) (hw : ws = Cond.code y cc maxL ret :: ws')
    (body : ∀ p e s m args below meth c s₁, BodyLoose p l y (headSpec ws rm) cc maxL ret e s m args below meth c s₁ → c.maxLocals = maxL → Pc args s →
      W p l e (headSpec ws rm).room s m args below meth c s.heap [] 0 0 (MQ below Qc args s mc ms free) (entryFrame m args maxL)) : Met l y ws rm Pc Qc mc ms free := by
  refine MetFree.of_bodySF (code := cc) (maxLocals := maxL) (ret := ret) hy ?_ ?_
  · intro args s m h hn
    obtain ⟨meth, c, h1, h2, h3, h4, h5, h6, -, -⟩ := Cond.code_spec hn (atoms_spec (ws := ws) h _ (by rw [hw]; exact List.mem_cons_self))
    exact ⟨meth, c, h1, h2, h3, h4, h5, h6⟩
  · intro p e s m args below meth c s₁ B hml hP _
    have hh0 : s₁.heap = s.heap := by rw [B.state]; rfl
    obtain ⟨t, a1, o, b1, b2, b3⟩ := body p e s m args below meth c s₁ B hml hP s₁ hh0 (Stand.of_body B)
    exact ⟨t, o, a1, b1, b2, ⟨b3.1, b3.2⟩⟩
theorem mRF {l : Launch} {D : va_G} {y : Nat → ClassId} {yM : MethodName} {ws ws' : List Cond} {rm : Room} {av : List Value} {W0 : va_W} {Qc : Array Value → State → Outcome → State → Prop} {cc : ByteArray} {maxL : Nat} {ret : Option FieldType} {C : String} (hy : plainFor yM = true) (hC : yM.cls = C) (hw : ws = Cond.code yM cc maxL ret :: ws') (hlen : (lg_sl av).length ≤ maxL)
    (body : ∀ (p : Program) (e : Env) (s : State) (m : MethodId) (a : Array Value) (below : List Frame) (meth : Method) (c : Code) (ls : Array Slot) (Q : State → Prop), Q = MQ below Qc a s 0 0 noA → p.tables.exec = Jvm.exec → c.code = cc → meth.sig.returnType = ret → (∀ w ∈ ws, w.before a s = true) → s.vm.findClass C = some m.cls → meth.locks = false → c.maxLocals = maxL → va_P D vwCl W0 s.heap → va_K D vwCl (tyL y) s → NW s → lv_has ls maxL (lv_args 0 av) →
      W p l e rm s m a below meth c s.heap [] 0 0 Q (F0 m 0 ls [])) : Met l yM ws rm (va_Pc av (Bp D y W0)) Qc 0 0 noA := by
  refine Met_ofWF (cc := cc) (maxL := maxL) (ret := ret) hy hw ?_
  intro p e s m args below meth c s₁ B hml hv
  obtain ⟨ha, hP, hK, hN⟩ := hv
  have hl := lv_entry av (n := maxL) hlen
  have hb := body p e s m args below meth c ((lg_sl av ++ List.replicate (maxL - (lg_sl av).length) Slot.unset).toArray) _ rfl B.exec B.bytes B.returns (atoms_spec (ws := ws) B.pre) (by rw [← hC]; exact findClass_of_methodNamed B.named) B.notSynchronized hml hP hK hN hl
  subst ha
  rw [lg_entry_eq]
  exact hb
abbrev rmX2_climb : Room := { frames := 1, cells := 0, slots := 0, locals := 24 }
set_option maxHeartbeats 4000000 in
set_option maxRecDepth 100000 in
/-- climb() -/
theorem c_X2_climb (l : Launch) (D : va_G) (y : Nat → ClassId) (sz : Nat) (ad : Nat → Nat) (V : Nat → Nat → Int32) : WrV l D y yX2_climb wsX2_climb rmX2_climb [.ref (ad 0)] (rvW y ad V) sz (rvW y ad (clV V)) := by
  refine mW (fun A => va_Qv (fun (_ : Unit) => True) (fun _ t9 => Bp D y (rvW y ad (clV V)) t9) A) (C := RX2) (cc := cX2_climb) (maxL := 4) (ret := none) (by decide) rfl rfl (Nat.le_of_ble_eq_true rfl) ?_
  intro p e s m a below meth c ls A Q hQ hsz hx hb hr hts hown hlocks hin hml hP hK hN hD hA hS hl
  have hl : lv_has ls 4 [(0, .ref (ad 0))] := hl
  rw [rv_fst] at hD
  refine lv_iconst (v := 0) hx hb dX2_climb_0 (by decide) ?_
  refine lv_istore_n (lv' := [(1, .int 0), (0, .ref (ad 0))]) hx hb dX2_climb_1 rfl hl (by decide) rfl (fun ls hl => ?_)
  refine lv_bipush (v := 15) hx hb dX2_climb_2 (by decide) ?_
  refine lv_istore_n (lv' := [(2, .int 15), (1, .int 0), (0, .ref (ad 0))]) hx hb dX2_climb_4 rfl hl (by decide) rfl (fun ls hl => ?_)
  have hl : lv_has ls 4 [(2, .int 15), (1, .int (clB (V 3) 16)), (0, .ref (ad 0))] := hl
  have hl : lv_has ls 4 [(2, .int (dk 16)), (1, .int (clB (V 3) 16)), (0, .ref (ad 0))] := hl
  have lq9 : ∀ (k : Nat) (H : Heap) (locs : List Loc) (ls : Array Slot), k ≤ 16 → va_P D vwCl (rvW y ad (va_up V 3 (clR (V 3) k))) H → va_S A s.heap H locs → lv_has ls 4 [(0, .ref (ad 0)), (1, .int (clB (V 3) k)), (2, .int (dk k))] → W p l e rmX2_climb s m a below meth c H locs 0 0 Q (F0 m 5 ls []) := by
    intro k
    induction k with
    | zero =>
      intro H locs ls hk hP hS hl
      refine lv_iload_n hx hb dX2_climb_5 rfl (lv_at hl 2 rfl) ?_
      refine lv_if_lt (tgt := 47) hx hb dX2_climb_6 (by decide) (fun _ => ?_) (fun c9 => absurd (show dk 0 < 0 by decide) c9)
      refine lv_aload_n hx hb dX2_climb_47 rfl (lv_at hl 0 rfl) ?_
      refine lv_dup hx hb dX2_climb_48 rfl ?_
      have hin2 : ∀ w ∈ u_ws RX2 TX2 10, w ∈ wsX2_climb := by decide +kernel
      have hf61 := hts (.fieldLink RX2 61 "CoracleMakers$River" "spawned" "I") (by decide +kernel)
      refine va_get (D := D) (ci := 2) (v := .int ((va_up V 3 (clR (V 3) 0)) 0 5)) (C := RX2) (T := TX2) (N := 10) hx hb hts hin2 hown hK hP 0 (wf_at (by decide) rfl) rfl 9 (by decide) hf61 (fun _ h9 => h9) rfl dX2_climb_49 ?_
      refine lv_iload_n hx hb dX2_climb_52 rfl (lv_at hl 1 rfl) ?_
      refine lv_iadd hx hb dX2_climb_53 ?_
      refine lv_topi (fun x_33 ex_33 => ?_)
      obtain ⟨V14, hV14⟩ : ∃ z, z = va_up (va_up V 3 (clR (V 3) 0)) 0 (upd ((va_up V 3 (clR (V 3) 0)) 0) 5 x_33) := ⟨_, rfl⟩
      refine va_put (D := D) (ci := 2) (v := .int x_33) (ty := .int) (C := RX2) (T := TX2) (N := 10) hx hb hts hin2 tyX2 tyX2_ok nmX2 hown hK hP (aD_D hD (rv_fst y ad (va_up V 3 (clR (V 3) 0)))) hS 0 (wf_at (by decide) rfl) rfl 9 (by decide) hf61 (fun _ h9 => h9) rfl (by decide +kernel) rfl rfl (Nat.le_of_ble_eq_true rfl) dX2_climb_54 (fun H locs hP _ hS => ?_)
      have hP : va_P D vwCl (rvW y ad V14) H := (by rw [hV14]; exact P_eq (rv_set (k := 0) (upd ((va_up V 3 (clR (V 3) 0)) 0) 5 x_33) rfl) hP)
      have hP : va_P D vwCl (rvW y ad (clV V)) H := (by subst hV14 ex_33; exact hP)
      subst hQ
      exact W.vret hx hb hr (fun t ht hW => ⟨⟨(), rfl, trivial, bp_at hK hN hP t ht hW⟩, hS.F ht⟩) hS.2.2 dX2_climb_57
    | succ j ih =>
      intro H locs ls hk hP hS hl
      have ei : ix (nI j) = j := nI_clamp (by omega)
      have hj : j < 16 := by omega
      have hl : lv_has ls 4 [(0, .ref (ad 0)), (1, .int (clB (V 3) (j + 1))), (2, .int (nI j))] := hl
      refine lv_iload_n hx hb dX2_climb_5 rfl (lv_at hl 2 rfl) ?_
      refine lv_if_lt (tgt := 47) hx hb dX2_climb_6 (by decide) (fun c9 => absurd c9 (nI_pos (n := j) (by omega))) (fun _ => ?_)
      refine lv_aload_n hx hb dX2_climb_9 rfl (lv_at hl 0 rfl) ?_
      have hin2 : ∀ w ∈ u_ws RX2 TX2 10, w ∈ wsX2_climb := by decide +kernel
      have hf23 := hts (.fieldLink RX2 23 "CoracleMakers$River" "salmon" "[I") (by decide +kernel)
      refine va_get (D := D) (ci := 2) (v := .ref (ad 3)) (C := RX2) (T := TX2) (N := 10) hx hb hts hin2 hown hK hP 0 (wf_at (by decide) rfl) rfl 2 (by decide) hf23 (fun _ h9 => h9) rfl dX2_climb_10 ?_
      refine lv_iload_n hx hb dX2_climb_13 rfl (lv_at hl 2 rfl) ?_
      refine va_iald hx hb hK hP 3 0 (wf_at (by decide) rfl) rfl (vp_in_nI hj (by decide)) dX2_climb_14 ?_
      rw [show (nI j).toNatClampNeg = j from ei, cl_at]
      refine lv_iconst (v := 2) hx hb dX2_climb_15 (by decide) ?_
      refine lv_idiv hx hb dX2_climb_16 (by decide) ?_
      refine lv_istore_n (lv' := [(3, .int ((V 3 j) / 2)), (0, .ref (ad 0)), (1, .int (clB (V 3) (j + 1))), (2, .int (nI j))]) hx hb dX2_climb_17 rfl hl (by decide) rfl (fun ls hl => ?_)
      refine lv_aload_n hx hb dX2_climb_18 rfl (lv_at hl 1 rfl) ?_
      refine va_get (D := D) (ci := 2) (v := .ref (ad 3)) (C := RX2) (T := TX2) (N := 10) hx hb hts hin2 hown hK hP 0 (wf_at (by decide) rfl) rfl 2 (by decide) hf23 (fun _ h9 => h9) rfl dX2_climb_19 ?_
      refine lv_iload_n hx hb dX2_climb_22 rfl (lv_at hl 3 rfl) ?_
      refine lv_bipush (v := 60) hx hb dX2_climb_23 (by decide) ?_
      refine lv_aload_n hx hb dX2_climb_25 rfl (lv_at hl 1 rfl) ?_
      refine va_get (D := D) (ci := 2) (v := .ref (ad 3)) (C := RX2) (T := TX2) (N := 10) hx hb hts hin2 hown hK hP 0 (wf_at (by decide) rfl) rfl 2 (by decide) hf23 (fun _ h9 => h9) rfl dX2_climb_26 ?_
      refine lv_iload_n hx hb dX2_climb_29 rfl (lv_at hl 3 rfl) ?_
      refine va_iald hx hb hK hP 3 0 (wf_at (by decide) rfl) rfl (vp_in_nI hj (by decide)) dX2_climb_30 ?_
      rw [show (nI j).toNatClampNeg = j from ei, cl_at]
      refine lv_iload_n hx hb dX2_climb_31 rfl (lv_at hl 0 rfl) ?_
      refine lv_isub hx hb dX2_climb_32 ?_
      refine lv_iload_n hx hb dX2_climb_33 rfl (lv_at hl 2 rfl) ?_
      refine lv_iadd hx hb dX2_climb_34 ?_
      refine va_mmin hx hb (hml.trans hl.1.symm) hown (hts (.methodLink RX2 105 Lib.Math.min.name) (by decide +kernel)) (hts (.static Lib.Math.min.name) (by decide +kernel)) (hts (.initialized "java/lang/Math") (by decide +kernel)) (hts (.code Lib.Math.min.name Lib.Math.min.code 2 (some .int)) (by decide +kernel)) (Nat.le_of_ble_eq_true rfl) (Nat.le_of_ble_eq_true rfl) (Nat.le_of_ble_eq_true rfl) (Nat.le_of_ble_eq_true rfl) dX2_climb_35 ?_
      refine W.eq (g2 := F0 m 38 ls (.int (mn 60 (((V 3 j) - ((V 3 j) / 2)) + (clB (V 3) (j + 1)))) :: .int (nI j) :: .ref (ad 3) :: [])) rfl ?_
      refine lv_topi (fun x_34 ex_34 => ?_)
      obtain ⟨V15, hV15⟩ : ∃ z, z = va_up (va_up V 3 (clR (V 3) (j + 1))) 3 (upd ((va_up V 3 (clR (V 3) (j + 1))) 3) (ix (nI j)) x_34) := ⟨_, rfl⟩
      refine va_iast hx hb hK hP (aD_D hD (rv_fst y ad (va_up V 3 (clR (V 3) (j + 1))))) hS 3 0 (wf_at (by decide) rfl) rfl (vp_in_nI hj (by decide)) dX2_climb_38 (fun H locs hP _ hS => ?_)
      have hP : va_P D vwCl (rvW y ad V15) H := (by rw [hV15]; exact P_eq (rv_set (k := 3) (upd ((va_up V 3 (clR (V 3) (j + 1))) 3) (ix (nI j)) x_34) rfl) hP)
      refine lv_iload_n hx hb dX2_climb_39 rfl (lv_at hl 0 rfl) ?_
      refine lv_istore_n (lv' := [(1, .int ((V 3 j) / 2)), (3, .int ((V 3 j) / 2)), (0, .ref (ad 0)), (2, .int (nI j))]) hx hb dX2_climb_40 rfl hl (by decide) rfl (fun ls hl => ?_)
      have e9 : V15 = va_up V 3 (clR (V 3) j) := by rw [hV15, ei, ex_34]; exact cl_step V hj
      rw [e9] at hP
      refine lv_iinc (v := dk j) (lv' := [(2, .int (dk j)), (1, .int ((V 3 j) / 2)), (3, .int ((V 3 j) / 2)), (0, .ref (ad 0))]) hx hb dX2_climb_41 hl (k := 3) rfl (show nI j + Int32.ofInt (-1) = dk j from dk_m1 j) (by decide) rfl (fun ls hl => ?_)
      refine lv_goto (tgt := 5) hx hb dX2_climb_44 (by decide) ?_
      have hl : lv_has ls 4 [(2, .int (dk j)), (1, .int ((V 3 j) / 2)), (3, .int ((V 3 j) / 2)), (0, .ref (ad 0))] := hl
      have e8 : V 3 j / 2 = clB (V 3) j := by unfold clB; rw [if_neg (by omega)]
      rw [e8] at hl
      exact ih _ _ _ (by omega) hP hS (lv_sub hl [3, 1, 0] rfl)
  exact lq9 16 _ _ ls (Nat.le_refl _) (by rw [cl_16]; exact hP) hS (lv_sub hl [2, 1, 0] rfl)
abbrev rmJ9_floorMod_7cf53 : Room := { frames := 0, cells := 0, slots := 0, locals := 0 }
set_option maxHeartbeats 4000000 in
set_option maxRecDepth 100000 in
/-- Math.floorMod(x, z) -/
theorem c_J9_floorMod_7cf53 (l : Launch) (D : va_G) (y : Nat → ClassId) (x z : Int32) (hz : ¬ z = 0) : RdI l D y yJ9_floorMod_7cf53 wsJ9_floorMod_7cf53 rmJ9_floorMod_7cf53 [.int x, .int z] ([]) (fmF x z) := by
  refine mRF (C := RJ9) (cc := cJ9_floorMod_7cf53) (maxL := 3) (ret := (some .int)) (by decide +kernel) rfl rfl (Nat.le_of_ble_eq_true rfl) ?_
  intro p e s m a below meth c ls Q hQ hx hb hr hts hown hlocks hml hP hK hN hl
  have hl : lv_has ls 3 [(0, .int x), (1, .int z)] := hl
  refine lv_iload_n hx hb dJ9_floorMod_7cf53_0 rfl (lv_at hl 0 rfl) ?_
  refine lv_iload_n hx hb dJ9_floorMod_7cf53_1 rfl (lv_at hl 1 rfl) ?_
  refine lv_irem hx hb dJ9_floorMod_7cf53_2 hz ?_
  refine lv_istore_n (lv' := [(2, .int (x - x / z * z)), (0, .int x), (1, .int z)]) hx hb dJ9_floorMod_7cf53_3 rfl hl (by decide) rfl (fun ls hl => ?_)
  refine lv_iload_n hx hb dJ9_floorMod_7cf53_4 rfl (lv_at hl 1 rfl) ?_
  refine lv_iload_n hx hb dJ9_floorMod_7cf53_5 rfl (lv_at hl 2 rfl) ?_
  refine lv_ixor hx hb dJ9_floorMod_7cf53_6 ?_
  refine lv_if_ge (tgt := 18) hx hb dJ9_floorMod_7cf53_7 (by decide) (fun c_35 => ?_) (fun c_35 => ?_)
  · refine lv_iload_n hx hb dJ9_floorMod_7cf53_18 rfl (lv_at hl 0 rfl) ?_
    subst hQ
    exact W.iret (v := x - x / z * z) hx hb hr (fun t ht hW => ⟨_, rfl, (by simp [fmF, c_35]), ht⟩) (fun _ h => by cases h) dJ9_floorMod_7cf53_19
  · refine lv_iload_n hx hb dJ9_floorMod_7cf53_10 rfl (lv_at hl 0 rfl) ?_
    refine lv_if_eq (tgt := 18) hx hb dJ9_floorMod_7cf53_11 (by decide) (fun c_36 => ?_) (fun c_36 => ?_)
    · refine lv_iload_n hx hb dJ9_floorMod_7cf53_18 rfl (lv_at hl 0 rfl) ?_
      subst hQ
      exact W.iret (v := x - x / z * z) hx hb hr (fun t ht hW => ⟨_, rfl, (by simp [fmF, c_35, c_36]), ht⟩) (fun _ h => by cases h) dJ9_floorMod_7cf53_19
    · refine lv_iload_n hx hb dJ9_floorMod_7cf53_14 rfl (lv_at hl 0 rfl) ?_
      refine lv_iload_n hx hb dJ9_floorMod_7cf53_15 rfl (lv_at hl 2 rfl) ?_
      refine lv_iadd hx hb dJ9_floorMod_7cf53_16 ?_
      subst hQ
      exact W.iret (v := (x - x / z * z) + z) hx hb hr (fun t ht hW => ⟨_, rfl, (by simp [fmF, c_35, c_36]), ht⟩) (fun _ h => by cases h) dJ9_floorMod_7cf53_17
abbrev rmX2_liveHour : Room := { frames := 4, cells := 0, slots := 0, locals := 95 }
set_option maxHeartbeats 4000000 in
set_option maxRecDepth 100000 in
/-- liveHour(drift, run) -/
theorem c_X2_liveHour (l : Launch) (D : va_G) (y : Nat → ClassId) (sz : Nat) (ad : Nat → Nat) (V : Nat → Nat → Int32) (d r : Int32) (ht : vp_in (V 0 3) 4) (hI : rvI (hA1 V d)) : WrI l D y yX2_liveHour wsX2_liveHour rmX2_liveHour [.ref (ad 0), .int d, .int r] (rvW y ad V) sz (hrC V d) (rvW y ad (hrV V d r)) := by
  refine mW (fun A => va_Qi (fun r (_ : Unit) => r = (hrC V d)) (fun _ t9 => Bp D y (rvW y ad (hrV V d r)) t9) A) (C := RX2) (cc := cX2_liveHour) (maxL := 5) (ret := (some .int)) (by decide) rfl rfl (Nat.le_of_ble_eq_true rfl) ?_
  intro p e s m a below meth c ls A Q hQ hsz hx hb hr hts hown hlocks hin hml hP hK hN hD hA hS hl
  have hl : lv_has ls 5 [(0, .ref (ad 0)), (1, .int d), (2, .int r)] := hl
  rw [rv_fst] at hD
  obtain ⟨t, ht9⟩ : ∃ t, t = ix (V 0 3) := ⟨_, rfl⟩
  have ht3 : t ≤ 3 := by rw [ht9]; exact Nat.le_of_lt_succ (in_ix ht)
  have htt : hA1 V d 0 3 = nI t := by rw [ht9]; exact (in_nI ht (by decide) : V 0 3 = _)
  refine lv_aload_n hx hb dX2_liveHour_0 rfl (lv_at hl 0 rfl) ?_
  refine lv_iload_n hx hb dX2_liveHour_1 rfl (lv_at hl 1 rfl) ?_
  refine cWV_V (As := [.int d]) (rest := []) ⟨hx, hb, hml, hown, hts⟩ (c_X2_moveAll l D y _ ad V d) (cwV 1 hts gX2_liveHour_X2_moveAll rfl rfl rfl (by decide +kernel) ⟨Nat.le_of_ble_eq_true rfl, Nat.le_of_ble_eq_true rfl⟩) hK hN hP (by rw [rv_fst]; exact hD) hS hA (va_recv hK hP (ci := 2) (q0 := 0) rfl (wf_at (by decide) rfl)) rfl hl.1 rfl (Nat.le_of_ble_eq_true rfl) dX2_liveHour_2 ⟨Nat.le_of_ble_eq_true rfl, Nat.le_of_ble_eq_true rfl⟩ (fun H locs hP9 hk9 hS => ?_)
  have hP : va_P D vwCl (rvW y ad (hA1 V d)) H := hP9
  refine lv_iconst (v := 0) hx hb dX2_liveHour_5 (by decide) ?_
  refine lv_istore_n (lv' := [(3, .int 0), (0, .ref (ad 0)), (1, .int d), (2, .int r)]) hx hb dX2_liveHour_6 rfl hl (by decide) rfl (fun ls hl => ?_)
  refine lv_iconst (v := 0) hx hb dX2_liveHour_7 (by decide) ?_
  refine lv_istore (lv' := [(4, .int 0), (3, .int 0), (0, .ref (ad 0)), (1, .int d), (2, .int r)]) hx hb dX2_liveHour_8 hl (by decide) rfl (fun ls hl => ?_)
  have hl : lv_has ls 5 [(4, .int 0), (3, .int (dnC (hA1 V d) 0)), (0, .ref (ad 0)), (1, .int d), (2, .int r)] := hl
  have hl : lv_has ls 5 [(4, .int (nI 0)), (3, .int (dnC (hA1 V d) 0)), (0, .ref (ad 0)), (1, .int d), (2, .int r)] := hl
  have lq8 : ∀ (n i : Nat) (H : Heap) (locs : List Loc) (ls : Array Slot), t - i < n → i ≤ t → va_P D vwCl (rvW y ad (dnS (hA1 V d) i)) H → va_S A s.heap H locs → lv_has ls 5 [(0, .ref (ad 0)), (1, .int d), (2, .int r), (3, .int (dnC (hA1 V d) i)), (4, .int (nI i))] → W p l e rmX2_liveHour s m a below meth c H locs 0 0 Q (F0 m 10 ls []) := by
    intro n
    induction n with
    | zero => intro i H locs ls hn; exact absurd hn (Nat.not_lt_zero _)
    | succ n ih =>
      intro i H locs ls hn hi hP hS hl
      rcases Nat.lt_or_ge i t with hiN | hiN
      · have hi3 : i < 3 := by omega
        have e0 : dnS (hA1 V d) i 0 3 = nI t := (dn_0 (hA1 V d) 3 i).trans htt
        have ei : ix (nI i) = i := nI_clamp (by omega)
        refine lv_iload hx hb dX2_liveHour_10 (lv_at hl 4 rfl) ?_
        refine lv_aload_n hx hb dX2_liveHour_12 rfl (lv_at hl 0 rfl) ?_
        have hin2 : ∀ w ∈ u_ws RX2 TX2 10, w ∈ wsX2_liveHour := by decide +kernel
        have hf55 := hts (.fieldLink RX2 55 "CoracleMakers$River" "tied" "I") (by decide +kernel)
        refine va_get (D := D) (ci := 2) (v := .int ((dnS (hA1 V d) i) 0 3)) (C := RX2) (T := TX2) (N := 10) hx hb hts hin2 hown hK hP 0 (wf_at (by decide) rfl) rfl 7 (by decide) hf55 (fun _ h9 => h9) rfl dX2_liveHour_13 ?_
        refine lv_icmp_ge (tgt := 38) hx hb dX2_liveHour_16 (by decide) (fun c9 => absurd c9 (by rw [e0]; exact nI_ge hiN (by omega))) (fun _ => ?_)
        refine lv_iload_n hx hb dX2_liveHour_19 rfl (lv_at hl 3 rfl) ?_
        refine lv_aload_n hx hb dX2_liveHour_20 rfl (lv_at hl 0 rfl) ?_
        refine lv_aload_n hx hb dX2_liveHour_21 rfl (lv_at hl 0 rfl) ?_
        refine lv_iload hx hb dX2_liveHour_22 (lv_at hl 4 rfl) ?_
        refine cRR_V (As := [.int (nI i)]) (rest := [.ref (ad 0), .int (dnC (hA1 V d) i)]) ⟨hx, hb, hml, hown, hts⟩ (c_X2_netOf l D y ad (dnS (hA1 V d) i) (nI i) (vp_in_nI hi3 (by decide))) (cwV 1 hts gX2_liveHour_X2_netOf rfl rfl rfl (by decide +kernel) ⟨Nat.le_of_ble_eq_true rfl, Nat.le_of_ble_eq_true rfl⟩) hK hN hP (va_recv hK hP (ci := 2) (q0 := 0) rfl (wf_at (by decide) rfl)) rfl hl.1 rfl (Nat.le_of_ble_eq_true rfl) dX2_liveHour_24 ⟨Nat.le_of_ble_eq_true rfl, Nat.le_of_ble_eq_true rfl⟩ ?_
        rw [ei]
        refine cWI_V (As := [.ref (ad (i + 11))]) (rest := [.int (dnC (hA1 V d) i)]) ⟨hx, hb, hml, hown, hts⟩ (c_X2_draw l D y _ ad (dnS (hA1 V d) i) i hi3 (rvI_dn hI i)) (cwV 1 hts gX2_liveHour_X2_draw rfl rfl rfl (by decide +kernel) ⟨Nat.le_of_ble_eq_true rfl, Nat.le_of_ble_eq_true rfl⟩) hK hN hP (by rw [rv_fst]; exact hD) hS hA (va_recv hK hP (ci := 2) (q0 := 0) rfl (wf_at (by decide) rfl)) rfl hl.1 rfl (Nat.le_of_ble_eq_true rfl) dX2_liveHour_27 ⟨Nat.le_of_ble_eq_true rfl, Nat.le_of_ble_eq_true rfl⟩ (fun H locs hP9 hk9 hS => ?_)
        have hP : va_P D vwCl (rvW y ad (dnS (hA1 V d) (i + 1))) H := hP9
        refine lv_iadd hx hb dX2_liveHour_30 ?_
        refine lv_istore_n (lv' := [(3, .int ((dnC (hA1 V d) i) + (wcF (dnS (hA1 V d) i) i))), (0, .ref (ad 0)), (1, .int d), (2, .int r), (4, .int (nI i))]) hx hb dX2_liveHour_31 rfl hl (by decide) rfl (fun ls hl => ?_)
        rw [show dnC (hA1 V d) i + wcF (dnS (hA1 V d) i) i = dnC (hA1 V d) (i + 1) from rfl] at hl
        refine lv_iinc (v := nI (i + 1)) (lv' := [(4, .int (nI (i + 1))), (3, .int ((dnC (hA1 V d) i) + (wcF (dnS (hA1 V d) i) i))), (0, .ref (ad 0)), (1, .int d), (2, .int r)]) hx hb dX2_liveHour_32 hl (k := 4) rfl (by first | rfl | exact (nI_1 i)) (by decide) rfl (fun ls hl => ?_)
        refine lv_goto (tgt := 10) hx hb dX2_liveHour_35 (by decide) ?_
        exact ih (i + 1) _ _ _ (by omega) (by omega) hP hS (lv_sub hl [2, 3, 4, 1, 0] rfl)
      · have e9i : t = i := by omega
        subst e9i
        have e0 : dnS (hA1 V d) t 0 3 = nI t := (dn_0 (hA1 V d) 3 t).trans htt
        refine lv_iload hx hb dX2_liveHour_10 (lv_at hl 4 rfl) ?_
        refine lv_aload_n hx hb dX2_liveHour_12 rfl (lv_at hl 0 rfl) ?_
        have hin2 : ∀ w ∈ u_ws RX2 TX2 10, w ∈ wsX2_liveHour := by decide +kernel
        have hf55 := hts (.fieldLink RX2 55 "CoracleMakers$River" "tied" "I") (by decide +kernel)
        refine va_get (D := D) (ci := 2) (v := .int ((dnS (hA1 V d) t) 0 3)) (C := RX2) (T := TX2) (N := 10) hx hb hts hin2 hown hK hP 0 (wf_at (by decide) rfl) rfl 7 (by decide) hf55 (fun _ h9 => h9) rfl dX2_liveHour_13 ?_
        refine lv_icmp_ge (tgt := 38) hx hb dX2_liveHour_16 (by decide) (fun _ => ?_) (fun c9 => absurd (by rw [e0]; exact nI_le (Nat.le_refl _) (by omega)) c9)
        subst ht9
        have hl : lv_has ls 5 [(0, .ref (ad 0)), (1, .int d), (2, .int r), (3, .int (hrC V d)), (4, .int (nI (ix (V 0 3))))] := hl
        have hP : va_P D vwCl (rvW y ad (hA2 V d)) H := hP
        refine lv_aload_n hx hb dX2_liveHour_38 rfl (lv_at hl 0 rfl) ?_
        refine cWV_V (As := []) (rest := []) ⟨hx, hb, hml, hown, hts⟩ (c_X2_wearAll l D y _ ad (hA2 V d)) (cwV 0 hts gX2_liveHour_X2_wearAll rfl rfl rfl (by decide +kernel) ⟨Nat.le_of_ble_eq_true rfl, Nat.le_of_ble_eq_true rfl⟩) hK hN hP (by rw [rv_fst]; exact hD) hS hA (va_recv hK hP (ci := 2) (q0 := 0) rfl (wf_at (by decide) rfl)) rfl hl.1 rfl (Nat.le_of_ble_eq_true rfl) dX2_liveHour_39 ⟨Nat.le_of_ble_eq_true rfl, Nat.le_of_ble_eq_true rfl⟩ (fun H locs hP9 hk9 hS => ?_)
        have hP : va_P D vwCl (rvW y ad (hA3 V d)) H := hP9
        refine lv_aload_n hx hb dX2_liveHour_42 rfl (lv_at hl 0 rfl) ?_
        have hf49 := hts (.fieldLink RX2 49 "CoracleMakers$River" "hour" "I") (by decide +kernel)
        refine va_get (D := D) (ci := 2) (v := .int ((hA3 V d) 0 0)) (C := RX2) (T := TX2) (N := 10) hx hb hts hin2 hown hK hP 0 (wf_at (by decide) rfl) rfl 4 (by decide) hf49 (fun _ h9 => h9) rfl dX2_liveHour_43 ?_
        refine lv_iconst (v := 4) hx hb dX2_liveHour_46 (by decide) ?_
        refine cRI_S (As := [.int ((hA3 V d) 0 0), .int 4]) (rest := []) ⟨hx, hb, hml, hown, hts⟩ (c_J9_floorMod_7cf53 l D y (hA3 V d 0 0) 4 (by decide)) (va_cwS 2 hts gX2_liveHour_J9_floorMod_7cf53 rfl rfl rfl (by decide +kernel) ⟨Nat.le_of_ble_eq_true rfl, Nat.le_of_ble_eq_true rfl⟩) hK hN (P_nil D vwCl _) rfl hl.1 rfl (Nat.le_of_ble_eq_true rfl) dX2_liveHour_47 ⟨Nat.le_of_ble_eq_true rfl, Nat.le_of_ble_eq_true rfl⟩ ?_
        refine lv_iconst (v := 3) hx hb dX2_liveHour_50 (by decide) ?_
        refine lv_icmp_ne (tgt := 58) hx hb dX2_liveHour_51 (by decide) (fun c_37 => ?_) (fun c_37 => ?_)
        · have e9 : hA3 V d = hA4 V d := by unfold hA4; rw [if_neg c_37]
          rw [e9] at hP
          refine lv_aload_n hx hb dX2_liveHour_58 rfl (lv_at hl 0 rfl) ?_
          have hf23 := hts (.fieldLink RX2 23 "CoracleMakers$River" "salmon" "[I") (by decide +kernel)
          refine va_get (D := D) (ci := 2) (v := .ref (ad 3)) (C := RX2) (T := TX2) (N := 10) hx hb hts hin2 hown hK hP 0 (wf_at (by decide) rfl) rfl 2 (by decide) hf23 (fun _ h9 => h9) rfl dX2_liveHour_59 ?_
          refine lv_bipush (v := 15) hx hb dX2_liveHour_62 (by decide) ?_
          refine lv_bipush (v := 60) hx hb dX2_liveHour_64 (by decide) ?_
          refine lv_aload_n hx hb dX2_liveHour_66 rfl (lv_at hl 0 rfl) ?_
          refine va_get (D := D) (ci := 2) (v := .ref (ad 3)) (C := RX2) (T := TX2) (N := 10) hx hb hts hin2 hown hK hP 0 (wf_at (by decide) rfl) rfl 2 (by decide) hf23 (fun _ h9 => h9) rfl dX2_liveHour_67 ?_
          refine lv_bipush (v := 15) hx hb dX2_liveHour_70 (by decide) ?_
          refine va_iald hx hb hK hP 3 0 (wf_at (by decide) rfl) rfl (show vp_in (15 : Int32) 16 from vp_in_nI (n := 15) (by decide) (by decide)) dX2_liveHour_72 ?_
          refine W.eq (g2 := F0 m 73 ls (.int ((hA4 V d) 3 15) :: .int 60 :: .int 15 :: .ref (ad 3) :: [])) rfl ?_
          refine lv_iload_n hx hb dX2_liveHour_73 rfl (lv_at hl 2 rfl) ?_
          refine lv_iadd hx hb dX2_liveHour_74 ?_
          refine va_mmin hx hb (hml.trans hl.1.symm) hown (hts (.methodLink RX2 105 Lib.Math.min.name) (by decide +kernel)) (hts (.static Lib.Math.min.name) (by decide +kernel)) (hts (.initialized "java/lang/Math") (by decide +kernel)) (hts (.code Lib.Math.min.name Lib.Math.min.code 2 (some .int)) (by decide +kernel)) (Nat.le_of_ble_eq_true rfl) (Nat.le_of_ble_eq_true rfl) (Nat.le_of_ble_eq_true rfl) (Nat.le_of_ble_eq_true rfl) dX2_liveHour_75 ?_
          refine W.eq (g2 := F0 m 78 ls (.int (mn 60 (((hA4 V d) 3 15) + r)) :: .int 15 :: .ref (ad 3) :: [])) rfl ?_
          refine lv_topi (fun x_38 ex_38 => ?_)
          obtain ⟨V16, hV16⟩ : ∃ z, z = va_up (hA4 V d) 3 (upd ((hA4 V d) 3) 15 x_38) := ⟨_, rfl⟩
          refine va_iast hx hb hK hP (aD_D hD (rv_fst y ad (hA4 V d))) hS 3 0 (wf_at (by decide) rfl) rfl (show vp_in (15 : Int32) 16 from vp_in_nI (n := 15) (by decide) (by decide)) dX2_liveHour_78 (fun H locs hP _ hS => ?_)
          have hP : va_P D vwCl (rvW y ad V16) H := (by rw [hV16]; exact P_eq (rv_set (k := 3) (upd ((hA4 V d) 3) 15 x_38) rfl) hP)
          refine lv_aload_n hx hb dX2_liveHour_79 rfl (lv_at hl 0 rfl) ?_
          refine lv_dup hx hb dX2_liveHour_80 rfl ?_
          refine va_get (D := D) (ci := 2) (v := .int (V16 0 0)) (C := RX2) (T := TX2) (N := 10) hx hb hts hin2 hown hK hP 0 (wf_at (by decide) rfl) rfl 4 (by decide) hf49 (fun _ h9 => h9) rfl dX2_liveHour_81 ?_
          refine lv_iconst (v := 1) hx hb dX2_liveHour_84 (by decide) ?_
          refine lv_iadd hx hb dX2_liveHour_85 ?_
          refine lv_topi (fun x_39 ex_39 => ?_)
          obtain ⟨V17, hV17⟩ : ∃ z, z = va_up V16 0 (upd (V16 0) 0 x_39) := ⟨_, rfl⟩
          refine va_put (D := D) (ci := 2) (v := .int x_39) (ty := .int) (C := RX2) (T := TX2) (N := 10) hx hb hts hin2 tyX2 tyX2_ok nmX2 hown hK hP (aD_D hD (rv_fst y ad V16)) hS 0 (wf_at (by decide) rfl) rfl 4 (by decide) hf49 (fun _ h9 => h9) rfl (by decide +kernel) rfl rfl (Nat.le_of_ble_eq_true rfl) dX2_liveHour_86 (fun H locs hP _ hS => ?_)
          have hP : va_P D vwCl (rvW y ad V17) H := (by rw [hV17]; exact P_eq (rv_set (k := 0) (upd (V16 0) 0 x_39) rfl) hP)
          refine lv_iload_n hx hb dX2_liveHour_89 rfl (lv_at hl 3 rfl) ?_
          have hP : va_P D vwCl (rvW y ad (hrV V d r)) H := (by subst hV17 ex_39 hV16 ex_38; exact hP)
          subst hQ
          exact W.iret (v := hrC V d) hx hb hr (fun t ht hW => ⟨⟨_, (), rfl, rfl, bp_at hK hN hP t ht hW⟩, hS.F ht⟩) hS.2.2 dX2_liveHour_90
        · refine lv_aload_n hx hb dX2_liveHour_54 rfl (lv_at hl 0 rfl) ?_
          refine cWV_V (As := []) (rest := []) ⟨hx, hb, hml, hown, hts⟩ (c_X2_climb l D y _ ad (hA3 V d)) (cwV 0 hts gX2_liveHour_X2_climb rfl rfl rfl (by decide +kernel) ⟨Nat.le_of_ble_eq_true rfl, Nat.le_of_ble_eq_true rfl⟩) hK hN hP (by rw [rv_fst]; exact hD) hS hA (va_recv hK hP (ci := 2) (q0 := 0) rfl (wf_at (by decide) rfl)) rfl hl.1 rfl (Nat.le_of_ble_eq_true rfl) dX2_liveHour_55 ⟨Nat.le_of_ble_eq_true rfl, Nat.le_of_ble_eq_true rfl⟩ (fun H locs hP9 hk9 hS => ?_)
          have hP : va_P D vwCl (rvW y ad (clV (hA3 V d))) H := hP9
          have e9 : clV (hA3 V d) = hA4 V d := by unfold hA4; rw [if_pos c_37]
          rw [e9] at hP
          refine lv_aload_n hx hb dX2_liveHour_58 rfl (lv_at hl 0 rfl) ?_
          have hf23 := hts (.fieldLink RX2 23 "CoracleMakers$River" "salmon" "[I") (by decide +kernel)
          refine va_get (D := D) (ci := 2) (v := .ref (ad 3)) (C := RX2) (T := TX2) (N := 10) hx hb hts hin2 hown hK hP 0 (wf_at (by decide) rfl) rfl 2 (by decide) hf23 (fun _ h9 => h9) rfl dX2_liveHour_59 ?_
          refine lv_bipush (v := 15) hx hb dX2_liveHour_62 (by decide) ?_
          refine lv_bipush (v := 60) hx hb dX2_liveHour_64 (by decide) ?_
          refine lv_aload_n hx hb dX2_liveHour_66 rfl (lv_at hl 0 rfl) ?_
          refine va_get (D := D) (ci := 2) (v := .ref (ad 3)) (C := RX2) (T := TX2) (N := 10) hx hb hts hin2 hown hK hP 0 (wf_at (by decide) rfl) rfl 2 (by decide) hf23 (fun _ h9 => h9) rfl dX2_liveHour_67 ?_
          refine lv_bipush (v := 15) hx hb dX2_liveHour_70 (by decide) ?_
          refine va_iald hx hb hK hP 3 0 (wf_at (by decide) rfl) rfl (show vp_in (15 : Int32) 16 from vp_in_nI (n := 15) (by decide) (by decide)) dX2_liveHour_72 ?_
          refine W.eq (g2 := F0 m 73 ls (.int ((hA4 V d) 3 15) :: .int 60 :: .int 15 :: .ref (ad 3) :: [])) rfl ?_
          refine lv_iload_n hx hb dX2_liveHour_73 rfl (lv_at hl 2 rfl) ?_
          refine lv_iadd hx hb dX2_liveHour_74 ?_
          refine va_mmin hx hb (hml.trans hl.1.symm) hown (hts (.methodLink RX2 105 Lib.Math.min.name) (by decide +kernel)) (hts (.static Lib.Math.min.name) (by decide +kernel)) (hts (.initialized "java/lang/Math") (by decide +kernel)) (hts (.code Lib.Math.min.name Lib.Math.min.code 2 (some .int)) (by decide +kernel)) (Nat.le_of_ble_eq_true rfl) (Nat.le_of_ble_eq_true rfl) (Nat.le_of_ble_eq_true rfl) (Nat.le_of_ble_eq_true rfl) dX2_liveHour_75 ?_
          refine W.eq (g2 := F0 m 78 ls (.int (mn 60 (((hA4 V d) 3 15) + r)) :: .int 15 :: .ref (ad 3) :: [])) rfl ?_
          refine lv_topi (fun x_40 ex_40 => ?_)
          obtain ⟨V18, hV18⟩ : ∃ z, z = va_up (hA4 V d) 3 (upd ((hA4 V d) 3) 15 x_40) := ⟨_, rfl⟩
          refine va_iast hx hb hK hP (aD_D hD (rv_fst y ad (hA4 V d))) hS 3 0 (wf_at (by decide) rfl) rfl (show vp_in (15 : Int32) 16 from vp_in_nI (n := 15) (by decide) (by decide)) dX2_liveHour_78 (fun H locs hP _ hS => ?_)
          have hP : va_P D vwCl (rvW y ad V18) H := (by rw [hV18]; exact P_eq (rv_set (k := 3) (upd ((hA4 V d) 3) 15 x_40) rfl) hP)
          refine lv_aload_n hx hb dX2_liveHour_79 rfl (lv_at hl 0 rfl) ?_
          refine lv_dup hx hb dX2_liveHour_80 rfl ?_
          refine va_get (D := D) (ci := 2) (v := .int (V18 0 0)) (C := RX2) (T := TX2) (N := 10) hx hb hts hin2 hown hK hP 0 (wf_at (by decide) rfl) rfl 4 (by decide) hf49 (fun _ h9 => h9) rfl dX2_liveHour_81 ?_
          refine lv_iconst (v := 1) hx hb dX2_liveHour_84 (by decide) ?_
          refine lv_iadd hx hb dX2_liveHour_85 ?_
          refine lv_topi (fun x_41 ex_41 => ?_)
          obtain ⟨V19, hV19⟩ : ∃ z, z = va_up V18 0 (upd (V18 0) 0 x_41) := ⟨_, rfl⟩
          refine va_put (D := D) (ci := 2) (v := .int x_41) (ty := .int) (C := RX2) (T := TX2) (N := 10) hx hb hts hin2 tyX2 tyX2_ok nmX2 hown hK hP (aD_D hD (rv_fst y ad V18)) hS 0 (wf_at (by decide) rfl) rfl 4 (by decide) hf49 (fun _ h9 => h9) rfl (by decide +kernel) rfl rfl (Nat.le_of_ble_eq_true rfl) dX2_liveHour_86 (fun H locs hP _ hS => ?_)
          have hP : va_P D vwCl (rvW y ad V19) H := (by rw [hV19]; exact P_eq (rv_set (k := 0) (upd (V18 0) 0 x_41) rfl) hP)
          refine lv_iload_n hx hb dX2_liveHour_89 rfl (lv_at hl 3 rfl) ?_
          have hP : va_P D vwCl (rvW y ad (hrV V d r)) H := (by subst hV19 ex_41 hV18 ex_40; exact hP)
          subst hQ
          exact W.iret (v := hrC V d) hx hb hr (fun t ht hW => ⟨⟨_, (), rfl, rfl, bp_at hK hN hP t ht hW⟩, hS.F ht⟩) hS.2.2 dX2_liveHour_90
  exact lq8 (t + 1) 0 _ _ ls (by omega) (by omega) hP hS (lv_sub hl [2, 3, 4, 1, 0] rfl)
