/-! ===== constructors ===== -/
theorem K_uniq {D : va_G} {cl : List vw_C} {tys : List (ClassId × FieldType)} {s : State} (hK : va_K D cl tys s) {i j : Nat} {c1 c2 : ClassId} {ty : FieldType} (hi : tys[i]? = some (c1, ty)) (hj : tys[j]? = some (c2, ty)) : c1 = c2 := by
  have h1 := (hK.2 i _ hi).2
  have h2 := (hK.2 j _ hj).2
  have key : ∀ c, va_RA s c ty → s.vm.findClass ("[" ++ ty.toString) = some c := by
    intro c h
    cases ty with
    | object C => obtain ⟨_, _, _, _, _, h4⟩ := h; exact h4
    | _ => exact h
  exact Option.some.inj ((key c1 h1).symm.trans (key c2 h2))
section ICALL
variable {p : Program} {l : Launch} {e : Env} {R : Room} {s : State} {m : MethodId} {args : Array Value} {below : List Frame} {meth : Method} {c : Code} {H : Heap} {locs : List Loc} {cells slots : Nat} {Q : State → Prop}
variable {pc : Nat} {ls : Array Slot} {rest st0 As : List Value} {cc : ByteArray} {nL index maxL n : Nat} {own C host : String} {Ts ws : List Cond} {yM : MethodName} {bytes : ByteArray} {rm : Room} {b : Nat}
variable {D : va_G} {y : Nat → ClassId} {wc w1 : va_W} {A : Nat → Prop} {H0 : Heap}
theorem cWV_IN (S : CallFix p m c cc nL s args Ts own) (hM : WrV l D y yM ws rm (.ref b :: As) wc H.size w1) (cw : va_CN R s args own index yM host bytes maxL none ws rm 0 0 n ∧ yM.name = "<init>" ∧ (Cond.instanceMethod yM).before args s = true) (hK : va_K D vwCl (tyL y) s) (hN : NW s) (hP : va_P D vwCl wc H) (hDc : aD A (wc.map Prod.fst)) (hS : va_S A H0 H locs) (hA : ∀ q, H0.size ≤ q → A q)
    (hn : As.length = n) (hsize : ls.size = nL) (hstack : st0 = As.reverse ++ .ref b :: rest) (hW : (rest.map fun v => v.category).sum ≤ 8) (hdg : decode cc pc = .ok (.invokespecial index, 3)) (hf : cells + 0 ≤ R.cells ∧ slots + 0 ≤ R.slots)
    (kk : ∀ (H1 : Heap) (locs1 : List Loc), va_P D vwCl w1 H1 → (∀ q : Nat, q < H.size → ¬ aW wc H.size q → H1[q]? = H[q]?) → va_S A H0 H1 locs1 → W p l e R s m args below meth c H1 locs1 cells slots Q (F0 m (pc + 3) ls rest)) : W p l e R s m args below meth c H locs cells slots Q (F0 m pc ls st0) :=
  va_callv (va_runIN S hM cw ⟨Bw.blind, fun U hU hW => ⟨rfl, by rw [hU], bp_at hK hN hP U hU hW, aD_mono hDc (fun _ _ _ => trivial)⟩⟩ rfl hn hsize hstack (lv_room hW) hdg hf) hS (fun q _ h => aW_sub hDc hS hA (fun _ h => h) q h) (aW_sub hDc hS hA (fun _ h => h)) (fun u t H1 locs1 ht hvm hw hB hz hk hS1 => kk H1 locs1 (by rw [← ht]; exact hB.1) hk hS1)
end ICALL
/-- a constructor that makes cells: its world is W1 u, at the addresses l1 u, each its own or new -/
abbrev NwV {S : Type} (l : Launch) (D : va_G) (y : Nat → ClassId) (yM : MethodName) (ws : List Cond) (rm : Room) (mc ms : Nat) (av : List Value) (W0 : va_W) (sz : Nat) (P : S → Prop) (W1 : S → va_W) (l1 : S → List Nat) : Prop := Met l yM ws rm (va_Pc av (Bw D y W0 sz)) (va_Qv P (fun u t => Bp D y (W1 u) t ∧ aD (aW W0 sz) (l1 u)) (aW W0 sz)) mc ms (aW W0 sz)
abbrev rmX0_init : Room := { frames := 1, cells := 0, slots := 0, locals := 16 }
set_option maxHeartbeats 4000000 in
set_option maxRecDepth 100000 in
/-- Coracle() -/
theorem c_X0_init (l : Launch) (D : va_G) (y : Nat → ClassId) (sz : Nat) (h0 : Nat) (w : Nat → Int32) : WrV l D y yX0_init wsX0_init rmX0_init [.ref h0] (coW h0 w) sz (coW h0 (upd w 9 (-1))) := by
  refine mW (fun A => va_Qv (fun (_ : Unit) => True) (fun _ t9 => Bp D y (coW h0 (upd w 9 (-1))) t9) A) (C := RX0) (cc := cX0_init) (maxL := 1) (ret := none) (by decide) rfl rfl (Nat.le_of_ble_eq_true rfl) ?_
  intro p e s m a below meth c ls A Q hQ hsz hx hb hr hts hown hlocks hin hml hP hK hN hD hA hS hl
  have hl : lv_has ls 1 [(0, .ref h0)] := hl
  refine lv_aload_n hx hb dX0_init_0 rfl (lv_at hl 0 rfl) ?_
  refine W.objInit hx hb hown (hts (.methodLink RX0 3 objectInit) (by decide +kernel)) (hts (.instanceMethod objectInit) (by decide +kernel)) (hts (.code objectInit ⟨#[0xb1]⟩ 1 none) (by decide +kernel)) rfl (by rw [hml]; exact hl.1) rfl dX0_init_1 (Nat.le_of_ble_eq_true rfl) (Nat.le_of_ble_eq_true rfl) ?_
  refine W.eq (g2 := F0 m 4 ls ([])) rfl ?_
  refine lv_aload_n hx hb dX0_init_4 rfl (lv_at hl 0 rfl) ?_
  refine lv_iconst (v := (-1)) hx hb dX0_init_5 (by decide) ?_
  have hin0 : ∀ w ∈ u_ws RX0 TX0 10, w ∈ wsX0_init := by decide +kernel
  have hf9 := hts (.fieldLink RX0 9 "CoracleMakers$Coracle" "partner" "I") (by decide +kernel)
  refine va_put (D := D) (ci := 0) (v := .int (-1)) (ty := .int) (C := RX0) (T := TX0) (N := 10) hx hb hts hin0 tyX0 tyX0_ok nmX0 hown hK hP (aD_D hD rfl) hS 0 rfl rfl 9 (by decide) hf9 (fun _ h9 => h9) rfl (by decide +kernel) rfl rfl (Nat.le_of_ble_eq_true rfl) dX0_init_6 (fun H locs hP _ hS => ?_)
  have hP : va_P D vwCl [(h0, coE (upd w 9 (-1)))] H := hP
  subst hQ
  exact W.vret hx hb hr (fun t ht hW => ⟨⟨(), rfl, trivial, bp_at hK hN hP t ht hW⟩, hS.F ht⟩) hS.2.2 dX0_init_9
abbrev rmX1_init : Room := { frames := 1, cells := 0, slots := 0, locals := 16 }
set_option maxHeartbeats 4000000 in
set_option maxRecDepth 100000 in
/-- Net() -/
theorem c_X1_init (l : Launch) (D : va_G) (y : Nat → ClassId) (sz : Nat) (h0 : Nat) (w : Nat → Int32) : WrV l D y yX1_init wsX1_init rmX1_init [.ref h0] (neW h0 w) sz (neW h0 w) := by
  refine mW (fun A => va_Qv (fun (_ : Unit) => True) (fun _ t9 => Bp D y (neW h0 w) t9) A) (C := RX1) (cc := cX1_init) (maxL := 1) (ret := none) (by decide) rfl rfl (Nat.le_of_ble_eq_true rfl) ?_
  intro p e s m a below meth c ls A Q hQ hsz hx hb hr hts hown hlocks hin hml hP hK hN hD hA hS hl
  have hl : lv_has ls 1 [(0, .ref h0)] := hl
  refine lv_aload_n hx hb dX1_init_0 rfl (lv_at hl 0 rfl) ?_
  refine W.objInit hx hb hown (hts (.methodLink RX1 1 objectInit) (by decide +kernel)) (hts (.instanceMethod objectInit) (by decide +kernel)) (hts (.code objectInit ⟨#[0xb1]⟩ 1 none) (by decide +kernel)) rfl (by rw [hml]; exact hl.1) rfl dX1_init_1 (Nat.le_of_ble_eq_true rfl) (Nat.le_of_ble_eq_true rfl) ?_
  refine W.eq (g2 := F0 m 4 ls ([])) rfl ?_
  subst hQ
  exact W.vret hx hb hr (fun t ht hW => ⟨⟨(), rfl, trivial, bp_at hK hN hP t ht hW⟩, hS.F ht⟩) hS.2.2 dX1_init_4
/-- a River at first -/
def rv0 : Nat → Nat → Int32 := fun j i => if j = 0 then (if i = 1 then 12 else 0) else if j = 3 then 4 else if j = 4 then (if i = 3 then 50 else 3) else if 5 ≤ j ∧ j < 11 then (if i = 9 then -1 else 0) else 0
abbrev rmX2_init : Room := { frames := 2, cells := 13, slots := 98, locals := 36 }
set_option maxHeartbeats 8000000 in
set_option maxRecDepth 100000 in
/-- River() -/
theorem c_X2_init (l : Launch) (D : va_G) (y : Nat → ClassId) (sz : Nat) (h0 : Nat) : NwV (S := Nat → Nat) l D y yX2_init wsX2_init rmX2_init 13 98 [.ref h0] [(h0, .inr (2, [.null, .null, .null, .null, .int 0, .int 0, .int 0, .int 0, .int 0, .int 0]))] sz (fun ad => ad 0 = h0) (fun ad => rvW y ad rv0) (fun ad => wa 14 ad) := by
  refine mW (fun A => va_Qv (fun (ad : Nat → Nat) => ad 0 = h0) (fun ad t9 => Bp D y (rvW y ad rv0) t9 ∧ aD A (wa 14 ad)) A) (C := RX2) (cc := cX2_init) (maxL := 2) (ret := none) (by decide) rfl rfl (Nat.le_of_ble_eq_true rfl) ?_
  intro p e s m a below meth c ls A Q hQ hsz hx hb hr hts hown hlocks hin hml hP hK hN hD hA hS hl
  have hl : lv_has ls 2 [(0, .ref h0)] := hl
  refine lv_aload_n hx hb dX2_init_0 rfl (lv_at hl 0 rfl) ?_
  refine W.objInit hx hb hown (hts (.methodLink RX2 3 objectInit) (by decide +kernel)) (hts (.instanceMethod objectInit) (by decide +kernel)) (hts (.code objectInit ⟨#[0xb1]⟩ 1 none) (by decide +kernel)) rfl (by rw [hml]; exact hl.1) rfl dX2_init_1 (Nat.le_of_ble_eq_true rfl) (Nat.le_of_ble_eq_true rfl) ?_
  refine W.eq (g2 := F0 m 4 ls ([])) rfl ?_
  refine lv_aload_n hx hb dX2_init_4 rfl (lv_at hl 0 rfl) ?_
  refine lv_bipush (v := 6) hx hb dX2_init_5 (by decide) ?_
  refine va_newq (C := RX0) (N' := 6) hx hb hown (hts (.classLink RX2 9 RX0) (by decide +kernel)) hN.2.2.1 hK hP (aD_D hD rfl) hS hA (by decide) (by decide) (by decide) (Nat.le_of_ble_eq_true rfl) (Nat.le_of_ble_eq_true rfl) dX2_init_7 (fun q_107 cA H hK9 hP hD9 hS => ?_)
  have eA := K_uniq hK9 (i := 5) (j := 3) rfl rfl
  subst eA
  have hP : va_P D vwCl ([(h0, .inr (2, [.null, .null, .null, .null, .int 0, .int 0, .int 0, .int 0, .int 0, .int 0])), (q_107, .inl (y 3, 6, .inr (.inr (.inr (.inr (fun _ => none))))))] : va_W) H := hP
  have hD : aD A [h0, q_107] := aD_of hD9
  have hin2 : ∀ w ∈ u_ws RX2 TX2 10, w ∈ wsX2_init := by decide +kernel
  have hf11 := hts (.fieldLink RX2 11 "CoracleMakers$River" "coracles" "[LCoracleMakers$Coracle;") (by decide +kernel)
  refine va_putF (D := D) (ci := 2) (v := .ref q_107) (ty := (.array (.object "CoracleMakers$Coracle"))) (C := RX2) (T := TX2) (N := 10) hx hb hts hin2 tyX2 tyX2_ok nmX2 hown hK hP (aD_D hD rfl) hS 0 rfl rfl 0 (by decide) hf11 (fun _ h9 => h9) rfl hin rfl (by decide +kernel) rfl rfl (Nat.le_of_ble_eq_true rfl) dX2_init_10 (fun H locs hP _ hS => ?_)
  have hP : va_P D vwCl ([(h0, .inr (2, [.ref q_107, .null, .null, .null, .int 0, .int 0, .int 0, .int 0, .int 0, .int 0])), (q_107, .inl (y 3, 6, .inr (.inr (.inr (.inr (fun _ => none))))))] : va_W) H := hP
  refine lv_aload_n hx hb dX2_init_13 rfl (lv_at hl 0 rfl) ?_
  refine lv_iconst (v := 3) hx hb dX2_init_14 (by decide) ?_
  refine va_newq (C := RX1) (N' := 3) hx hb hown (hts (.classLink RX2 17 RX1) (by decide +kernel)) hN.2.2.2 hK hP (aD_D hD rfl) hS hA (by decide) (by decide) (by decide) (Nat.le_of_ble_eq_true rfl) (Nat.le_of_ble_eq_true rfl) dX2_init_15 (fun q_108 cA H hK9 hP hD9 hS => ?_)
  have eA := K_uniq hK9 (i := 5) (j := 4) rfl rfl
  subst eA
  have hP : va_P D vwCl ([(h0, .inr (2, [.ref q_107, .null, .null, .null, .int 0, .int 0, .int 0, .int 0, .int 0, .int 0])), (q_107, .inl (y 3, 6, .inr (.inr (.inr (.inr (fun _ => none)))))), (q_108, .inl (y 4, 3, .inr (.inr (.inr (.inr (fun _ => none))))))] : va_W) H := hP
  have hD : aD A [h0, q_107, q_108] := aD_of hD9
  have hf19 := hts (.fieldLink RX2 19 "CoracleMakers$River" "nets" "[LCoracleMakers$Net;") (by decide +kernel)
  refine va_putF (D := D) (ci := 2) (v := .ref q_108) (ty := (.array (.object "CoracleMakers$Net"))) (C := RX2) (T := TX2) (N := 10) hx hb hts hin2 tyX2 tyX2_ok nmX2 hown hK hP (aD_D hD rfl) hS 0 rfl rfl 1 (by decide) hf19 (fun _ h9 => h9) rfl hin rfl (by decide +kernel) rfl rfl (Nat.le_of_ble_eq_true rfl) dX2_init_18 (fun H locs hP _ hS => ?_)
  have hP : va_P D vwCl ([(h0, .inr (2, [.ref q_107, .ref q_108, .null, .null, .int 0, .int 0, .int 0, .int 0, .int 0, .int 0])), (q_107, .inl (y 3, 6, .inr (.inr (.inr (.inr (fun _ => none)))))), (q_108, .inl (y 4, 3, .inr (.inr (.inr (.inr (fun _ => none))))))] : va_W) H := hP
  refine lv_aload_n hx hb dX2_init_21 rfl (lv_at hl 0 rfl) ?_
  refine lv_bipush (v := 16) hx hb dX2_init_22 (by decide) ?_
  refine va_newa (atype := .int) (ty := .int) (a0 := (16, .inl (fun _ => 0))) (N' := 16) hx hb (hts (.arrayClass .int) (by decide +kernel)) rfl hK hP (aD_D hD rfl) hS hA (fun _ => rfl) (by decide) (by decide) (by decide) (Nat.le_of_ble_eq_true rfl) (Nat.le_of_ble_eq_true rfl) dX2_init_24 (fun q_109 cA H hK9 hP hD9 hS => ?_)
  have eA := K_uniq hK9 (i := 5) (j := 0) rfl rfl
  subst eA
  have hP : va_P D vwCl ([(h0, .inr (2, [.ref q_107, .ref q_108, .null, .null, .int 0, .int 0, .int 0, .int 0, .int 0, .int 0])), (q_107, .inl (y 3, 6, .inr (.inr (.inr (.inr (fun _ => none)))))), (q_108, .inl (y 4, 3, .inr (.inr (.inr (.inr (fun _ => none)))))), (q_109, .inl (y 0, 16, .inl (fun _ => 0)))] : va_W) H := hP
  have hD : aD A [h0, q_107, q_108, q_109] := aD_of hD9
  have hf23 := hts (.fieldLink RX2 23 "CoracleMakers$River" "salmon" "[I") (by decide +kernel)
  refine va_putF (D := D) (ci := 2) (v := .ref q_109) (ty := (.array .int)) (C := RX2) (T := TX2) (N := 10) hx hb hts hin2 tyX2 tyX2_ok nmX2 hown hK hP (aD_D hD rfl) hS 0 rfl rfl 2 (by decide) hf23 (fun _ h9 => h9) rfl hin rfl (by decide +kernel) rfl rfl (Nat.le_of_ble_eq_true rfl) dX2_init_26 (fun H locs hP _ hS => ?_)
  have hP : va_P D vwCl ([(h0, .inr (2, [.ref q_107, .ref q_108, .ref q_109, .null, .int 0, .int 0, .int 0, .int 0, .int 0, .int 0])), (q_107, .inl (y 3, 6, .inr (.inr (.inr (.inr (fun _ => none)))))), (q_108, .inl (y 4, 3, .inr (.inr (.inr (.inr (fun _ => none)))))), (q_109, .inl (y 0, 16, .inl (fun _ => 0)))] : va_W) H := hP
  refine lv_aload_n hx hb dX2_init_29 rfl (lv_at hl 0 rfl) ?_
  refine lv_iconst (v := 4) hx hb dX2_init_30 (by decide) ?_
  refine va_newa (atype := .int) (ty := .int) (a0 := (4, .inl (fun _ => 0))) (N' := 4) hx hb (hts (.arrayClass .int) (by decide +kernel)) rfl hK hP (aD_D hD rfl) hS hA (fun _ => rfl) (by decide) (by decide) (by decide) (Nat.le_of_ble_eq_true rfl) (Nat.le_of_ble_eq_true rfl) dX2_init_31 (fun q_110 cA H hK9 hP hD9 hS => ?_)
  have eA := K_uniq hK9 (i := 5) (j := 0) rfl rfl
  subst eA
  have hP : va_P D vwCl ([(h0, .inr (2, [.ref q_107, .ref q_108, .ref q_109, .null, .int 0, .int 0, .int 0, .int 0, .int 0, .int 0])), (q_107, .inl (y 3, 6, .inr (.inr (.inr (.inr (fun _ => none)))))), (q_108, .inl (y 4, 3, .inr (.inr (.inr (.inr (fun _ => none)))))), (q_109, .inl (y 0, 16, .inl (fun _ => 0))), (q_110, .inl (y 0, 4, .inl (fun _ => 0)))] : va_W) H := hP
  have hD : aD A [h0, q_107, q_108, q_109, q_110] := aD_of hD9
  refine lv_dup hx hb dX2_init_33 rfl ?_
  refine lv_iconst (v := 0) hx hb dX2_init_34 (by decide) ?_
  refine lv_iconst (v := 3) hx hb dX2_init_35 (by decide) ?_
  refine va_iast hx hb hK hP (aD_D hD rfl) hS 4 0 rfl rfl (show vp_in (0 : Int32) 4 from vp_in_nI (n := 0) (by decide) (by decide)) dX2_init_36 (fun H locs hP _ hS => ?_)
  have hP : va_P D vwCl ([(h0, .inr (2, [.ref q_107, .ref q_108, .ref q_109, .null, .int 0, .int 0, .int 0, .int 0, .int 0, .int 0])), (q_107, .inl (y 3, 6, .inr (.inr (.inr (.inr (fun _ => none)))))), (q_108, .inl (y 4, 3, .inr (.inr (.inr (.inr (fun _ => none)))))), (q_109, .inl (y 0, 16, .inl (fun _ => 0))), (q_110, .inl (y 0, 4, .inl (upd (fun _ => 0) 0 3)))] : va_W) H := hP
  refine lv_dup hx hb dX2_init_37 rfl ?_
  refine lv_iconst (v := 1) hx hb dX2_init_38 (by decide) ?_
  refine lv_iconst (v := 3) hx hb dX2_init_39 (by decide) ?_
  refine va_iast hx hb hK hP (aD_D hD rfl) hS 4 0 rfl rfl (show vp_in (1 : Int32) 4 from vp_in_nI (n := 1) (by decide) (by decide)) dX2_init_40 (fun H locs hP _ hS => ?_)
  have hP : va_P D vwCl ([(h0, .inr (2, [.ref q_107, .ref q_108, .ref q_109, .null, .int 0, .int 0, .int 0, .int 0, .int 0, .int 0])), (q_107, .inl (y 3, 6, .inr (.inr (.inr (.inr (fun _ => none)))))), (q_108, .inl (y 4, 3, .inr (.inr (.inr (.inr (fun _ => none)))))), (q_109, .inl (y 0, 16, .inl (fun _ => 0))), (q_110, .inl (y 0, 4, .inl (upd (upd (fun _ => 0) 0 3) 1 3)))] : va_W) H := hP
  refine lv_dup hx hb dX2_init_41 rfl ?_
  refine lv_iconst (v := 2) hx hb dX2_init_42 (by decide) ?_
  refine lv_iconst (v := 3) hx hb dX2_init_43 (by decide) ?_
  refine va_iast hx hb hK hP (aD_D hD rfl) hS 4 0 rfl rfl (show vp_in (2 : Int32) 4 from vp_in_nI (n := 2) (by decide) (by decide)) dX2_init_44 (fun H locs hP _ hS => ?_)
  have hP : va_P D vwCl ([(h0, .inr (2, [.ref q_107, .ref q_108, .ref q_109, .null, .int 0, .int 0, .int 0, .int 0, .int 0, .int 0])), (q_107, .inl (y 3, 6, .inr (.inr (.inr (.inr (fun _ => none)))))), (q_108, .inl (y 4, 3, .inr (.inr (.inr (.inr (fun _ => none)))))), (q_109, .inl (y 0, 16, .inl (fun _ => 0))), (q_110, .inl (y 0, 4, .inl (upd (upd (upd (fun _ => 0) 0 3) 1 3) 2 3)))] : va_W) H := hP
  refine lv_dup hx hb dX2_init_45 rfl ?_
  refine lv_iconst (v := 3) hx hb dX2_init_46 (by decide) ?_
  refine lv_bipush (v := 50) hx hb dX2_init_47 (by decide) ?_
  refine va_iast hx hb hK hP (aD_D hD rfl) hS 4 0 rfl rfl (show vp_in (3 : Int32) 4 from vp_in_nI (n := 3) (by decide) (by decide)) dX2_init_49 (fun H locs hP _ hS => ?_)
  have hP : va_P D vwCl ([(h0, .inr (2, [.ref q_107, .ref q_108, .ref q_109, .null, .int 0, .int 0, .int 0, .int 0, .int 0, .int 0])), (q_107, .inl (y 3, 6, .inr (.inr (.inr (.inr (fun _ => none)))))), (q_108, .inl (y 4, 3, .inr (.inr (.inr (.inr (fun _ => none)))))), (q_109, .inl (y 0, 16, .inl (fun _ => 0))), (q_110, .inl (y 0, 4, .inl (upd (upd (upd (upd (fun _ => 0) 0 3) 1 3) 2 3) 3 50)))] : va_W) H := hP
  have hf27 := hts (.fieldLink RX2 27 "CoracleMakers$River" "stores" "[I") (by decide +kernel)
  refine va_putF (D := D) (ci := 2) (v := .ref q_110) (ty := (.array .int)) (C := RX2) (T := TX2) (N := 10) hx hb hts hin2 tyX2 tyX2_ok nmX2 hown hK hP (aD_D hD rfl) hS 0 rfl rfl 3 (by decide) hf27 (fun _ h9 => h9) rfl hin rfl (by decide +kernel) rfl rfl (Nat.le_of_ble_eq_true rfl) dX2_init_50 (fun H locs hP _ hS => ?_)
  have hP : va_P D vwCl ([(h0, .inr (2, [.ref q_107, .ref q_108, .ref q_109, .ref q_110, .int 0, .int 0, .int 0, .int 0, .int 0, .int 0])), (q_107, .inl (y 3, 6, .inr (.inr (.inr (.inr (fun _ => none)))))), (q_108, .inl (y 4, 3, .inr (.inr (.inr (.inr (fun _ => none)))))), (q_109, .inl (y 0, 16, .inl (fun _ => 0))), (q_110, .inl (y 0, 4, .inl (upd (upd (upd (upd (fun _ => 0) 0 3) 1 3) 2 3) 3 50)))] : va_W) H := hP
  refine lv_aload_n hx hb dX2_init_53 rfl (lv_at hl 0 rfl) ?_
  refine lv_bipush (v := 12) hx hb dX2_init_54 (by decide) ?_
  have hf30 := hts (.fieldLink RX2 30 "CoracleMakers$River" "coins" "I") (by decide +kernel)
  refine va_put (D := D) (ci := 2) (v := .int 12) (ty := .int) (C := RX2) (T := TX2) (N := 10) hx hb hts hin2 tyX2 tyX2_ok nmX2 hown hK hP (aD_D hD rfl) hS 0 rfl rfl 5 (by decide) hf30 (fun _ h9 => h9) rfl (by decide +kernel) rfl rfl (Nat.le_of_ble_eq_true rfl) dX2_init_56 (fun H locs hP _ hS => ?_)
  have hP : va_P D vwCl ([(h0, .inr (2, [.ref q_107, .ref q_108, .ref q_109, .ref q_110, .int 0, .int 12, .int 0, .int 0, .int 0, .int 0])), (q_107, .inl (y 3, 6, .inr (.inr (.inr (.inr (fun _ => none)))))), (q_108, .inl (y 4, 3, .inr (.inr (.inr (.inr (fun _ => none)))))), (q_109, .inl (y 0, 16, .inl (fun _ => 0))), (q_110, .inl (y 0, 4, .inl (upd (upd (upd (upd (fun _ => 0) 0 3) 1 3) 2 3) 3 50)))] : va_W) H := hP
  refine lv_iconst (v := 0) hx hb dX2_init_59 (by decide) ?_
  refine lv_istore_n (lv' := [(1, .int 0), (0, .ref h0)]) hx hb dX2_init_60 rfl hl (by decide) rfl (fun ls hl => ?_)
  refine lv_iload_n hx hb dX2_init_61 rfl (lv_at hl 0 rfl) ?_
  refine lv_bipush (v := 6) hx hb dX2_init_62 (by decide) ?_
  refine lv_icmp_ge (tgt := 86) hx hb dX2_init_64 (by decide) (fun c9 => absurd c9 (show ¬ (6 : Int32) ≤ 0 by decide)) (fun _ => ?_)
  refine lv_aload_n hx hb dX2_init_67 rfl (lv_at hl 1 rfl) ?_
  refine va_get (D := D) (ci := 2) (v := .ref q_107) (C := RX2) (T := TX2) (N := 10) hx hb hts hin2 hown hK hP 0 rfl rfl 0 (by decide) hf11 (fun _ h9 => h9) rfl dX2_init_68 ?_
  refine lv_iload_n hx hb dX2_init_71 rfl (lv_at hl 0 rfl) ?_
  have hin0 : ∀ w ∈ u_ws RX0 TX0 10, w ∈ wsX2_init := by decide +kernel
  refine va_new (ci := 0) (fs := [.int 0, .int 0, .int 0, .int 0, .int 0, .int 0, .int 0, .int 0, .int 0, .int 0]) (C := RX0) (T := TX0) (N := 10) hx hb hts hin0 tyX0 tyX0_ok hown (hts (.classLink RX2 9 RX0) (by decide +kernel)) (hts (.instantiable RX0 10) (by decide +kernel)) (hts (.initialized RX0) (by decide +kernel)) hK hP (aD_D hD rfl) hS hA rfl (by decide) (Nat.le_of_ble_eq_true rfl) (Nat.le_of_ble_eq_true rfl) dX2_init_72 (fun q_111 H hP hD9 hS => ?_)
  have hP : va_P D vwCl ([(h0, .inr (2, [.ref q_107, .ref q_108, .ref q_109, .ref q_110, .int 0, .int 12, .int 0, .int 0, .int 0, .int 0])), (q_107, .inl (y 3, 6, .inr (.inr (.inr (.inr (fun _ => none)))))), (q_108, .inl (y 4, 3, .inr (.inr (.inr (.inr (fun _ => none)))))), (q_109, .inl (y 0, 16, .inl (fun _ => 0))), (q_110, .inl (y 0, 4, .inl (upd (upd (upd (upd (fun _ => 0) 0 3) 1 3) 2 3) 3 50))), (q_111, coE (fun _ => 0))] : va_W) H := hP
  have hD : aD A [h0, q_107, q_108, q_109, q_110, q_111] := aD_of hD9
  refine lv_dup hx hb dX2_init_75 rfl ?_
  refine cWV_IN (host := "CoracleMakers") (As := []) (rest := [.ref q_111, .int 0, .ref q_107]) ⟨hx, hb, hml, hown, hts⟩ (c_X0_init l D y _ q_111 (fun _ => 0)) ⟨va_cnB 0 hts ggX2_init_X0_init rfl rfl rfl (hN.2.1 _ (List.mem_of_getElem? (i := 0) rfl)) (hts (.initialized RX0) (by decide +kernel)) (by decide +kernel) ⟨Nat.le_of_ble_eq_true rfl, Nat.le_of_ble_eq_true rfl⟩, rfl, hts (.instanceMethod yX0_init) (by decide +kernel)⟩ hK hN (P_m hP (k := 5) rfl) (aD_1 hD (k := 5) rfl) hS hA rfl hl.1 rfl (Nat.le_of_ble_eq_true rfl) dX2_init_76 ⟨Nat.le_of_ble_eq_true rfl, Nat.le_of_ble_eq_true rfl⟩ (fun H locs hP9 hk9 hS => ?_)
  have hP : va_P D vwCl ([(h0, .inr (2, [.ref q_107, .ref q_108, .ref q_109, .ref q_110, .int 0, .int 12, .int 0, .int 0, .int 0, .int 0])), (q_107, .inl (y 3, 6, .inr (.inr (.inr (.inr (fun _ => none)))))), (q_108, .inl (y 4, 3, .inr (.inr (.inr (.inr (fun _ => none)))))), (q_109, .inl (y 0, 16, .inl (fun _ => 0))), (q_110, .inl (y 0, 4, .inl (upd (upd (upd (upd (fun _ => 0) 0 3) 1 3) 2 3) 3 50))), (q_111, coE (upd (fun _ => 0) 9 (-1)))] : va_W) H := fr_1 hP hD (k := 5) rfl hk9 hP9
  refine va_astq hx hb hK hP (aD_D hD rfl) hS 1 3 5 0 rfl rfl rfl rfl (show vp_in (0 : Int32) 6 from vp_in_nI (n := 0) (by decide) (by decide)) dX2_init_79 (fun H locs hP _ hS => ?_)
  have hP : va_P D vwCl ([(h0, .inr (2, [.ref q_107, .ref q_108, .ref q_109, .ref q_110, .int 0, .int 12, .int 0, .int 0, .int 0, .int 0])), (q_107, .inl (y 3, 6, .inr (.inr (.inr (.inr (va_up (fun _ => none) 0 (some q_111))))))), (q_108, .inl (y 4, 3, .inr (.inr (.inr (.inr (fun _ => none)))))), (q_109, .inl (y 0, 16, .inl (fun _ => 0))), (q_110, .inl (y 0, 4, .inl (upd (upd (upd (upd (fun _ => 0) 0 3) 1 3) 2 3) 3 50))), (q_111, coE (upd (fun _ => 0) 9 (-1)))] : va_W) H := hP
  refine lv_iinc (v := 1) (lv' := [(1, .int 1), (0, .ref h0)]) hx hb dX2_init_80 hl (k := 0) rfl (by decide) (by decide) rfl (fun ls hl => ?_)
  refine lv_goto (tgt := 61) hx hb dX2_init_83 (by decide) ?_
  refine lv_iload_n hx hb dX2_init_61 rfl (lv_at hl 0 rfl) ?_
  refine lv_bipush (v := 6) hx hb dX2_init_62 (by decide) ?_
  refine lv_icmp_ge (tgt := 86) hx hb dX2_init_64 (by decide) (fun c9 => absurd c9 (show ¬ (6 : Int32) ≤ 1 by decide)) (fun _ => ?_)
  refine lv_aload_n hx hb dX2_init_67 rfl (lv_at hl 1 rfl) ?_
  refine va_get (D := D) (ci := 2) (v := .ref q_107) (C := RX2) (T := TX2) (N := 10) hx hb hts hin2 hown hK hP 0 rfl rfl 0 (by decide) hf11 (fun _ h9 => h9) rfl dX2_init_68 ?_
  refine lv_iload_n hx hb dX2_init_71 rfl (lv_at hl 0 rfl) ?_
  refine va_new (ci := 0) (fs := [.int 0, .int 0, .int 0, .int 0, .int 0, .int 0, .int 0, .int 0, .int 0, .int 0]) (C := RX0) (T := TX0) (N := 10) hx hb hts hin0 tyX0 tyX0_ok hown (hts (.classLink RX2 9 RX0) (by decide +kernel)) (hts (.instantiable RX0 10) (by decide +kernel)) (hts (.initialized RX0) (by decide +kernel)) hK hP (aD_D hD rfl) hS hA rfl (by decide) (Nat.le_of_ble_eq_true rfl) (Nat.le_of_ble_eq_true rfl) dX2_init_72 (fun q_112 H hP hD9 hS => ?_)
  have hP : va_P D vwCl ([(h0, .inr (2, [.ref q_107, .ref q_108, .ref q_109, .ref q_110, .int 0, .int 12, .int 0, .int 0, .int 0, .int 0])), (q_107, .inl (y 3, 6, .inr (.inr (.inr (.inr (va_up (fun _ => none) 0 (some q_111))))))), (q_108, .inl (y 4, 3, .inr (.inr (.inr (.inr (fun _ => none)))))), (q_109, .inl (y 0, 16, .inl (fun _ => 0))), (q_110, .inl (y 0, 4, .inl (upd (upd (upd (upd (fun _ => 0) 0 3) 1 3) 2 3) 3 50))), (q_111, coE (upd (fun _ => 0) 9 (-1))), (q_112, coE (fun _ => 0))] : va_W) H := hP
  have hD : aD A [h0, q_107, q_108, q_109, q_110, q_111, q_112] := aD_of hD9
  refine lv_dup hx hb dX2_init_75 rfl ?_
  refine cWV_IN (host := "CoracleMakers") (As := []) (rest := [.ref q_112, .int 1, .ref q_107]) ⟨hx, hb, hml, hown, hts⟩ (c_X0_init l D y _ q_112 (fun _ => 0)) ⟨va_cnB 0 hts ggX2_init_X0_init rfl rfl rfl (hN.2.1 _ (List.mem_of_getElem? (i := 0) rfl)) (hts (.initialized RX0) (by decide +kernel)) (by decide +kernel) ⟨Nat.le_of_ble_eq_true rfl, Nat.le_of_ble_eq_true rfl⟩, rfl, hts (.instanceMethod yX0_init) (by decide +kernel)⟩ hK hN (P_m hP (k := 6) rfl) (aD_1 hD (k := 6) rfl) hS hA rfl hl.1 rfl (Nat.le_of_ble_eq_true rfl) dX2_init_76 ⟨Nat.le_of_ble_eq_true rfl, Nat.le_of_ble_eq_true rfl⟩ (fun H locs hP9 hk9 hS => ?_)
  have hP : va_P D vwCl ([(h0, .inr (2, [.ref q_107, .ref q_108, .ref q_109, .ref q_110, .int 0, .int 12, .int 0, .int 0, .int 0, .int 0])), (q_107, .inl (y 3, 6, .inr (.inr (.inr (.inr (va_up (fun _ => none) 0 (some q_111))))))), (q_108, .inl (y 4, 3, .inr (.inr (.inr (.inr (fun _ => none)))))), (q_109, .inl (y 0, 16, .inl (fun _ => 0))), (q_110, .inl (y 0, 4, .inl (upd (upd (upd (upd (fun _ => 0) 0 3) 1 3) 2 3) 3 50))), (q_111, coE (upd (fun _ => 0) 9 (-1))), (q_112, coE (upd (fun _ => 0) 9 (-1)))] : va_W) H := fr_1 hP hD (k := 6) rfl hk9 hP9
  refine va_astq hx hb hK hP (aD_D hD rfl) hS 1 3 6 0 rfl rfl rfl rfl (show vp_in (1 : Int32) 6 from vp_in_nI (n := 1) (by decide) (by decide)) dX2_init_79 (fun H locs hP _ hS => ?_)
  have hP : va_P D vwCl ([(h0, .inr (2, [.ref q_107, .ref q_108, .ref q_109, .ref q_110, .int 0, .int 12, .int 0, .int 0, .int 0, .int 0])), (q_107, .inl (y 3, 6, .inr (.inr (.inr (.inr (va_up (va_up (fun _ => none) 0 (some q_111)) 1 (some q_112))))))), (q_108, .inl (y 4, 3, .inr (.inr (.inr (.inr (fun _ => none)))))), (q_109, .inl (y 0, 16, .inl (fun _ => 0))), (q_110, .inl (y 0, 4, .inl (upd (upd (upd (upd (fun _ => 0) 0 3) 1 3) 2 3) 3 50))), (q_111, coE (upd (fun _ => 0) 9 (-1))), (q_112, coE (upd (fun _ => 0) 9 (-1)))] : va_W) H := hP
  refine lv_iinc (v := 2) (lv' := [(1, .int 2), (0, .ref h0)]) hx hb dX2_init_80 hl (k := 0) rfl (by decide) (by decide) rfl (fun ls hl => ?_)
  refine lv_goto (tgt := 61) hx hb dX2_init_83 (by decide) ?_
  refine lv_iload_n hx hb dX2_init_61 rfl (lv_at hl 0 rfl) ?_
  refine lv_bipush (v := 6) hx hb dX2_init_62 (by decide) ?_
  refine lv_icmp_ge (tgt := 86) hx hb dX2_init_64 (by decide) (fun c9 => absurd c9 (show ¬ (6 : Int32) ≤ 2 by decide)) (fun _ => ?_)
  refine lv_aload_n hx hb dX2_init_67 rfl (lv_at hl 1 rfl) ?_
  refine va_get (D := D) (ci := 2) (v := .ref q_107) (C := RX2) (T := TX2) (N := 10) hx hb hts hin2 hown hK hP 0 rfl rfl 0 (by decide) hf11 (fun _ h9 => h9) rfl dX2_init_68 ?_
  refine lv_iload_n hx hb dX2_init_71 rfl (lv_at hl 0 rfl) ?_
  refine va_new (ci := 0) (fs := [.int 0, .int 0, .int 0, .int 0, .int 0, .int 0, .int 0, .int 0, .int 0, .int 0]) (C := RX0) (T := TX0) (N := 10) hx hb hts hin0 tyX0 tyX0_ok hown (hts (.classLink RX2 9 RX0) (by decide +kernel)) (hts (.instantiable RX0 10) (by decide +kernel)) (hts (.initialized RX0) (by decide +kernel)) hK hP (aD_D hD rfl) hS hA rfl (by decide) (Nat.le_of_ble_eq_true rfl) (Nat.le_of_ble_eq_true rfl) dX2_init_72 (fun q_113 H hP hD9 hS => ?_)
  have hP : va_P D vwCl ([(h0, .inr (2, [.ref q_107, .ref q_108, .ref q_109, .ref q_110, .int 0, .int 12, .int 0, .int 0, .int 0, .int 0])), (q_107, .inl (y 3, 6, .inr (.inr (.inr (.inr (va_up (va_up (fun _ => none) 0 (some q_111)) 1 (some q_112))))))), (q_108, .inl (y 4, 3, .inr (.inr (.inr (.inr (fun _ => none)))))), (q_109, .inl (y 0, 16, .inl (fun _ => 0))), (q_110, .inl (y 0, 4, .inl (upd (upd (upd (upd (fun _ => 0) 0 3) 1 3) 2 3) 3 50))), (q_111, coE (upd (fun _ => 0) 9 (-1))), (q_112, coE (upd (fun _ => 0) 9 (-1))), (q_113, coE (fun _ => 0))] : va_W) H := hP
  have hD : aD A [h0, q_107, q_108, q_109, q_110, q_111, q_112, q_113] := aD_of hD9
  refine lv_dup hx hb dX2_init_75 rfl ?_
  refine cWV_IN (host := "CoracleMakers") (As := []) (rest := [.ref q_113, .int 2, .ref q_107]) ⟨hx, hb, hml, hown, hts⟩ (c_X0_init l D y _ q_113 (fun _ => 0)) ⟨va_cnB 0 hts ggX2_init_X0_init rfl rfl rfl (hN.2.1 _ (List.mem_of_getElem? (i := 0) rfl)) (hts (.initialized RX0) (by decide +kernel)) (by decide +kernel) ⟨Nat.le_of_ble_eq_true rfl, Nat.le_of_ble_eq_true rfl⟩, rfl, hts (.instanceMethod yX0_init) (by decide +kernel)⟩ hK hN (P_m hP (k := 7) rfl) (aD_1 hD (k := 7) rfl) hS hA rfl hl.1 rfl (Nat.le_of_ble_eq_true rfl) dX2_init_76 ⟨Nat.le_of_ble_eq_true rfl, Nat.le_of_ble_eq_true rfl⟩ (fun H locs hP9 hk9 hS => ?_)
  have hP : va_P D vwCl ([(h0, .inr (2, [.ref q_107, .ref q_108, .ref q_109, .ref q_110, .int 0, .int 12, .int 0, .int 0, .int 0, .int 0])), (q_107, .inl (y 3, 6, .inr (.inr (.inr (.inr (va_up (va_up (fun _ => none) 0 (some q_111)) 1 (some q_112))))))), (q_108, .inl (y 4, 3, .inr (.inr (.inr (.inr (fun _ => none)))))), (q_109, .inl (y 0, 16, .inl (fun _ => 0))), (q_110, .inl (y 0, 4, .inl (upd (upd (upd (upd (fun _ => 0) 0 3) 1 3) 2 3) 3 50))), (q_111, coE (upd (fun _ => 0) 9 (-1))), (q_112, coE (upd (fun _ => 0) 9 (-1))), (q_113, coE (upd (fun _ => 0) 9 (-1)))] : va_W) H := fr_1 hP hD (k := 7) rfl hk9 hP9
  refine va_astq hx hb hK hP (aD_D hD rfl) hS 1 3 7 0 rfl rfl rfl rfl (show vp_in (2 : Int32) 6 from vp_in_nI (n := 2) (by decide) (by decide)) dX2_init_79 (fun H locs hP _ hS => ?_)
  have hP : va_P D vwCl ([(h0, .inr (2, [.ref q_107, .ref q_108, .ref q_109, .ref q_110, .int 0, .int 12, .int 0, .int 0, .int 0, .int 0])), (q_107, .inl (y 3, 6, .inr (.inr (.inr (.inr (va_up (va_up (va_up (fun _ => none) 0 (some q_111)) 1 (some q_112)) 2 (some q_113))))))), (q_108, .inl (y 4, 3, .inr (.inr (.inr (.inr (fun _ => none)))))), (q_109, .inl (y 0, 16, .inl (fun _ => 0))), (q_110, .inl (y 0, 4, .inl (upd (upd (upd (upd (fun _ => 0) 0 3) 1 3) 2 3) 3 50))), (q_111, coE (upd (fun _ => 0) 9 (-1))), (q_112, coE (upd (fun _ => 0) 9 (-1))), (q_113, coE (upd (fun _ => 0) 9 (-1)))] : va_W) H := hP
  refine lv_iinc (v := 3) (lv' := [(1, .int 3), (0, .ref h0)]) hx hb dX2_init_80 hl (k := 0) rfl (by decide) (by decide) rfl (fun ls hl => ?_)
  refine lv_goto (tgt := 61) hx hb dX2_init_83 (by decide) ?_
  refine lv_iload_n hx hb dX2_init_61 rfl (lv_at hl 0 rfl) ?_
  refine lv_bipush (v := 6) hx hb dX2_init_62 (by decide) ?_
  refine lv_icmp_ge (tgt := 86) hx hb dX2_init_64 (by decide) (fun c9 => absurd c9 (show ¬ (6 : Int32) ≤ 3 by decide)) (fun _ => ?_)
  refine lv_aload_n hx hb dX2_init_67 rfl (lv_at hl 1 rfl) ?_
  refine va_get (D := D) (ci := 2) (v := .ref q_107) (C := RX2) (T := TX2) (N := 10) hx hb hts hin2 hown hK hP 0 rfl rfl 0 (by decide) hf11 (fun _ h9 => h9) rfl dX2_init_68 ?_
  refine lv_iload_n hx hb dX2_init_71 rfl (lv_at hl 0 rfl) ?_
  refine va_new (ci := 0) (fs := [.int 0, .int 0, .int 0, .int 0, .int 0, .int 0, .int 0, .int 0, .int 0, .int 0]) (C := RX0) (T := TX0) (N := 10) hx hb hts hin0 tyX0 tyX0_ok hown (hts (.classLink RX2 9 RX0) (by decide +kernel)) (hts (.instantiable RX0 10) (by decide +kernel)) (hts (.initialized RX0) (by decide +kernel)) hK hP (aD_D hD rfl) hS hA rfl (by decide) (Nat.le_of_ble_eq_true rfl) (Nat.le_of_ble_eq_true rfl) dX2_init_72 (fun q_114 H hP hD9 hS => ?_)
  have hP : va_P D vwCl ([(h0, .inr (2, [.ref q_107, .ref q_108, .ref q_109, .ref q_110, .int 0, .int 12, .int 0, .int 0, .int 0, .int 0])), (q_107, .inl (y 3, 6, .inr (.inr (.inr (.inr (va_up (va_up (va_up (fun _ => none) 0 (some q_111)) 1 (some q_112)) 2 (some q_113))))))), (q_108, .inl (y 4, 3, .inr (.inr (.inr (.inr (fun _ => none)))))), (q_109, .inl (y 0, 16, .inl (fun _ => 0))), (q_110, .inl (y 0, 4, .inl (upd (upd (upd (upd (fun _ => 0) 0 3) 1 3) 2 3) 3 50))), (q_111, coE (upd (fun _ => 0) 9 (-1))), (q_112, coE (upd (fun _ => 0) 9 (-1))), (q_113, coE (upd (fun _ => 0) 9 (-1))), (q_114, coE (fun _ => 0))] : va_W) H := hP
  have hD : aD A [h0, q_107, q_108, q_109, q_110, q_111, q_112, q_113, q_114] := aD_of hD9
  refine lv_dup hx hb dX2_init_75 rfl ?_
  refine cWV_IN (host := "CoracleMakers") (As := []) (rest := [.ref q_114, .int 3, .ref q_107]) ⟨hx, hb, hml, hown, hts⟩ (c_X0_init l D y _ q_114 (fun _ => 0)) ⟨va_cnB 0 hts ggX2_init_X0_init rfl rfl rfl (hN.2.1 _ (List.mem_of_getElem? (i := 0) rfl)) (hts (.initialized RX0) (by decide +kernel)) (by decide +kernel) ⟨Nat.le_of_ble_eq_true rfl, Nat.le_of_ble_eq_true rfl⟩, rfl, hts (.instanceMethod yX0_init) (by decide +kernel)⟩ hK hN (P_m hP (k := 8) rfl) (aD_1 hD (k := 8) rfl) hS hA rfl hl.1 rfl (Nat.le_of_ble_eq_true rfl) dX2_init_76 ⟨Nat.le_of_ble_eq_true rfl, Nat.le_of_ble_eq_true rfl⟩ (fun H locs hP9 hk9 hS => ?_)
  have hP : va_P D vwCl ([(h0, .inr (2, [.ref q_107, .ref q_108, .ref q_109, .ref q_110, .int 0, .int 12, .int 0, .int 0, .int 0, .int 0])), (q_107, .inl (y 3, 6, .inr (.inr (.inr (.inr (va_up (va_up (va_up (fun _ => none) 0 (some q_111)) 1 (some q_112)) 2 (some q_113))))))), (q_108, .inl (y 4, 3, .inr (.inr (.inr (.inr (fun _ => none)))))), (q_109, .inl (y 0, 16, .inl (fun _ => 0))), (q_110, .inl (y 0, 4, .inl (upd (upd (upd (upd (fun _ => 0) 0 3) 1 3) 2 3) 3 50))), (q_111, coE (upd (fun _ => 0) 9 (-1))), (q_112, coE (upd (fun _ => 0) 9 (-1))), (q_113, coE (upd (fun _ => 0) 9 (-1))), (q_114, coE (upd (fun _ => 0) 9 (-1)))] : va_W) H := fr_1 hP hD (k := 8) rfl hk9 hP9
  refine va_astq hx hb hK hP (aD_D hD rfl) hS 1 3 8 0 rfl rfl rfl rfl (show vp_in (3 : Int32) 6 from vp_in_nI (n := 3) (by decide) (by decide)) dX2_init_79 (fun H locs hP _ hS => ?_)
  have hP : va_P D vwCl ([(h0, .inr (2, [.ref q_107, .ref q_108, .ref q_109, .ref q_110, .int 0, .int 12, .int 0, .int 0, .int 0, .int 0])), (q_107, .inl (y 3, 6, .inr (.inr (.inr (.inr (va_up (va_up (va_up (va_up (fun _ => none) 0 (some q_111)) 1 (some q_112)) 2 (some q_113)) 3 (some q_114))))))), (q_108, .inl (y 4, 3, .inr (.inr (.inr (.inr (fun _ => none)))))), (q_109, .inl (y 0, 16, .inl (fun _ => 0))), (q_110, .inl (y 0, 4, .inl (upd (upd (upd (upd (fun _ => 0) 0 3) 1 3) 2 3) 3 50))), (q_111, coE (upd (fun _ => 0) 9 (-1))), (q_112, coE (upd (fun _ => 0) 9 (-1))), (q_113, coE (upd (fun _ => 0) 9 (-1))), (q_114, coE (upd (fun _ => 0) 9 (-1)))] : va_W) H := hP
  refine lv_iinc (v := 4) (lv' := [(1, .int 4), (0, .ref h0)]) hx hb dX2_init_80 hl (k := 0) rfl (by decide) (by decide) rfl (fun ls hl => ?_)
  refine lv_goto (tgt := 61) hx hb dX2_init_83 (by decide) ?_
  refine lv_iload_n hx hb dX2_init_61 rfl (lv_at hl 0 rfl) ?_
  refine lv_bipush (v := 6) hx hb dX2_init_62 (by decide) ?_
  refine lv_icmp_ge (tgt := 86) hx hb dX2_init_64 (by decide) (fun c9 => absurd c9 (show ¬ (6 : Int32) ≤ 4 by decide)) (fun _ => ?_)
  refine lv_aload_n hx hb dX2_init_67 rfl (lv_at hl 1 rfl) ?_
  refine va_get (D := D) (ci := 2) (v := .ref q_107) (C := RX2) (T := TX2) (N := 10) hx hb hts hin2 hown hK hP 0 rfl rfl 0 (by decide) hf11 (fun _ h9 => h9) rfl dX2_init_68 ?_
  refine lv_iload_n hx hb dX2_init_71 rfl (lv_at hl 0 rfl) ?_
  refine va_new (ci := 0) (fs := [.int 0, .int 0, .int 0, .int 0, .int 0, .int 0, .int 0, .int 0, .int 0, .int 0]) (C := RX0) (T := TX0) (N := 10) hx hb hts hin0 tyX0 tyX0_ok hown (hts (.classLink RX2 9 RX0) (by decide +kernel)) (hts (.instantiable RX0 10) (by decide +kernel)) (hts (.initialized RX0) (by decide +kernel)) hK hP (aD_D hD rfl) hS hA rfl (by decide) (Nat.le_of_ble_eq_true rfl) (Nat.le_of_ble_eq_true rfl) dX2_init_72 (fun q_115 H hP hD9 hS => ?_)
  have hP : va_P D vwCl ([(h0, .inr (2, [.ref q_107, .ref q_108, .ref q_109, .ref q_110, .int 0, .int 12, .int 0, .int 0, .int 0, .int 0])), (q_107, .inl (y 3, 6, .inr (.inr (.inr (.inr (va_up (va_up (va_up (va_up (fun _ => none) 0 (some q_111)) 1 (some q_112)) 2 (some q_113)) 3 (some q_114))))))), (q_108, .inl (y 4, 3, .inr (.inr (.inr (.inr (fun _ => none)))))), (q_109, .inl (y 0, 16, .inl (fun _ => 0))), (q_110, .inl (y 0, 4, .inl (upd (upd (upd (upd (fun _ => 0) 0 3) 1 3) 2 3) 3 50))), (q_111, coE (upd (fun _ => 0) 9 (-1))), (q_112, coE (upd (fun _ => 0) 9 (-1))), (q_113, coE (upd (fun _ => 0) 9 (-1))), (q_114, coE (upd (fun _ => 0) 9 (-1))), (q_115, coE (fun _ => 0))] : va_W) H := hP
  have hD : aD A [h0, q_107, q_108, q_109, q_110, q_111, q_112, q_113, q_114, q_115] := aD_of hD9
  refine lv_dup hx hb dX2_init_75 rfl ?_
  refine cWV_IN (host := "CoracleMakers") (As := []) (rest := [.ref q_115, .int 4, .ref q_107]) ⟨hx, hb, hml, hown, hts⟩ (c_X0_init l D y _ q_115 (fun _ => 0)) ⟨va_cnB 0 hts ggX2_init_X0_init rfl rfl rfl (hN.2.1 _ (List.mem_of_getElem? (i := 0) rfl)) (hts (.initialized RX0) (by decide +kernel)) (by decide +kernel) ⟨Nat.le_of_ble_eq_true rfl, Nat.le_of_ble_eq_true rfl⟩, rfl, hts (.instanceMethod yX0_init) (by decide +kernel)⟩ hK hN (P_m hP (k := 9) rfl) (aD_1 hD (k := 9) rfl) hS hA rfl hl.1 rfl (Nat.le_of_ble_eq_true rfl) dX2_init_76 ⟨Nat.le_of_ble_eq_true rfl, Nat.le_of_ble_eq_true rfl⟩ (fun H locs hP9 hk9 hS => ?_)
  have hP : va_P D vwCl ([(h0, .inr (2, [.ref q_107, .ref q_108, .ref q_109, .ref q_110, .int 0, .int 12, .int 0, .int 0, .int 0, .int 0])), (q_107, .inl (y 3, 6, .inr (.inr (.inr (.inr (va_up (va_up (va_up (va_up (fun _ => none) 0 (some q_111)) 1 (some q_112)) 2 (some q_113)) 3 (some q_114))))))), (q_108, .inl (y 4, 3, .inr (.inr (.inr (.inr (fun _ => none)))))), (q_109, .inl (y 0, 16, .inl (fun _ => 0))), (q_110, .inl (y 0, 4, .inl (upd (upd (upd (upd (fun _ => 0) 0 3) 1 3) 2 3) 3 50))), (q_111, coE (upd (fun _ => 0) 9 (-1))), (q_112, coE (upd (fun _ => 0) 9 (-1))), (q_113, coE (upd (fun _ => 0) 9 (-1))), (q_114, coE (upd (fun _ => 0) 9 (-1))), (q_115, coE (upd (fun _ => 0) 9 (-1)))] : va_W) H := fr_1 hP hD (k := 9) rfl hk9 hP9
  refine va_astq hx hb hK hP (aD_D hD rfl) hS 1 3 9 0 rfl rfl rfl rfl (show vp_in (4 : Int32) 6 from vp_in_nI (n := 4) (by decide) (by decide)) dX2_init_79 (fun H locs hP _ hS => ?_)
  have hP : va_P D vwCl ([(h0, .inr (2, [.ref q_107, .ref q_108, .ref q_109, .ref q_110, .int 0, .int 12, .int 0, .int 0, .int 0, .int 0])), (q_107, .inl (y 3, 6, .inr (.inr (.inr (.inr (va_up (va_up (va_up (va_up (va_up (fun _ => none) 0 (some q_111)) 1 (some q_112)) 2 (some q_113)) 3 (some q_114)) 4 (some q_115))))))), (q_108, .inl (y 4, 3, .inr (.inr (.inr (.inr (fun _ => none)))))), (q_109, .inl (y 0, 16, .inl (fun _ => 0))), (q_110, .inl (y 0, 4, .inl (upd (upd (upd (upd (fun _ => 0) 0 3) 1 3) 2 3) 3 50))), (q_111, coE (upd (fun _ => 0) 9 (-1))), (q_112, coE (upd (fun _ => 0) 9 (-1))), (q_113, coE (upd (fun _ => 0) 9 (-1))), (q_114, coE (upd (fun _ => 0) 9 (-1))), (q_115, coE (upd (fun _ => 0) 9 (-1)))] : va_W) H := hP
  refine lv_iinc (v := 5) (lv' := [(1, .int 5), (0, .ref h0)]) hx hb dX2_init_80 hl (k := 0) rfl (by decide) (by decide) rfl (fun ls hl => ?_)
  refine lv_goto (tgt := 61) hx hb dX2_init_83 (by decide) ?_
  refine lv_iload_n hx hb dX2_init_61 rfl (lv_at hl 0 rfl) ?_
  refine lv_bipush (v := 6) hx hb dX2_init_62 (by decide) ?_
  refine lv_icmp_ge (tgt := 86) hx hb dX2_init_64 (by decide) (fun c9 => absurd c9 (show ¬ (6 : Int32) ≤ 5 by decide)) (fun _ => ?_)
  refine lv_aload_n hx hb dX2_init_67 rfl (lv_at hl 1 rfl) ?_
  refine va_get (D := D) (ci := 2) (v := .ref q_107) (C := RX2) (T := TX2) (N := 10) hx hb hts hin2 hown hK hP 0 rfl rfl 0 (by decide) hf11 (fun _ h9 => h9) rfl dX2_init_68 ?_
  refine lv_iload_n hx hb dX2_init_71 rfl (lv_at hl 0 rfl) ?_
  refine va_new (ci := 0) (fs := [.int 0, .int 0, .int 0, .int 0, .int 0, .int 0, .int 0, .int 0, .int 0, .int 0]) (C := RX0) (T := TX0) (N := 10) hx hb hts hin0 tyX0 tyX0_ok hown (hts (.classLink RX2 9 RX0) (by decide +kernel)) (hts (.instantiable RX0 10) (by decide +kernel)) (hts (.initialized RX0) (by decide +kernel)) hK hP (aD_D hD rfl) hS hA rfl (by decide) (Nat.le_of_ble_eq_true rfl) (Nat.le_of_ble_eq_true rfl) dX2_init_72 (fun q_116 H hP hD9 hS => ?_)
  have hP : va_P D vwCl ([(h0, .inr (2, [.ref q_107, .ref q_108, .ref q_109, .ref q_110, .int 0, .int 12, .int 0, .int 0, .int 0, .int 0])), (q_107, .inl (y 3, 6, .inr (.inr (.inr (.inr (va_up (va_up (va_up (va_up (va_up (fun _ => none) 0 (some q_111)) 1 (some q_112)) 2 (some q_113)) 3 (some q_114)) 4 (some q_115))))))), (q_108, .inl (y 4, 3, .inr (.inr (.inr (.inr (fun _ => none)))))), (q_109, .inl (y 0, 16, .inl (fun _ => 0))), (q_110, .inl (y 0, 4, .inl (upd (upd (upd (upd (fun _ => 0) 0 3) 1 3) 2 3) 3 50))), (q_111, coE (upd (fun _ => 0) 9 (-1))), (q_112, coE (upd (fun _ => 0) 9 (-1))), (q_113, coE (upd (fun _ => 0) 9 (-1))), (q_114, coE (upd (fun _ => 0) 9 (-1))), (q_115, coE (upd (fun _ => 0) 9 (-1))), (q_116, coE (fun _ => 0))] : va_W) H := hP
  have hD : aD A [h0, q_107, q_108, q_109, q_110, q_111, q_112, q_113, q_114, q_115, q_116] := aD_of hD9
  refine lv_dup hx hb dX2_init_75 rfl ?_
  refine cWV_IN (host := "CoracleMakers") (As := []) (rest := [.ref q_116, .int 5, .ref q_107]) ⟨hx, hb, hml, hown, hts⟩ (c_X0_init l D y _ q_116 (fun _ => 0)) ⟨va_cnB 0 hts ggX2_init_X0_init rfl rfl rfl (hN.2.1 _ (List.mem_of_getElem? (i := 0) rfl)) (hts (.initialized RX0) (by decide +kernel)) (by decide +kernel) ⟨Nat.le_of_ble_eq_true rfl, Nat.le_of_ble_eq_true rfl⟩, rfl, hts (.instanceMethod yX0_init) (by decide +kernel)⟩ hK hN (P_m hP (k := 10) rfl) (aD_1 hD (k := 10) rfl) hS hA rfl hl.1 rfl (Nat.le_of_ble_eq_true rfl) dX2_init_76 ⟨Nat.le_of_ble_eq_true rfl, Nat.le_of_ble_eq_true rfl⟩ (fun H locs hP9 hk9 hS => ?_)
  have hP : va_P D vwCl ([(h0, .inr (2, [.ref q_107, .ref q_108, .ref q_109, .ref q_110, .int 0, .int 12, .int 0, .int 0, .int 0, .int 0])), (q_107, .inl (y 3, 6, .inr (.inr (.inr (.inr (va_up (va_up (va_up (va_up (va_up (fun _ => none) 0 (some q_111)) 1 (some q_112)) 2 (some q_113)) 3 (some q_114)) 4 (some q_115))))))), (q_108, .inl (y 4, 3, .inr (.inr (.inr (.inr (fun _ => none)))))), (q_109, .inl (y 0, 16, .inl (fun _ => 0))), (q_110, .inl (y 0, 4, .inl (upd (upd (upd (upd (fun _ => 0) 0 3) 1 3) 2 3) 3 50))), (q_111, coE (upd (fun _ => 0) 9 (-1))), (q_112, coE (upd (fun _ => 0) 9 (-1))), (q_113, coE (upd (fun _ => 0) 9 (-1))), (q_114, coE (upd (fun _ => 0) 9 (-1))), (q_115, coE (upd (fun _ => 0) 9 (-1))), (q_116, coE (upd (fun _ => 0) 9 (-1)))] : va_W) H := fr_1 hP hD (k := 10) rfl hk9 hP9
  refine va_astq hx hb hK hP (aD_D hD rfl) hS 1 3 10 0 rfl rfl rfl rfl (show vp_in (5 : Int32) 6 from vp_in_nI (n := 5) (by decide) (by decide)) dX2_init_79 (fun H locs hP _ hS => ?_)
  have hP : va_P D vwCl ([(h0, .inr (2, [.ref q_107, .ref q_108, .ref q_109, .ref q_110, .int 0, .int 12, .int 0, .int 0, .int 0, .int 0])), (q_107, .inl (y 3, 6, .inr (.inr (.inr (.inr (va_up (va_up (va_up (va_up (va_up (va_up (fun _ => none) 0 (some q_111)) 1 (some q_112)) 2 (some q_113)) 3 (some q_114)) 4 (some q_115)) 5 (some q_116))))))), (q_108, .inl (y 4, 3, .inr (.inr (.inr (.inr (fun _ => none)))))), (q_109, .inl (y 0, 16, .inl (fun _ => 0))), (q_110, .inl (y 0, 4, .inl (upd (upd (upd (upd (fun _ => 0) 0 3) 1 3) 2 3) 3 50))), (q_111, coE (upd (fun _ => 0) 9 (-1))), (q_112, coE (upd (fun _ => 0) 9 (-1))), (q_113, coE (upd (fun _ => 0) 9 (-1))), (q_114, coE (upd (fun _ => 0) 9 (-1))), (q_115, coE (upd (fun _ => 0) 9 (-1))), (q_116, coE (upd (fun _ => 0) 9 (-1)))] : va_W) H := hP
  refine lv_iinc (v := 6) (lv' := [(1, .int 6), (0, .ref h0)]) hx hb dX2_init_80 hl (k := 0) rfl (by decide) (by decide) rfl (fun ls hl => ?_)
  refine lv_goto (tgt := 61) hx hb dX2_init_83 (by decide) ?_
  refine lv_iload_n hx hb dX2_init_61 rfl (lv_at hl 0 rfl) ?_
  refine lv_bipush (v := 6) hx hb dX2_init_62 (by decide) ?_
  refine lv_icmp_ge (tgt := 86) hx hb dX2_init_64 (by decide) (fun _ => ?_) (fun c9 => absurd (show (6 : Int32) ≤ 6 by decide) c9)
  refine lv_iconst (v := 0) hx hb dX2_init_86 (by decide) ?_
  refine lv_istore_n (lv' := [(1, .int 0), (0, .ref h0)]) hx hb dX2_init_87 rfl hl (by decide) rfl (fun ls hl => ?_)
  refine lv_iload_n hx hb dX2_init_88 rfl (lv_at hl 0 rfl) ?_
  refine lv_iconst (v := 3) hx hb dX2_init_89 (by decide) ?_
  refine lv_icmp_ge (tgt := 112) hx hb dX2_init_90 (by decide) (fun c9 => absurd c9 (show ¬ (3 : Int32) ≤ 0 by decide)) (fun _ => ?_)
  refine lv_aload_n hx hb dX2_init_93 rfl (lv_at hl 1 rfl) ?_
  refine va_get (D := D) (ci := 2) (v := .ref q_108) (C := RX2) (T := TX2) (N := 10) hx hb hts hin2 hown hK hP 0 rfl rfl 1 (by decide) hf19 (fun _ h9 => h9) rfl dX2_init_94 ?_
  refine lv_iload_n hx hb dX2_init_97 rfl (lv_at hl 0 rfl) ?_
  have hin1 : ∀ w ∈ u_ws RX1 TX1 3, w ∈ wsX2_init := by decide +kernel
  refine va_new (ci := 1) (fs := [.int 0, .int 0, .int 0]) (C := RX1) (T := TX1) (N := 3) hx hb hts hin1 tyX1 tyX1_ok hown (hts (.classLink RX2 17 RX1) (by decide +kernel)) (hts (.instantiable RX1 3) (by decide +kernel)) (hts (.initialized RX1) (by decide +kernel)) hK hP (aD_D hD rfl) hS hA rfl (by decide) (Nat.le_of_ble_eq_true rfl) (Nat.le_of_ble_eq_true rfl) dX2_init_98 (fun q_117 H hP hD9 hS => ?_)
  have hP : va_P D vwCl ([(h0, .inr (2, [.ref q_107, .ref q_108, .ref q_109, .ref q_110, .int 0, .int 12, .int 0, .int 0, .int 0, .int 0])), (q_107, .inl (y 3, 6, .inr (.inr (.inr (.inr (va_up (va_up (va_up (va_up (va_up (va_up (fun _ => none) 0 (some q_111)) 1 (some q_112)) 2 (some q_113)) 3 (some q_114)) 4 (some q_115)) 5 (some q_116))))))), (q_108, .inl (y 4, 3, .inr (.inr (.inr (.inr (fun _ => none)))))), (q_109, .inl (y 0, 16, .inl (fun _ => 0))), (q_110, .inl (y 0, 4, .inl (upd (upd (upd (upd (fun _ => 0) 0 3) 1 3) 2 3) 3 50))), (q_111, coE (upd (fun _ => 0) 9 (-1))), (q_112, coE (upd (fun _ => 0) 9 (-1))), (q_113, coE (upd (fun _ => 0) 9 (-1))), (q_114, coE (upd (fun _ => 0) 9 (-1))), (q_115, coE (upd (fun _ => 0) 9 (-1))), (q_116, coE (upd (fun _ => 0) 9 (-1))), (q_117, neE (fun _ => 0))] : va_W) H := hP
  have hD : aD A [h0, q_107, q_108, q_109, q_110, q_111, q_112, q_113, q_114, q_115, q_116, q_117] := aD_of hD9
  refine lv_dup hx hb dX2_init_101 rfl ?_
  refine cWV_IN (host := "CoracleMakers") (As := []) (rest := [.ref q_117, .int 0, .ref q_108]) ⟨hx, hb, hml, hown, hts⟩ (c_X1_init l D y _ q_117 (fun _ => 0)) ⟨va_cnB 0 hts ggX2_init_X1_init rfl rfl rfl (hN.2.1 _ (List.mem_of_getElem? (i := 1) rfl)) (hts (.initialized RX1) (by decide +kernel)) (by decide +kernel) ⟨Nat.le_of_ble_eq_true rfl, Nat.le_of_ble_eq_true rfl⟩, rfl, hts (.instanceMethod yX1_init) (by decide +kernel)⟩ hK hN (P_m hP (k := 11) rfl) (aD_1 hD (k := 11) rfl) hS hA rfl hl.1 rfl (Nat.le_of_ble_eq_true rfl) dX2_init_102 ⟨Nat.le_of_ble_eq_true rfl, Nat.le_of_ble_eq_true rfl⟩ (fun H locs hP9 hk9 hS => ?_)
  have hP : va_P D vwCl ([(h0, .inr (2, [.ref q_107, .ref q_108, .ref q_109, .ref q_110, .int 0, .int 12, .int 0, .int 0, .int 0, .int 0])), (q_107, .inl (y 3, 6, .inr (.inr (.inr (.inr (va_up (va_up (va_up (va_up (va_up (va_up (fun _ => none) 0 (some q_111)) 1 (some q_112)) 2 (some q_113)) 3 (some q_114)) 4 (some q_115)) 5 (some q_116))))))), (q_108, .inl (y 4, 3, .inr (.inr (.inr (.inr (fun _ => none)))))), (q_109, .inl (y 0, 16, .inl (fun _ => 0))), (q_110, .inl (y 0, 4, .inl (upd (upd (upd (upd (fun _ => 0) 0 3) 1 3) 2 3) 3 50))), (q_111, coE (upd (fun _ => 0) 9 (-1))), (q_112, coE (upd (fun _ => 0) 9 (-1))), (q_113, coE (upd (fun _ => 0) 9 (-1))), (q_114, coE (upd (fun _ => 0) 9 (-1))), (q_115, coE (upd (fun _ => 0) 9 (-1))), (q_116, coE (upd (fun _ => 0) 9 (-1))), (q_117, neE (fun _ => 0))] : va_W) H := fr_1 hP hD (k := 11) rfl hk9 hP9
  refine va_astq hx hb hK hP (aD_D hD rfl) hS 2 4 11 1 rfl rfl rfl rfl (show vp_in (0 : Int32) 3 from vp_in_nI (n := 0) (by decide) (by decide)) dX2_init_105 (fun H locs hP _ hS => ?_)
  have hP : va_P D vwCl ([(h0, .inr (2, [.ref q_107, .ref q_108, .ref q_109, .ref q_110, .int 0, .int 12, .int 0, .int 0, .int 0, .int 0])), (q_107, .inl (y 3, 6, .inr (.inr (.inr (.inr (va_up (va_up (va_up (va_up (va_up (va_up (fun _ => none) 0 (some q_111)) 1 (some q_112)) 2 (some q_113)) 3 (some q_114)) 4 (some q_115)) 5 (some q_116))))))), (q_108, .inl (y 4, 3, .inr (.inr (.inr (.inr (va_up (fun _ => none) 0 (some q_117))))))), (q_109, .inl (y 0, 16, .inl (fun _ => 0))), (q_110, .inl (y 0, 4, .inl (upd (upd (upd (upd (fun _ => 0) 0 3) 1 3) 2 3) 3 50))), (q_111, coE (upd (fun _ => 0) 9 (-1))), (q_112, coE (upd (fun _ => 0) 9 (-1))), (q_113, coE (upd (fun _ => 0) 9 (-1))), (q_114, coE (upd (fun _ => 0) 9 (-1))), (q_115, coE (upd (fun _ => 0) 9 (-1))), (q_116, coE (upd (fun _ => 0) 9 (-1))), (q_117, neE (fun _ => 0))] : va_W) H := hP
  refine lv_iinc (v := 1) (lv' := [(1, .int 1), (0, .ref h0)]) hx hb dX2_init_106 hl (k := 0) rfl (by decide) (by decide) rfl (fun ls hl => ?_)
  refine lv_goto (tgt := 88) hx hb dX2_init_109 (by decide) ?_
  refine lv_iload_n hx hb dX2_init_88 rfl (lv_at hl 0 rfl) ?_
  refine lv_iconst (v := 3) hx hb dX2_init_89 (by decide) ?_
  refine lv_icmp_ge (tgt := 112) hx hb dX2_init_90 (by decide) (fun c9 => absurd c9 (show ¬ (3 : Int32) ≤ 1 by decide)) (fun _ => ?_)
  refine lv_aload_n hx hb dX2_init_93 rfl (lv_at hl 1 rfl) ?_
  refine va_get (D := D) (ci := 2) (v := .ref q_108) (C := RX2) (T := TX2) (N := 10) hx hb hts hin2 hown hK hP 0 rfl rfl 1 (by decide) hf19 (fun _ h9 => h9) rfl dX2_init_94 ?_
  refine lv_iload_n hx hb dX2_init_97 rfl (lv_at hl 0 rfl) ?_
  refine va_new (ci := 1) (fs := [.int 0, .int 0, .int 0]) (C := RX1) (T := TX1) (N := 3) hx hb hts hin1 tyX1 tyX1_ok hown (hts (.classLink RX2 17 RX1) (by decide +kernel)) (hts (.instantiable RX1 3) (by decide +kernel)) (hts (.initialized RX1) (by decide +kernel)) hK hP (aD_D hD rfl) hS hA rfl (by decide) (Nat.le_of_ble_eq_true rfl) (Nat.le_of_ble_eq_true rfl) dX2_init_98 (fun q_118 H hP hD9 hS => ?_)
  have hP : va_P D vwCl ([(h0, .inr (2, [.ref q_107, .ref q_108, .ref q_109, .ref q_110, .int 0, .int 12, .int 0, .int 0, .int 0, .int 0])), (q_107, .inl (y 3, 6, .inr (.inr (.inr (.inr (va_up (va_up (va_up (va_up (va_up (va_up (fun _ => none) 0 (some q_111)) 1 (some q_112)) 2 (some q_113)) 3 (some q_114)) 4 (some q_115)) 5 (some q_116))))))), (q_108, .inl (y 4, 3, .inr (.inr (.inr (.inr (va_up (fun _ => none) 0 (some q_117))))))), (q_109, .inl (y 0, 16, .inl (fun _ => 0))), (q_110, .inl (y 0, 4, .inl (upd (upd (upd (upd (fun _ => 0) 0 3) 1 3) 2 3) 3 50))), (q_111, coE (upd (fun _ => 0) 9 (-1))), (q_112, coE (upd (fun _ => 0) 9 (-1))), (q_113, coE (upd (fun _ => 0) 9 (-1))), (q_114, coE (upd (fun _ => 0) 9 (-1))), (q_115, coE (upd (fun _ => 0) 9 (-1))), (q_116, coE (upd (fun _ => 0) 9 (-1))), (q_117, neE (fun _ => 0)), (q_118, neE (fun _ => 0))] : va_W) H := hP
  have hD : aD A [h0, q_107, q_108, q_109, q_110, q_111, q_112, q_113, q_114, q_115, q_116, q_117, q_118] := aD_of hD9
  refine lv_dup hx hb dX2_init_101 rfl ?_
  refine cWV_IN (host := "CoracleMakers") (As := []) (rest := [.ref q_118, .int 1, .ref q_108]) ⟨hx, hb, hml, hown, hts⟩ (c_X1_init l D y _ q_118 (fun _ => 0)) ⟨va_cnB 0 hts ggX2_init_X1_init rfl rfl rfl (hN.2.1 _ (List.mem_of_getElem? (i := 1) rfl)) (hts (.initialized RX1) (by decide +kernel)) (by decide +kernel) ⟨Nat.le_of_ble_eq_true rfl, Nat.le_of_ble_eq_true rfl⟩, rfl, hts (.instanceMethod yX1_init) (by decide +kernel)⟩ hK hN (P_m hP (k := 12) rfl) (aD_1 hD (k := 12) rfl) hS hA rfl hl.1 rfl (Nat.le_of_ble_eq_true rfl) dX2_init_102 ⟨Nat.le_of_ble_eq_true rfl, Nat.le_of_ble_eq_true rfl⟩ (fun H locs hP9 hk9 hS => ?_)
  have hP : va_P D vwCl ([(h0, .inr (2, [.ref q_107, .ref q_108, .ref q_109, .ref q_110, .int 0, .int 12, .int 0, .int 0, .int 0, .int 0])), (q_107, .inl (y 3, 6, .inr (.inr (.inr (.inr (va_up (va_up (va_up (va_up (va_up (va_up (fun _ => none) 0 (some q_111)) 1 (some q_112)) 2 (some q_113)) 3 (some q_114)) 4 (some q_115)) 5 (some q_116))))))), (q_108, .inl (y 4, 3, .inr (.inr (.inr (.inr (va_up (fun _ => none) 0 (some q_117))))))), (q_109, .inl (y 0, 16, .inl (fun _ => 0))), (q_110, .inl (y 0, 4, .inl (upd (upd (upd (upd (fun _ => 0) 0 3) 1 3) 2 3) 3 50))), (q_111, coE (upd (fun _ => 0) 9 (-1))), (q_112, coE (upd (fun _ => 0) 9 (-1))), (q_113, coE (upd (fun _ => 0) 9 (-1))), (q_114, coE (upd (fun _ => 0) 9 (-1))), (q_115, coE (upd (fun _ => 0) 9 (-1))), (q_116, coE (upd (fun _ => 0) 9 (-1))), (q_117, neE (fun _ => 0)), (q_118, neE (fun _ => 0))] : va_W) H := fr_1 hP hD (k := 12) rfl hk9 hP9
  refine va_astq hx hb hK hP (aD_D hD rfl) hS 2 4 12 1 rfl rfl rfl rfl (show vp_in (1 : Int32) 3 from vp_in_nI (n := 1) (by decide) (by decide)) dX2_init_105 (fun H locs hP _ hS => ?_)
  have hP : va_P D vwCl ([(h0, .inr (2, [.ref q_107, .ref q_108, .ref q_109, .ref q_110, .int 0, .int 12, .int 0, .int 0, .int 0, .int 0])), (q_107, .inl (y 3, 6, .inr (.inr (.inr (.inr (va_up (va_up (va_up (va_up (va_up (va_up (fun _ => none) 0 (some q_111)) 1 (some q_112)) 2 (some q_113)) 3 (some q_114)) 4 (some q_115)) 5 (some q_116))))))), (q_108, .inl (y 4, 3, .inr (.inr (.inr (.inr (va_up (va_up (fun _ => none) 0 (some q_117)) 1 (some q_118))))))), (q_109, .inl (y 0, 16, .inl (fun _ => 0))), (q_110, .inl (y 0, 4, .inl (upd (upd (upd (upd (fun _ => 0) 0 3) 1 3) 2 3) 3 50))), (q_111, coE (upd (fun _ => 0) 9 (-1))), (q_112, coE (upd (fun _ => 0) 9 (-1))), (q_113, coE (upd (fun _ => 0) 9 (-1))), (q_114, coE (upd (fun _ => 0) 9 (-1))), (q_115, coE (upd (fun _ => 0) 9 (-1))), (q_116, coE (upd (fun _ => 0) 9 (-1))), (q_117, neE (fun _ => 0)), (q_118, neE (fun _ => 0))] : va_W) H := hP
  refine lv_iinc (v := 2) (lv' := [(1, .int 2), (0, .ref h0)]) hx hb dX2_init_106 hl (k := 0) rfl (by decide) (by decide) rfl (fun ls hl => ?_)
  refine lv_goto (tgt := 88) hx hb dX2_init_109 (by decide) ?_
  refine lv_iload_n hx hb dX2_init_88 rfl (lv_at hl 0 rfl) ?_
  refine lv_iconst (v := 3) hx hb dX2_init_89 (by decide) ?_
  refine lv_icmp_ge (tgt := 112) hx hb dX2_init_90 (by decide) (fun c9 => absurd c9 (show ¬ (3 : Int32) ≤ 2 by decide)) (fun _ => ?_)
  refine lv_aload_n hx hb dX2_init_93 rfl (lv_at hl 1 rfl) ?_
  refine va_get (D := D) (ci := 2) (v := .ref q_108) (C := RX2) (T := TX2) (N := 10) hx hb hts hin2 hown hK hP 0 rfl rfl 1 (by decide) hf19 (fun _ h9 => h9) rfl dX2_init_94 ?_
  refine lv_iload_n hx hb dX2_init_97 rfl (lv_at hl 0 rfl) ?_
  refine va_new (ci := 1) (fs := [.int 0, .int 0, .int 0]) (C := RX1) (T := TX1) (N := 3) hx hb hts hin1 tyX1 tyX1_ok hown (hts (.classLink RX2 17 RX1) (by decide +kernel)) (hts (.instantiable RX1 3) (by decide +kernel)) (hts (.initialized RX1) (by decide +kernel)) hK hP (aD_D hD rfl) hS hA rfl (by decide) (Nat.le_of_ble_eq_true rfl) (Nat.le_of_ble_eq_true rfl) dX2_init_98 (fun q_119 H hP hD9 hS => ?_)
  have hP : va_P D vwCl ([(h0, .inr (2, [.ref q_107, .ref q_108, .ref q_109, .ref q_110, .int 0, .int 12, .int 0, .int 0, .int 0, .int 0])), (q_107, .inl (y 3, 6, .inr (.inr (.inr (.inr (va_up (va_up (va_up (va_up (va_up (va_up (fun _ => none) 0 (some q_111)) 1 (some q_112)) 2 (some q_113)) 3 (some q_114)) 4 (some q_115)) 5 (some q_116))))))), (q_108, .inl (y 4, 3, .inr (.inr (.inr (.inr (va_up (va_up (fun _ => none) 0 (some q_117)) 1 (some q_118))))))), (q_109, .inl (y 0, 16, .inl (fun _ => 0))), (q_110, .inl (y 0, 4, .inl (upd (upd (upd (upd (fun _ => 0) 0 3) 1 3) 2 3) 3 50))), (q_111, coE (upd (fun _ => 0) 9 (-1))), (q_112, coE (upd (fun _ => 0) 9 (-1))), (q_113, coE (upd (fun _ => 0) 9 (-1))), (q_114, coE (upd (fun _ => 0) 9 (-1))), (q_115, coE (upd (fun _ => 0) 9 (-1))), (q_116, coE (upd (fun _ => 0) 9 (-1))), (q_117, neE (fun _ => 0)), (q_118, neE (fun _ => 0)), (q_119, neE (fun _ => 0))] : va_W) H := hP
  have hD : aD A [h0, q_107, q_108, q_109, q_110, q_111, q_112, q_113, q_114, q_115, q_116, q_117, q_118, q_119] := aD_of hD9
  refine lv_dup hx hb dX2_init_101 rfl ?_
  refine cWV_IN (host := "CoracleMakers") (As := []) (rest := [.ref q_119, .int 2, .ref q_108]) ⟨hx, hb, hml, hown, hts⟩ (c_X1_init l D y _ q_119 (fun _ => 0)) ⟨va_cnB 0 hts ggX2_init_X1_init rfl rfl rfl (hN.2.1 _ (List.mem_of_getElem? (i := 1) rfl)) (hts (.initialized RX1) (by decide +kernel)) (by decide +kernel) ⟨Nat.le_of_ble_eq_true rfl, Nat.le_of_ble_eq_true rfl⟩, rfl, hts (.instanceMethod yX1_init) (by decide +kernel)⟩ hK hN (P_m hP (k := 13) rfl) (aD_1 hD (k := 13) rfl) hS hA rfl hl.1 rfl (Nat.le_of_ble_eq_true rfl) dX2_init_102 ⟨Nat.le_of_ble_eq_true rfl, Nat.le_of_ble_eq_true rfl⟩ (fun H locs hP9 hk9 hS => ?_)
  have hP : va_P D vwCl ([(h0, .inr (2, [.ref q_107, .ref q_108, .ref q_109, .ref q_110, .int 0, .int 12, .int 0, .int 0, .int 0, .int 0])), (q_107, .inl (y 3, 6, .inr (.inr (.inr (.inr (va_up (va_up (va_up (va_up (va_up (va_up (fun _ => none) 0 (some q_111)) 1 (some q_112)) 2 (some q_113)) 3 (some q_114)) 4 (some q_115)) 5 (some q_116))))))), (q_108, .inl (y 4, 3, .inr (.inr (.inr (.inr (va_up (va_up (fun _ => none) 0 (some q_117)) 1 (some q_118))))))), (q_109, .inl (y 0, 16, .inl (fun _ => 0))), (q_110, .inl (y 0, 4, .inl (upd (upd (upd (upd (fun _ => 0) 0 3) 1 3) 2 3) 3 50))), (q_111, coE (upd (fun _ => 0) 9 (-1))), (q_112, coE (upd (fun _ => 0) 9 (-1))), (q_113, coE (upd (fun _ => 0) 9 (-1))), (q_114, coE (upd (fun _ => 0) 9 (-1))), (q_115, coE (upd (fun _ => 0) 9 (-1))), (q_116, coE (upd (fun _ => 0) 9 (-1))), (q_117, neE (fun _ => 0)), (q_118, neE (fun _ => 0)), (q_119, neE (fun _ => 0))] : va_W) H := fr_1 hP hD (k := 13) rfl hk9 hP9
  refine va_astq hx hb hK hP (aD_D hD rfl) hS 2 4 13 1 rfl rfl rfl rfl (show vp_in (2 : Int32) 3 from vp_in_nI (n := 2) (by decide) (by decide)) dX2_init_105 (fun H locs hP _ hS => ?_)
  have hP : va_P D vwCl ([(h0, .inr (2, [.ref q_107, .ref q_108, .ref q_109, .ref q_110, .int 0, .int 12, .int 0, .int 0, .int 0, .int 0])), (q_107, .inl (y 3, 6, .inr (.inr (.inr (.inr (va_up (va_up (va_up (va_up (va_up (va_up (fun _ => none) 0 (some q_111)) 1 (some q_112)) 2 (some q_113)) 3 (some q_114)) 4 (some q_115)) 5 (some q_116))))))), (q_108, .inl (y 4, 3, .inr (.inr (.inr (.inr (va_up (va_up (va_up (fun _ => none) 0 (some q_117)) 1 (some q_118)) 2 (some q_119))))))), (q_109, .inl (y 0, 16, .inl (fun _ => 0))), (q_110, .inl (y 0, 4, .inl (upd (upd (upd (upd (fun _ => 0) 0 3) 1 3) 2 3) 3 50))), (q_111, coE (upd (fun _ => 0) 9 (-1))), (q_112, coE (upd (fun _ => 0) 9 (-1))), (q_113, coE (upd (fun _ => 0) 9 (-1))), (q_114, coE (upd (fun _ => 0) 9 (-1))), (q_115, coE (upd (fun _ => 0) 9 (-1))), (q_116, coE (upd (fun _ => 0) 9 (-1))), (q_117, neE (fun _ => 0)), (q_118, neE (fun _ => 0)), (q_119, neE (fun _ => 0))] : va_W) H := hP
  refine lv_iinc (v := 3) (lv' := [(1, .int 3), (0, .ref h0)]) hx hb dX2_init_106 hl (k := 0) rfl (by decide) (by decide) rfl (fun ls hl => ?_)
  refine lv_goto (tgt := 88) hx hb dX2_init_109 (by decide) ?_
  refine lv_iload_n hx hb dX2_init_88 rfl (lv_at hl 0 rfl) ?_
  refine lv_iconst (v := 3) hx hb dX2_init_89 (by decide) ?_
  refine lv_icmp_ge (tgt := 112) hx hb dX2_init_90 (by decide) (fun _ => ?_) (fun c9 => absurd (show (3 : Int32) ≤ 3 by decide) c9)
  refine lv_iconst (v := 0) hx hb dX2_init_112 (by decide) ?_
  refine lv_istore_n (lv' := [(1, .int 0), (0, .ref h0)]) hx hb dX2_init_113 rfl hl (by decide) rfl (fun ls hl => ?_)
  refine lv_iload_n hx hb dX2_init_114 rfl (lv_at hl 0 rfl) ?_
  refine lv_bipush (v := 16) hx hb dX2_init_115 (by decide) ?_
  refine lv_icmp_ge (tgt := 133) hx hb dX2_init_117 (by decide) (fun c9 => absurd c9 (show ¬ (16 : Int32) ≤ 0 by decide)) (fun _ => ?_)
  refine lv_aload_n hx hb dX2_init_120 rfl (lv_at hl 1 rfl) ?_
  refine va_get (D := D) (ci := 2) (v := .ref q_109) (C := RX2) (T := TX2) (N := 10) hx hb hts hin2 hown hK hP 0 rfl rfl 2 (by decide) hf23 (fun _ h9 => h9) rfl dX2_init_121 ?_
  refine lv_iload_n hx hb dX2_init_124 rfl (lv_at hl 0 rfl) ?_
  refine lv_iconst (v := 4) hx hb dX2_init_125 (by decide) ?_
  refine va_iast hx hb hK hP (aD_D hD rfl) hS 3 0 rfl rfl (show vp_in (0 : Int32) 16 from vp_in_nI (n := 0) (by decide) (by decide)) dX2_init_126 (fun H locs hP _ hS => ?_)
  have hP : va_P D vwCl ([(h0, .inr (2, [.ref q_107, .ref q_108, .ref q_109, .ref q_110, .int 0, .int 12, .int 0, .int 0, .int 0, .int 0])), (q_107, .inl (y 3, 6, .inr (.inr (.inr (.inr (va_up (va_up (va_up (va_up (va_up (va_up (fun _ => none) 0 (some q_111)) 1 (some q_112)) 2 (some q_113)) 3 (some q_114)) 4 (some q_115)) 5 (some q_116))))))), (q_108, .inl (y 4, 3, .inr (.inr (.inr (.inr (va_up (va_up (va_up (fun _ => none) 0 (some q_117)) 1 (some q_118)) 2 (some q_119))))))), (q_109, .inl (y 0, 16, .inl (upd (fun _ => 0) 0 4))), (q_110, .inl (y 0, 4, .inl (upd (upd (upd (upd (fun _ => 0) 0 3) 1 3) 2 3) 3 50))), (q_111, coE (upd (fun _ => 0) 9 (-1))), (q_112, coE (upd (fun _ => 0) 9 (-1))), (q_113, coE (upd (fun _ => 0) 9 (-1))), (q_114, coE (upd (fun _ => 0) 9 (-1))), (q_115, coE (upd (fun _ => 0) 9 (-1))), (q_116, coE (upd (fun _ => 0) 9 (-1))), (q_117, neE (fun _ => 0)), (q_118, neE (fun _ => 0)), (q_119, neE (fun _ => 0))] : va_W) H := hP
  refine lv_iinc (v := 1) (lv' := [(1, .int 1), (0, .ref h0)]) hx hb dX2_init_127 hl (k := 0) rfl (by decide) (by decide) rfl (fun ls hl => ?_)
  refine lv_goto (tgt := 114) hx hb dX2_init_130 (by decide) ?_
  refine lv_iload_n hx hb dX2_init_114 rfl (lv_at hl 0 rfl) ?_
  refine lv_bipush (v := 16) hx hb dX2_init_115 (by decide) ?_
  refine lv_icmp_ge (tgt := 133) hx hb dX2_init_117 (by decide) (fun c9 => absurd c9 (show ¬ (16 : Int32) ≤ 1 by decide)) (fun _ => ?_)
  refine lv_aload_n hx hb dX2_init_120 rfl (lv_at hl 1 rfl) ?_
  refine va_get (D := D) (ci := 2) (v := .ref q_109) (C := RX2) (T := TX2) (N := 10) hx hb hts hin2 hown hK hP 0 rfl rfl 2 (by decide) hf23 (fun _ h9 => h9) rfl dX2_init_121 ?_
  refine lv_iload_n hx hb dX2_init_124 rfl (lv_at hl 0 rfl) ?_
  refine lv_iconst (v := 4) hx hb dX2_init_125 (by decide) ?_
  refine va_iast hx hb hK hP (aD_D hD rfl) hS 3 0 rfl rfl (show vp_in (1 : Int32) 16 from vp_in_nI (n := 1) (by decide) (by decide)) dX2_init_126 (fun H locs hP _ hS => ?_)
  have hP : va_P D vwCl ([(h0, .inr (2, [.ref q_107, .ref q_108, .ref q_109, .ref q_110, .int 0, .int 12, .int 0, .int 0, .int 0, .int 0])), (q_107, .inl (y 3, 6, .inr (.inr (.inr (.inr (va_up (va_up (va_up (va_up (va_up (va_up (fun _ => none) 0 (some q_111)) 1 (some q_112)) 2 (some q_113)) 3 (some q_114)) 4 (some q_115)) 5 (some q_116))))))), (q_108, .inl (y 4, 3, .inr (.inr (.inr (.inr (va_up (va_up (va_up (fun _ => none) 0 (some q_117)) 1 (some q_118)) 2 (some q_119))))))), (q_109, .inl (y 0, 16, .inl (upd (upd (fun _ => 0) 0 4) 1 4))), (q_110, .inl (y 0, 4, .inl (upd (upd (upd (upd (fun _ => 0) 0 3) 1 3) 2 3) 3 50))), (q_111, coE (upd (fun _ => 0) 9 (-1))), (q_112, coE (upd (fun _ => 0) 9 (-1))), (q_113, coE (upd (fun _ => 0) 9 (-1))), (q_114, coE (upd (fun _ => 0) 9 (-1))), (q_115, coE (upd (fun _ => 0) 9 (-1))), (q_116, coE (upd (fun _ => 0) 9 (-1))), (q_117, neE (fun _ => 0)), (q_118, neE (fun _ => 0)), (q_119, neE (fun _ => 0))] : va_W) H := hP
  refine lv_iinc (v := 2) (lv' := [(1, .int 2), (0, .ref h0)]) hx hb dX2_init_127 hl (k := 0) rfl (by decide) (by decide) rfl (fun ls hl => ?_)
  refine lv_goto (tgt := 114) hx hb dX2_init_130 (by decide) ?_
  refine lv_iload_n hx hb dX2_init_114 rfl (lv_at hl 0 rfl) ?_
  refine lv_bipush (v := 16) hx hb dX2_init_115 (by decide) ?_
  refine lv_icmp_ge (tgt := 133) hx hb dX2_init_117 (by decide) (fun c9 => absurd c9 (show ¬ (16 : Int32) ≤ 2 by decide)) (fun _ => ?_)
  refine lv_aload_n hx hb dX2_init_120 rfl (lv_at hl 1 rfl) ?_
  refine va_get (D := D) (ci := 2) (v := .ref q_109) (C := RX2) (T := TX2) (N := 10) hx hb hts hin2 hown hK hP 0 rfl rfl 2 (by decide) hf23 (fun _ h9 => h9) rfl dX2_init_121 ?_
  refine lv_iload_n hx hb dX2_init_124 rfl (lv_at hl 0 rfl) ?_
  refine lv_iconst (v := 4) hx hb dX2_init_125 (by decide) ?_
  refine va_iast hx hb hK hP (aD_D hD rfl) hS 3 0 rfl rfl (show vp_in (2 : Int32) 16 from vp_in_nI (n := 2) (by decide) (by decide)) dX2_init_126 (fun H locs hP _ hS => ?_)
  have hP : va_P D vwCl ([(h0, .inr (2, [.ref q_107, .ref q_108, .ref q_109, .ref q_110, .int 0, .int 12, .int 0, .int 0, .int 0, .int 0])), (q_107, .inl (y 3, 6, .inr (.inr (.inr (.inr (va_up (va_up (va_up (va_up (va_up (va_up (fun _ => none) 0 (some q_111)) 1 (some q_112)) 2 (some q_113)) 3 (some q_114)) 4 (some q_115)) 5 (some q_116))))))), (q_108, .inl (y 4, 3, .inr (.inr (.inr (.inr (va_up (va_up (va_up (fun _ => none) 0 (some q_117)) 1 (some q_118)) 2 (some q_119))))))), (q_109, .inl (y 0, 16, .inl (upd (upd (upd (fun _ => 0) 0 4) 1 4) 2 4))), (q_110, .inl (y 0, 4, .inl (upd (upd (upd (upd (fun _ => 0) 0 3) 1 3) 2 3) 3 50))), (q_111, coE (upd (fun _ => 0) 9 (-1))), (q_112, coE (upd (fun _ => 0) 9 (-1))), (q_113, coE (upd (fun _ => 0) 9 (-1))), (q_114, coE (upd (fun _ => 0) 9 (-1))), (q_115, coE (upd (fun _ => 0) 9 (-1))), (q_116, coE (upd (fun _ => 0) 9 (-1))), (q_117, neE (fun _ => 0)), (q_118, neE (fun _ => 0)), (q_119, neE (fun _ => 0))] : va_W) H := hP
  refine lv_iinc (v := 3) (lv' := [(1, .int 3), (0, .ref h0)]) hx hb dX2_init_127 hl (k := 0) rfl (by decide) (by decide) rfl (fun ls hl => ?_)
  refine lv_goto (tgt := 114) hx hb dX2_init_130 (by decide) ?_
  refine lv_iload_n hx hb dX2_init_114 rfl (lv_at hl 0 rfl) ?_
  refine lv_bipush (v := 16) hx hb dX2_init_115 (by decide) ?_
  refine lv_icmp_ge (tgt := 133) hx hb dX2_init_117 (by decide) (fun c9 => absurd c9 (show ¬ (16 : Int32) ≤ 3 by decide)) (fun _ => ?_)
  refine lv_aload_n hx hb dX2_init_120 rfl (lv_at hl 1 rfl) ?_
  refine va_get (D := D) (ci := 2) (v := .ref q_109) (C := RX2) (T := TX2) (N := 10) hx hb hts hin2 hown hK hP 0 rfl rfl 2 (by decide) hf23 (fun _ h9 => h9) rfl dX2_init_121 ?_
  refine lv_iload_n hx hb dX2_init_124 rfl (lv_at hl 0 rfl) ?_
  refine lv_iconst (v := 4) hx hb dX2_init_125 (by decide) ?_
  refine va_iast hx hb hK hP (aD_D hD rfl) hS 3 0 rfl rfl (show vp_in (3 : Int32) 16 from vp_in_nI (n := 3) (by decide) (by decide)) dX2_init_126 (fun H locs hP _ hS => ?_)
  have hP : va_P D vwCl ([(h0, .inr (2, [.ref q_107, .ref q_108, .ref q_109, .ref q_110, .int 0, .int 12, .int 0, .int 0, .int 0, .int 0])), (q_107, .inl (y 3, 6, .inr (.inr (.inr (.inr (va_up (va_up (va_up (va_up (va_up (va_up (fun _ => none) 0 (some q_111)) 1 (some q_112)) 2 (some q_113)) 3 (some q_114)) 4 (some q_115)) 5 (some q_116))))))), (q_108, .inl (y 4, 3, .inr (.inr (.inr (.inr (va_up (va_up (va_up (fun _ => none) 0 (some q_117)) 1 (some q_118)) 2 (some q_119))))))), (q_109, .inl (y 0, 16, .inl (upd (upd (upd (upd (fun _ => 0) 0 4) 1 4) 2 4) 3 4))), (q_110, .inl (y 0, 4, .inl (upd (upd (upd (upd (fun _ => 0) 0 3) 1 3) 2 3) 3 50))), (q_111, coE (upd (fun _ => 0) 9 (-1))), (q_112, coE (upd (fun _ => 0) 9 (-1))), (q_113, coE (upd (fun _ => 0) 9 (-1))), (q_114, coE (upd (fun _ => 0) 9 (-1))), (q_115, coE (upd (fun _ => 0) 9 (-1))), (q_116, coE (upd (fun _ => 0) 9 (-1))), (q_117, neE (fun _ => 0)), (q_118, neE (fun _ => 0)), (q_119, neE (fun _ => 0))] : va_W) H := hP
  refine lv_iinc (v := 4) (lv' := [(1, .int 4), (0, .ref h0)]) hx hb dX2_init_127 hl (k := 0) rfl (by decide) (by decide) rfl (fun ls hl => ?_)
  refine lv_goto (tgt := 114) hx hb dX2_init_130 (by decide) ?_
  refine lv_iload_n hx hb dX2_init_114 rfl (lv_at hl 0 rfl) ?_
  refine lv_bipush (v := 16) hx hb dX2_init_115 (by decide) ?_
  refine lv_icmp_ge (tgt := 133) hx hb dX2_init_117 (by decide) (fun c9 => absurd c9 (show ¬ (16 : Int32) ≤ 4 by decide)) (fun _ => ?_)
  refine lv_aload_n hx hb dX2_init_120 rfl (lv_at hl 1 rfl) ?_
  refine va_get (D := D) (ci := 2) (v := .ref q_109) (C := RX2) (T := TX2) (N := 10) hx hb hts hin2 hown hK hP 0 rfl rfl 2 (by decide) hf23 (fun _ h9 => h9) rfl dX2_init_121 ?_
  refine lv_iload_n hx hb dX2_init_124 rfl (lv_at hl 0 rfl) ?_
  refine lv_iconst (v := 4) hx hb dX2_init_125 (by decide) ?_
  refine va_iast hx hb hK hP (aD_D hD rfl) hS 3 0 rfl rfl (show vp_in (4 : Int32) 16 from vp_in_nI (n := 4) (by decide) (by decide)) dX2_init_126 (fun H locs hP _ hS => ?_)
  have hP : va_P D vwCl ([(h0, .inr (2, [.ref q_107, .ref q_108, .ref q_109, .ref q_110, .int 0, .int 12, .int 0, .int 0, .int 0, .int 0])), (q_107, .inl (y 3, 6, .inr (.inr (.inr (.inr (va_up (va_up (va_up (va_up (va_up (va_up (fun _ => none) 0 (some q_111)) 1 (some q_112)) 2 (some q_113)) 3 (some q_114)) 4 (some q_115)) 5 (some q_116))))))), (q_108, .inl (y 4, 3, .inr (.inr (.inr (.inr (va_up (va_up (va_up (fun _ => none) 0 (some q_117)) 1 (some q_118)) 2 (some q_119))))))), (q_109, .inl (y 0, 16, .inl (upd (upd (upd (upd (upd (fun _ => 0) 0 4) 1 4) 2 4) 3 4) 4 4))), (q_110, .inl (y 0, 4, .inl (upd (upd (upd (upd (fun _ => 0) 0 3) 1 3) 2 3) 3 50))), (q_111, coE (upd (fun _ => 0) 9 (-1))), (q_112, coE (upd (fun _ => 0) 9 (-1))), (q_113, coE (upd (fun _ => 0) 9 (-1))), (q_114, coE (upd (fun _ => 0) 9 (-1))), (q_115, coE (upd (fun _ => 0) 9 (-1))), (q_116, coE (upd (fun _ => 0) 9 (-1))), (q_117, neE (fun _ => 0)), (q_118, neE (fun _ => 0)), (q_119, neE (fun _ => 0))] : va_W) H := hP
  refine lv_iinc (v := 5) (lv' := [(1, .int 5), (0, .ref h0)]) hx hb dX2_init_127 hl (k := 0) rfl (by decide) (by decide) rfl (fun ls hl => ?_)
  refine lv_goto (tgt := 114) hx hb dX2_init_130 (by decide) ?_
  refine lv_iload_n hx hb dX2_init_114 rfl (lv_at hl 0 rfl) ?_
  refine lv_bipush (v := 16) hx hb dX2_init_115 (by decide) ?_
  refine lv_icmp_ge (tgt := 133) hx hb dX2_init_117 (by decide) (fun c9 => absurd c9 (show ¬ (16 : Int32) ≤ 5 by decide)) (fun _ => ?_)
  refine lv_aload_n hx hb dX2_init_120 rfl (lv_at hl 1 rfl) ?_
  refine va_get (D := D) (ci := 2) (v := .ref q_109) (C := RX2) (T := TX2) (N := 10) hx hb hts hin2 hown hK hP 0 rfl rfl 2 (by decide) hf23 (fun _ h9 => h9) rfl dX2_init_121 ?_
  refine lv_iload_n hx hb dX2_init_124 rfl (lv_at hl 0 rfl) ?_
  refine lv_iconst (v := 4) hx hb dX2_init_125 (by decide) ?_
  refine va_iast hx hb hK hP (aD_D hD rfl) hS 3 0 rfl rfl (show vp_in (5 : Int32) 16 from vp_in_nI (n := 5) (by decide) (by decide)) dX2_init_126 (fun H locs hP _ hS => ?_)
  have hP : va_P D vwCl ([(h0, .inr (2, [.ref q_107, .ref q_108, .ref q_109, .ref q_110, .int 0, .int 12, .int 0, .int 0, .int 0, .int 0])), (q_107, .inl (y 3, 6, .inr (.inr (.inr (.inr (va_up (va_up (va_up (va_up (va_up (va_up (fun _ => none) 0 (some q_111)) 1 (some q_112)) 2 (some q_113)) 3 (some q_114)) 4 (some q_115)) 5 (some q_116))))))), (q_108, .inl (y 4, 3, .inr (.inr (.inr (.inr (va_up (va_up (va_up (fun _ => none) 0 (some q_117)) 1 (some q_118)) 2 (some q_119))))))), (q_109, .inl (y 0, 16, .inl (upd (upd (upd (upd (upd (upd (fun _ => 0) 0 4) 1 4) 2 4) 3 4) 4 4) 5 4))), (q_110, .inl (y 0, 4, .inl (upd (upd (upd (upd (fun _ => 0) 0 3) 1 3) 2 3) 3 50))), (q_111, coE (upd (fun _ => 0) 9 (-1))), (q_112, coE (upd (fun _ => 0) 9 (-1))), (q_113, coE (upd (fun _ => 0) 9 (-1))), (q_114, coE (upd (fun _ => 0) 9 (-1))), (q_115, coE (upd (fun _ => 0) 9 (-1))), (q_116, coE (upd (fun _ => 0) 9 (-1))), (q_117, neE (fun _ => 0)), (q_118, neE (fun _ => 0)), (q_119, neE (fun _ => 0))] : va_W) H := hP
  refine lv_iinc (v := 6) (lv' := [(1, .int 6), (0, .ref h0)]) hx hb dX2_init_127 hl (k := 0) rfl (by decide) (by decide) rfl (fun ls hl => ?_)
  refine lv_goto (tgt := 114) hx hb dX2_init_130 (by decide) ?_
  refine lv_iload_n hx hb dX2_init_114 rfl (lv_at hl 0 rfl) ?_
  refine lv_bipush (v := 16) hx hb dX2_init_115 (by decide) ?_
  refine lv_icmp_ge (tgt := 133) hx hb dX2_init_117 (by decide) (fun c9 => absurd c9 (show ¬ (16 : Int32) ≤ 6 by decide)) (fun _ => ?_)
  refine lv_aload_n hx hb dX2_init_120 rfl (lv_at hl 1 rfl) ?_
  refine va_get (D := D) (ci := 2) (v := .ref q_109) (C := RX2) (T := TX2) (N := 10) hx hb hts hin2 hown hK hP 0 rfl rfl 2 (by decide) hf23 (fun _ h9 => h9) rfl dX2_init_121 ?_
  refine lv_iload_n hx hb dX2_init_124 rfl (lv_at hl 0 rfl) ?_
  refine lv_iconst (v := 4) hx hb dX2_init_125 (by decide) ?_
  refine va_iast hx hb hK hP (aD_D hD rfl) hS 3 0 rfl rfl (show vp_in (6 : Int32) 16 from vp_in_nI (n := 6) (by decide) (by decide)) dX2_init_126 (fun H locs hP _ hS => ?_)
  have hP : va_P D vwCl ([(h0, .inr (2, [.ref q_107, .ref q_108, .ref q_109, .ref q_110, .int 0, .int 12, .int 0, .int 0, .int 0, .int 0])), (q_107, .inl (y 3, 6, .inr (.inr (.inr (.inr (va_up (va_up (va_up (va_up (va_up (va_up (fun _ => none) 0 (some q_111)) 1 (some q_112)) 2 (some q_113)) 3 (some q_114)) 4 (some q_115)) 5 (some q_116))))))), (q_108, .inl (y 4, 3, .inr (.inr (.inr (.inr (va_up (va_up (va_up (fun _ => none) 0 (some q_117)) 1 (some q_118)) 2 (some q_119))))))), (q_109, .inl (y 0, 16, .inl (upd (upd (upd (upd (upd (upd (upd (fun _ => 0) 0 4) 1 4) 2 4) 3 4) 4 4) 5 4) 6 4))), (q_110, .inl (y 0, 4, .inl (upd (upd (upd (upd (fun _ => 0) 0 3) 1 3) 2 3) 3 50))), (q_111, coE (upd (fun _ => 0) 9 (-1))), (q_112, coE (upd (fun _ => 0) 9 (-1))), (q_113, coE (upd (fun _ => 0) 9 (-1))), (q_114, coE (upd (fun _ => 0) 9 (-1))), (q_115, coE (upd (fun _ => 0) 9 (-1))), (q_116, coE (upd (fun _ => 0) 9 (-1))), (q_117, neE (fun _ => 0)), (q_118, neE (fun _ => 0)), (q_119, neE (fun _ => 0))] : va_W) H := hP
  refine lv_iinc (v := 7) (lv' := [(1, .int 7), (0, .ref h0)]) hx hb dX2_init_127 hl (k := 0) rfl (by decide) (by decide) rfl (fun ls hl => ?_)
  refine lv_goto (tgt := 114) hx hb dX2_init_130 (by decide) ?_
  refine lv_iload_n hx hb dX2_init_114 rfl (lv_at hl 0 rfl) ?_
  refine lv_bipush (v := 16) hx hb dX2_init_115 (by decide) ?_
  refine lv_icmp_ge (tgt := 133) hx hb dX2_init_117 (by decide) (fun c9 => absurd c9 (show ¬ (16 : Int32) ≤ 7 by decide)) (fun _ => ?_)
  refine lv_aload_n hx hb dX2_init_120 rfl (lv_at hl 1 rfl) ?_
  refine va_get (D := D) (ci := 2) (v := .ref q_109) (C := RX2) (T := TX2) (N := 10) hx hb hts hin2 hown hK hP 0 rfl rfl 2 (by decide) hf23 (fun _ h9 => h9) rfl dX2_init_121 ?_
  refine lv_iload_n hx hb dX2_init_124 rfl (lv_at hl 0 rfl) ?_
  refine lv_iconst (v := 4) hx hb dX2_init_125 (by decide) ?_
  refine va_iast hx hb hK hP (aD_D hD rfl) hS 3 0 rfl rfl (show vp_in (7 : Int32) 16 from vp_in_nI (n := 7) (by decide) (by decide)) dX2_init_126 (fun H locs hP _ hS => ?_)
  have hP : va_P D vwCl ([(h0, .inr (2, [.ref q_107, .ref q_108, .ref q_109, .ref q_110, .int 0, .int 12, .int 0, .int 0, .int 0, .int 0])), (q_107, .inl (y 3, 6, .inr (.inr (.inr (.inr (va_up (va_up (va_up (va_up (va_up (va_up (fun _ => none) 0 (some q_111)) 1 (some q_112)) 2 (some q_113)) 3 (some q_114)) 4 (some q_115)) 5 (some q_116))))))), (q_108, .inl (y 4, 3, .inr (.inr (.inr (.inr (va_up (va_up (va_up (fun _ => none) 0 (some q_117)) 1 (some q_118)) 2 (some q_119))))))), (q_109, .inl (y 0, 16, .inl (upd (upd (upd (upd (upd (upd (upd (upd (fun _ => 0) 0 4) 1 4) 2 4) 3 4) 4 4) 5 4) 6 4) 7 4))), (q_110, .inl (y 0, 4, .inl (upd (upd (upd (upd (fun _ => 0) 0 3) 1 3) 2 3) 3 50))), (q_111, coE (upd (fun _ => 0) 9 (-1))), (q_112, coE (upd (fun _ => 0) 9 (-1))), (q_113, coE (upd (fun _ => 0) 9 (-1))), (q_114, coE (upd (fun _ => 0) 9 (-1))), (q_115, coE (upd (fun _ => 0) 9 (-1))), (q_116, coE (upd (fun _ => 0) 9 (-1))), (q_117, neE (fun _ => 0)), (q_118, neE (fun _ => 0)), (q_119, neE (fun _ => 0))] : va_W) H := hP
  refine lv_iinc (v := 8) (lv' := [(1, .int 8), (0, .ref h0)]) hx hb dX2_init_127 hl (k := 0) rfl (by decide) (by decide) rfl (fun ls hl => ?_)
  refine lv_goto (tgt := 114) hx hb dX2_init_130 (by decide) ?_
  refine lv_iload_n hx hb dX2_init_114 rfl (lv_at hl 0 rfl) ?_
  refine lv_bipush (v := 16) hx hb dX2_init_115 (by decide) ?_
  refine lv_icmp_ge (tgt := 133) hx hb dX2_init_117 (by decide) (fun c9 => absurd c9 (show ¬ (16 : Int32) ≤ 8 by decide)) (fun _ => ?_)
  refine lv_aload_n hx hb dX2_init_120 rfl (lv_at hl 1 rfl) ?_
  refine va_get (D := D) (ci := 2) (v := .ref q_109) (C := RX2) (T := TX2) (N := 10) hx hb hts hin2 hown hK hP 0 rfl rfl 2 (by decide) hf23 (fun _ h9 => h9) rfl dX2_init_121 ?_
  refine lv_iload_n hx hb dX2_init_124 rfl (lv_at hl 0 rfl) ?_
  refine lv_iconst (v := 4) hx hb dX2_init_125 (by decide) ?_
  refine va_iast hx hb hK hP (aD_D hD rfl) hS 3 0 rfl rfl (show vp_in (8 : Int32) 16 from vp_in_nI (n := 8) (by decide) (by decide)) dX2_init_126 (fun H locs hP _ hS => ?_)
  have hP : va_P D vwCl ([(h0, .inr (2, [.ref q_107, .ref q_108, .ref q_109, .ref q_110, .int 0, .int 12, .int 0, .int 0, .int 0, .int 0])), (q_107, .inl (y 3, 6, .inr (.inr (.inr (.inr (va_up (va_up (va_up (va_up (va_up (va_up (fun _ => none) 0 (some q_111)) 1 (some q_112)) 2 (some q_113)) 3 (some q_114)) 4 (some q_115)) 5 (some q_116))))))), (q_108, .inl (y 4, 3, .inr (.inr (.inr (.inr (va_up (va_up (va_up (fun _ => none) 0 (some q_117)) 1 (some q_118)) 2 (some q_119))))))), (q_109, .inl (y 0, 16, .inl (upd (upd (upd (upd (upd (upd (upd (upd (upd (fun _ => 0) 0 4) 1 4) 2 4) 3 4) 4 4) 5 4) 6 4) 7 4) 8 4))), (q_110, .inl (y 0, 4, .inl (upd (upd (upd (upd (fun _ => 0) 0 3) 1 3) 2 3) 3 50))), (q_111, coE (upd (fun _ => 0) 9 (-1))), (q_112, coE (upd (fun _ => 0) 9 (-1))), (q_113, coE (upd (fun _ => 0) 9 (-1))), (q_114, coE (upd (fun _ => 0) 9 (-1))), (q_115, coE (upd (fun _ => 0) 9 (-1))), (q_116, coE (upd (fun _ => 0) 9 (-1))), (q_117, neE (fun _ => 0)), (q_118, neE (fun _ => 0)), (q_119, neE (fun _ => 0))] : va_W) H := hP
  refine lv_iinc (v := 9) (lv' := [(1, .int 9), (0, .ref h0)]) hx hb dX2_init_127 hl (k := 0) rfl (by decide) (by decide) rfl (fun ls hl => ?_)
  refine lv_goto (tgt := 114) hx hb dX2_init_130 (by decide) ?_
  refine lv_iload_n hx hb dX2_init_114 rfl (lv_at hl 0 rfl) ?_
  refine lv_bipush (v := 16) hx hb dX2_init_115 (by decide) ?_
  refine lv_icmp_ge (tgt := 133) hx hb dX2_init_117 (by decide) (fun c9 => absurd c9 (show ¬ (16 : Int32) ≤ 9 by decide)) (fun _ => ?_)
  refine lv_aload_n hx hb dX2_init_120 rfl (lv_at hl 1 rfl) ?_
  refine va_get (D := D) (ci := 2) (v := .ref q_109) (C := RX2) (T := TX2) (N := 10) hx hb hts hin2 hown hK hP 0 rfl rfl 2 (by decide) hf23 (fun _ h9 => h9) rfl dX2_init_121 ?_
  refine lv_iload_n hx hb dX2_init_124 rfl (lv_at hl 0 rfl) ?_
  refine lv_iconst (v := 4) hx hb dX2_init_125 (by decide) ?_
  refine va_iast hx hb hK hP (aD_D hD rfl) hS 3 0 rfl rfl (show vp_in (9 : Int32) 16 from vp_in_nI (n := 9) (by decide) (by decide)) dX2_init_126 (fun H locs hP _ hS => ?_)
  have hP : va_P D vwCl ([(h0, .inr (2, [.ref q_107, .ref q_108, .ref q_109, .ref q_110, .int 0, .int 12, .int 0, .int 0, .int 0, .int 0])), (q_107, .inl (y 3, 6, .inr (.inr (.inr (.inr (va_up (va_up (va_up (va_up (va_up (va_up (fun _ => none) 0 (some q_111)) 1 (some q_112)) 2 (some q_113)) 3 (some q_114)) 4 (some q_115)) 5 (some q_116))))))), (q_108, .inl (y 4, 3, .inr (.inr (.inr (.inr (va_up (va_up (va_up (fun _ => none) 0 (some q_117)) 1 (some q_118)) 2 (some q_119))))))), (q_109, .inl (y 0, 16, .inl (upd (upd (upd (upd (upd (upd (upd (upd (upd (upd (fun _ => 0) 0 4) 1 4) 2 4) 3 4) 4 4) 5 4) 6 4) 7 4) 8 4) 9 4))), (q_110, .inl (y 0, 4, .inl (upd (upd (upd (upd (fun _ => 0) 0 3) 1 3) 2 3) 3 50))), (q_111, coE (upd (fun _ => 0) 9 (-1))), (q_112, coE (upd (fun _ => 0) 9 (-1))), (q_113, coE (upd (fun _ => 0) 9 (-1))), (q_114, coE (upd (fun _ => 0) 9 (-1))), (q_115, coE (upd (fun _ => 0) 9 (-1))), (q_116, coE (upd (fun _ => 0) 9 (-1))), (q_117, neE (fun _ => 0)), (q_118, neE (fun _ => 0)), (q_119, neE (fun _ => 0))] : va_W) H := hP
  refine lv_iinc (v := 10) (lv' := [(1, .int 10), (0, .ref h0)]) hx hb dX2_init_127 hl (k := 0) rfl (by decide) (by decide) rfl (fun ls hl => ?_)
  refine lv_goto (tgt := 114) hx hb dX2_init_130 (by decide) ?_
  refine lv_iload_n hx hb dX2_init_114 rfl (lv_at hl 0 rfl) ?_
  refine lv_bipush (v := 16) hx hb dX2_init_115 (by decide) ?_
  refine lv_icmp_ge (tgt := 133) hx hb dX2_init_117 (by decide) (fun c9 => absurd c9 (show ¬ (16 : Int32) ≤ 10 by decide)) (fun _ => ?_)
  refine lv_aload_n hx hb dX2_init_120 rfl (lv_at hl 1 rfl) ?_
  refine va_get (D := D) (ci := 2) (v := .ref q_109) (C := RX2) (T := TX2) (N := 10) hx hb hts hin2 hown hK hP 0 rfl rfl 2 (by decide) hf23 (fun _ h9 => h9) rfl dX2_init_121 ?_
  refine lv_iload_n hx hb dX2_init_124 rfl (lv_at hl 0 rfl) ?_
  refine lv_iconst (v := 4) hx hb dX2_init_125 (by decide) ?_
  refine va_iast hx hb hK hP (aD_D hD rfl) hS 3 0 rfl rfl (show vp_in (10 : Int32) 16 from vp_in_nI (n := 10) (by decide) (by decide)) dX2_init_126 (fun H locs hP _ hS => ?_)
  have hP : va_P D vwCl ([(h0, .inr (2, [.ref q_107, .ref q_108, .ref q_109, .ref q_110, .int 0, .int 12, .int 0, .int 0, .int 0, .int 0])), (q_107, .inl (y 3, 6, .inr (.inr (.inr (.inr (va_up (va_up (va_up (va_up (va_up (va_up (fun _ => none) 0 (some q_111)) 1 (some q_112)) 2 (some q_113)) 3 (some q_114)) 4 (some q_115)) 5 (some q_116))))))), (q_108, .inl (y 4, 3, .inr (.inr (.inr (.inr (va_up (va_up (va_up (fun _ => none) 0 (some q_117)) 1 (some q_118)) 2 (some q_119))))))), (q_109, .inl (y 0, 16, .inl (upd (upd (upd (upd (upd (upd (upd (upd (upd (upd (upd (fun _ => 0) 0 4) 1 4) 2 4) 3 4) 4 4) 5 4) 6 4) 7 4) 8 4) 9 4) 10 4))), (q_110, .inl (y 0, 4, .inl (upd (upd (upd (upd (fun _ => 0) 0 3) 1 3) 2 3) 3 50))), (q_111, coE (upd (fun _ => 0) 9 (-1))), (q_112, coE (upd (fun _ => 0) 9 (-1))), (q_113, coE (upd (fun _ => 0) 9 (-1))), (q_114, coE (upd (fun _ => 0) 9 (-1))), (q_115, coE (upd (fun _ => 0) 9 (-1))), (q_116, coE (upd (fun _ => 0) 9 (-1))), (q_117, neE (fun _ => 0)), (q_118, neE (fun _ => 0)), (q_119, neE (fun _ => 0))] : va_W) H := hP
  refine lv_iinc (v := 11) (lv' := [(1, .int 11), (0, .ref h0)]) hx hb dX2_init_127 hl (k := 0) rfl (by decide) (by decide) rfl (fun ls hl => ?_)
  refine lv_goto (tgt := 114) hx hb dX2_init_130 (by decide) ?_
  refine lv_iload_n hx hb dX2_init_114 rfl (lv_at hl 0 rfl) ?_
  refine lv_bipush (v := 16) hx hb dX2_init_115 (by decide) ?_
  refine lv_icmp_ge (tgt := 133) hx hb dX2_init_117 (by decide) (fun c9 => absurd c9 (show ¬ (16 : Int32) ≤ 11 by decide)) (fun _ => ?_)
  refine lv_aload_n hx hb dX2_init_120 rfl (lv_at hl 1 rfl) ?_
  refine va_get (D := D) (ci := 2) (v := .ref q_109) (C := RX2) (T := TX2) (N := 10) hx hb hts hin2 hown hK hP 0 rfl rfl 2 (by decide) hf23 (fun _ h9 => h9) rfl dX2_init_121 ?_
  refine lv_iload_n hx hb dX2_init_124 rfl (lv_at hl 0 rfl) ?_
  refine lv_iconst (v := 4) hx hb dX2_init_125 (by decide) ?_
  refine va_iast hx hb hK hP (aD_D hD rfl) hS 3 0 rfl rfl (show vp_in (11 : Int32) 16 from vp_in_nI (n := 11) (by decide) (by decide)) dX2_init_126 (fun H locs hP _ hS => ?_)
  have hP : va_P D vwCl ([(h0, .inr (2, [.ref q_107, .ref q_108, .ref q_109, .ref q_110, .int 0, .int 12, .int 0, .int 0, .int 0, .int 0])), (q_107, .inl (y 3, 6, .inr (.inr (.inr (.inr (va_up (va_up (va_up (va_up (va_up (va_up (fun _ => none) 0 (some q_111)) 1 (some q_112)) 2 (some q_113)) 3 (some q_114)) 4 (some q_115)) 5 (some q_116))))))), (q_108, .inl (y 4, 3, .inr (.inr (.inr (.inr (va_up (va_up (va_up (fun _ => none) 0 (some q_117)) 1 (some q_118)) 2 (some q_119))))))), (q_109, .inl (y 0, 16, .inl (upd (upd (upd (upd (upd (upd (upd (upd (upd (upd (upd (upd (fun _ => 0) 0 4) 1 4) 2 4) 3 4) 4 4) 5 4) 6 4) 7 4) 8 4) 9 4) 10 4) 11 4))), (q_110, .inl (y 0, 4, .inl (upd (upd (upd (upd (fun _ => 0) 0 3) 1 3) 2 3) 3 50))), (q_111, coE (upd (fun _ => 0) 9 (-1))), (q_112, coE (upd (fun _ => 0) 9 (-1))), (q_113, coE (upd (fun _ => 0) 9 (-1))), (q_114, coE (upd (fun _ => 0) 9 (-1))), (q_115, coE (upd (fun _ => 0) 9 (-1))), (q_116, coE (upd (fun _ => 0) 9 (-1))), (q_117, neE (fun _ => 0)), (q_118, neE (fun _ => 0)), (q_119, neE (fun _ => 0))] : va_W) H := hP
  refine lv_iinc (v := 12) (lv' := [(1, .int 12), (0, .ref h0)]) hx hb dX2_init_127 hl (k := 0) rfl (by decide) (by decide) rfl (fun ls hl => ?_)
  refine lv_goto (tgt := 114) hx hb dX2_init_130 (by decide) ?_
  refine lv_iload_n hx hb dX2_init_114 rfl (lv_at hl 0 rfl) ?_
  refine lv_bipush (v := 16) hx hb dX2_init_115 (by decide) ?_
  refine lv_icmp_ge (tgt := 133) hx hb dX2_init_117 (by decide) (fun c9 => absurd c9 (show ¬ (16 : Int32) ≤ 12 by decide)) (fun _ => ?_)
  refine lv_aload_n hx hb dX2_init_120 rfl (lv_at hl 1 rfl) ?_
  refine va_get (D := D) (ci := 2) (v := .ref q_109) (C := RX2) (T := TX2) (N := 10) hx hb hts hin2 hown hK hP 0 rfl rfl 2 (by decide) hf23 (fun _ h9 => h9) rfl dX2_init_121 ?_
  refine lv_iload_n hx hb dX2_init_124 rfl (lv_at hl 0 rfl) ?_
  refine lv_iconst (v := 4) hx hb dX2_init_125 (by decide) ?_
  refine va_iast hx hb hK hP (aD_D hD rfl) hS 3 0 rfl rfl (show vp_in (12 : Int32) 16 from vp_in_nI (n := 12) (by decide) (by decide)) dX2_init_126 (fun H locs hP _ hS => ?_)
  have hP : va_P D vwCl ([(h0, .inr (2, [.ref q_107, .ref q_108, .ref q_109, .ref q_110, .int 0, .int 12, .int 0, .int 0, .int 0, .int 0])), (q_107, .inl (y 3, 6, .inr (.inr (.inr (.inr (va_up (va_up (va_up (va_up (va_up (va_up (fun _ => none) 0 (some q_111)) 1 (some q_112)) 2 (some q_113)) 3 (some q_114)) 4 (some q_115)) 5 (some q_116))))))), (q_108, .inl (y 4, 3, .inr (.inr (.inr (.inr (va_up (va_up (va_up (fun _ => none) 0 (some q_117)) 1 (some q_118)) 2 (some q_119))))))), (q_109, .inl (y 0, 16, .inl (upd (upd (upd (upd (upd (upd (upd (upd (upd (upd (upd (upd (upd (fun _ => 0) 0 4) 1 4) 2 4) 3 4) 4 4) 5 4) 6 4) 7 4) 8 4) 9 4) 10 4) 11 4) 12 4))), (q_110, .inl (y 0, 4, .inl (upd (upd (upd (upd (fun _ => 0) 0 3) 1 3) 2 3) 3 50))), (q_111, coE (upd (fun _ => 0) 9 (-1))), (q_112, coE (upd (fun _ => 0) 9 (-1))), (q_113, coE (upd (fun _ => 0) 9 (-1))), (q_114, coE (upd (fun _ => 0) 9 (-1))), (q_115, coE (upd (fun _ => 0) 9 (-1))), (q_116, coE (upd (fun _ => 0) 9 (-1))), (q_117, neE (fun _ => 0)), (q_118, neE (fun _ => 0)), (q_119, neE (fun _ => 0))] : va_W) H := hP
  refine lv_iinc (v := 13) (lv' := [(1, .int 13), (0, .ref h0)]) hx hb dX2_init_127 hl (k := 0) rfl (by decide) (by decide) rfl (fun ls hl => ?_)
  refine lv_goto (tgt := 114) hx hb dX2_init_130 (by decide) ?_
  refine lv_iload_n hx hb dX2_init_114 rfl (lv_at hl 0 rfl) ?_
  refine lv_bipush (v := 16) hx hb dX2_init_115 (by decide) ?_
  refine lv_icmp_ge (tgt := 133) hx hb dX2_init_117 (by decide) (fun c9 => absurd c9 (show ¬ (16 : Int32) ≤ 13 by decide)) (fun _ => ?_)
  refine lv_aload_n hx hb dX2_init_120 rfl (lv_at hl 1 rfl) ?_
  refine va_get (D := D) (ci := 2) (v := .ref q_109) (C := RX2) (T := TX2) (N := 10) hx hb hts hin2 hown hK hP 0 rfl rfl 2 (by decide) hf23 (fun _ h9 => h9) rfl dX2_init_121 ?_
  refine lv_iload_n hx hb dX2_init_124 rfl (lv_at hl 0 rfl) ?_
  refine lv_iconst (v := 4) hx hb dX2_init_125 (by decide) ?_
  refine va_iast hx hb hK hP (aD_D hD rfl) hS 3 0 rfl rfl (show vp_in (13 : Int32) 16 from vp_in_nI (n := 13) (by decide) (by decide)) dX2_init_126 (fun H locs hP _ hS => ?_)
  have hP : va_P D vwCl ([(h0, .inr (2, [.ref q_107, .ref q_108, .ref q_109, .ref q_110, .int 0, .int 12, .int 0, .int 0, .int 0, .int 0])), (q_107, .inl (y 3, 6, .inr (.inr (.inr (.inr (va_up (va_up (va_up (va_up (va_up (va_up (fun _ => none) 0 (some q_111)) 1 (some q_112)) 2 (some q_113)) 3 (some q_114)) 4 (some q_115)) 5 (some q_116))))))), (q_108, .inl (y 4, 3, .inr (.inr (.inr (.inr (va_up (va_up (va_up (fun _ => none) 0 (some q_117)) 1 (some q_118)) 2 (some q_119))))))), (q_109, .inl (y 0, 16, .inl (upd (upd (upd (upd (upd (upd (upd (upd (upd (upd (upd (upd (upd (upd (fun _ => 0) 0 4) 1 4) 2 4) 3 4) 4 4) 5 4) 6 4) 7 4) 8 4) 9 4) 10 4) 11 4) 12 4) 13 4))), (q_110, .inl (y 0, 4, .inl (upd (upd (upd (upd (fun _ => 0) 0 3) 1 3) 2 3) 3 50))), (q_111, coE (upd (fun _ => 0) 9 (-1))), (q_112, coE (upd (fun _ => 0) 9 (-1))), (q_113, coE (upd (fun _ => 0) 9 (-1))), (q_114, coE (upd (fun _ => 0) 9 (-1))), (q_115, coE (upd (fun _ => 0) 9 (-1))), (q_116, coE (upd (fun _ => 0) 9 (-1))), (q_117, neE (fun _ => 0)), (q_118, neE (fun _ => 0)), (q_119, neE (fun _ => 0))] : va_W) H := hP
  refine lv_iinc (v := 14) (lv' := [(1, .int 14), (0, .ref h0)]) hx hb dX2_init_127 hl (k := 0) rfl (by decide) (by decide) rfl (fun ls hl => ?_)
  refine lv_goto (tgt := 114) hx hb dX2_init_130 (by decide) ?_
  refine lv_iload_n hx hb dX2_init_114 rfl (lv_at hl 0 rfl) ?_
  refine lv_bipush (v := 16) hx hb dX2_init_115 (by decide) ?_
  refine lv_icmp_ge (tgt := 133) hx hb dX2_init_117 (by decide) (fun c9 => absurd c9 (show ¬ (16 : Int32) ≤ 14 by decide)) (fun _ => ?_)
  refine lv_aload_n hx hb dX2_init_120 rfl (lv_at hl 1 rfl) ?_
  refine va_get (D := D) (ci := 2) (v := .ref q_109) (C := RX2) (T := TX2) (N := 10) hx hb hts hin2 hown hK hP 0 rfl rfl 2 (by decide) hf23 (fun _ h9 => h9) rfl dX2_init_121 ?_
  refine lv_iload_n hx hb dX2_init_124 rfl (lv_at hl 0 rfl) ?_
  refine lv_iconst (v := 4) hx hb dX2_init_125 (by decide) ?_
  refine va_iast hx hb hK hP (aD_D hD rfl) hS 3 0 rfl rfl (show vp_in (14 : Int32) 16 from vp_in_nI (n := 14) (by decide) (by decide)) dX2_init_126 (fun H locs hP _ hS => ?_)
  have hP : va_P D vwCl ([(h0, .inr (2, [.ref q_107, .ref q_108, .ref q_109, .ref q_110, .int 0, .int 12, .int 0, .int 0, .int 0, .int 0])), (q_107, .inl (y 3, 6, .inr (.inr (.inr (.inr (va_up (va_up (va_up (va_up (va_up (va_up (fun _ => none) 0 (some q_111)) 1 (some q_112)) 2 (some q_113)) 3 (some q_114)) 4 (some q_115)) 5 (some q_116))))))), (q_108, .inl (y 4, 3, .inr (.inr (.inr (.inr (va_up (va_up (va_up (fun _ => none) 0 (some q_117)) 1 (some q_118)) 2 (some q_119))))))), (q_109, .inl (y 0, 16, .inl (upd (upd (upd (upd (upd (upd (upd (upd (upd (upd (upd (upd (upd (upd (upd (fun _ => 0) 0 4) 1 4) 2 4) 3 4) 4 4) 5 4) 6 4) 7 4) 8 4) 9 4) 10 4) 11 4) 12 4) 13 4) 14 4))), (q_110, .inl (y 0, 4, .inl (upd (upd (upd (upd (fun _ => 0) 0 3) 1 3) 2 3) 3 50))), (q_111, coE (upd (fun _ => 0) 9 (-1))), (q_112, coE (upd (fun _ => 0) 9 (-1))), (q_113, coE (upd (fun _ => 0) 9 (-1))), (q_114, coE (upd (fun _ => 0) 9 (-1))), (q_115, coE (upd (fun _ => 0) 9 (-1))), (q_116, coE (upd (fun _ => 0) 9 (-1))), (q_117, neE (fun _ => 0)), (q_118, neE (fun _ => 0)), (q_119, neE (fun _ => 0))] : va_W) H := hP
  refine lv_iinc (v := 15) (lv' := [(1, .int 15), (0, .ref h0)]) hx hb dX2_init_127 hl (k := 0) rfl (by decide) (by decide) rfl (fun ls hl => ?_)
  refine lv_goto (tgt := 114) hx hb dX2_init_130 (by decide) ?_
  refine lv_iload_n hx hb dX2_init_114 rfl (lv_at hl 0 rfl) ?_
  refine lv_bipush (v := 16) hx hb dX2_init_115 (by decide) ?_
  refine lv_icmp_ge (tgt := 133) hx hb dX2_init_117 (by decide) (fun c9 => absurd c9 (show ¬ (16 : Int32) ≤ 15 by decide)) (fun _ => ?_)
  refine lv_aload_n hx hb dX2_init_120 rfl (lv_at hl 1 rfl) ?_
  refine va_get (D := D) (ci := 2) (v := .ref q_109) (C := RX2) (T := TX2) (N := 10) hx hb hts hin2 hown hK hP 0 rfl rfl 2 (by decide) hf23 (fun _ h9 => h9) rfl dX2_init_121 ?_
  refine lv_iload_n hx hb dX2_init_124 rfl (lv_at hl 0 rfl) ?_
  refine lv_iconst (v := 4) hx hb dX2_init_125 (by decide) ?_
  refine va_iast hx hb hK hP (aD_D hD rfl) hS 3 0 rfl rfl (show vp_in (15 : Int32) 16 from vp_in_nI (n := 15) (by decide) (by decide)) dX2_init_126 (fun H locs hP _ hS => ?_)
  have hP : va_P D vwCl ([(h0, .inr (2, [.ref q_107, .ref q_108, .ref q_109, .ref q_110, .int 0, .int 12, .int 0, .int 0, .int 0, .int 0])), (q_107, .inl (y 3, 6, .inr (.inr (.inr (.inr (va_up (va_up (va_up (va_up (va_up (va_up (fun _ => none) 0 (some q_111)) 1 (some q_112)) 2 (some q_113)) 3 (some q_114)) 4 (some q_115)) 5 (some q_116))))))), (q_108, .inl (y 4, 3, .inr (.inr (.inr (.inr (va_up (va_up (va_up (fun _ => none) 0 (some q_117)) 1 (some q_118)) 2 (some q_119))))))), (q_109, .inl (y 0, 16, .inl (upd (upd (upd (upd (upd (upd (upd (upd (upd (upd (upd (upd (upd (upd (upd (upd (fun _ => 0) 0 4) 1 4) 2 4) 3 4) 4 4) 5 4) 6 4) 7 4) 8 4) 9 4) 10 4) 11 4) 12 4) 13 4) 14 4) 15 4))), (q_110, .inl (y 0, 4, .inl (upd (upd (upd (upd (fun _ => 0) 0 3) 1 3) 2 3) 3 50))), (q_111, coE (upd (fun _ => 0) 9 (-1))), (q_112, coE (upd (fun _ => 0) 9 (-1))), (q_113, coE (upd (fun _ => 0) 9 (-1))), (q_114, coE (upd (fun _ => 0) 9 (-1))), (q_115, coE (upd (fun _ => 0) 9 (-1))), (q_116, coE (upd (fun _ => 0) 9 (-1))), (q_117, neE (fun _ => 0)), (q_118, neE (fun _ => 0)), (q_119, neE (fun _ => 0))] : va_W) H := hP
  refine lv_iinc (v := 16) (lv' := [(1, .int 16), (0, .ref h0)]) hx hb dX2_init_127 hl (k := 0) rfl (by decide) (by decide) rfl (fun ls hl => ?_)
  refine lv_goto (tgt := 114) hx hb dX2_init_130 (by decide) ?_
  refine lv_iload_n hx hb dX2_init_114 rfl (lv_at hl 0 rfl) ?_
  refine lv_bipush (v := 16) hx hb dX2_init_115 (by decide) ?_
  refine lv_icmp_ge (tgt := 133) hx hb dX2_init_117 (by decide) (fun _ => ?_) (fun c9 => absurd (show (16 : Int32) ≤ 16 by decide) c9)
  obtain ⟨ad, had⟩ : ∃ ad : Nat → Nat, ad = fun j => [h0, q_107, q_108, q_109, q_110, q_111, q_112, q_113, q_114, q_115, q_116, q_117, q_118, q_119].getD j 0 := ⟨_, rfl⟩
  have hP : va_P D vwCl (rvW y ad rv0) H := by
    subst had
    intro k q hk
    rw [wf_get] at hk
    match k, hk with
    | 0, hk => cases hk; exact hP 0 _ rfl
    | 1, hk => cases hk; exact at_ref (hP 1 _ rfl) (fun i hi => by match i, hi with | 0, _ => rfl | 1, _ => rfl | 2, _ => rfl | 3, _ => rfl | 4, _ => rfl | 5, _ => rfl | i + 6, hi => omega)
    | 2, hk => cases hk; exact at_ref (hP 2 _ rfl) (fun i hi => by match i, hi with | 0, _ => rfl | 1, _ => rfl | 2, _ => rfl | i + 3, hi => omega)
    | 3, hk => cases hk; exact at_int (hP 3 _ rfl) (fun i hi => by match i, hi with | 0, _ => rfl | 1, _ => rfl | 2, _ => rfl | 3, _ => rfl | 4, _ => rfl | 5, _ => rfl | 6, _ => rfl | 7, _ => rfl | 8, _ => rfl | 9, _ => rfl | 10, _ => rfl | 11, _ => rfl | 12, _ => rfl | 13, _ => rfl | 14, _ => rfl | 15, _ => rfl | i + 16, hi => omega)
    | 4, hk => cases hk; exact at_int (hP 4 _ rfl) (fun i hi => by match i, hi with | 0, _ => rfl | 1, _ => rfl | 2, _ => rfl | 3, _ => rfl | i + 4, hi => omega)
    | 5, hk => cases hk; exact hP 5 _ rfl
    | 6, hk => cases hk; exact hP 6 _ rfl
    | 7, hk => cases hk; exact hP 7 _ rfl
    | 8, hk => cases hk; exact hP 8 _ rfl
    | 9, hk => cases hk; exact hP 9 _ rfl
    | 10, hk => cases hk; exact hP 10 _ rfl
    | 11, hk => cases hk; exact hP 11 _ rfl
    | 12, hk => cases hk; exact hP 12 _ rfl
    | 13, hk => cases hk; exact hP 13 _ rfl
    | k + 14, hk => rw [if_neg (by omega)] at hk; cases hk
  subst hQ
  refine W.widen (k := 13) (n := 98) (by decide) (by decide) ?_
  exact W.vret hx hb hr (fun t ht hW => ⟨⟨ad, rfl, by rw [had]; rfl, bp_at hK hN hP t ht hW, by rw [had]; exact hD⟩, hS.F ht⟩) hS.2.2 dX2_init_133
