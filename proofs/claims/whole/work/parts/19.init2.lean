/-! ===== the model: its worlds; more constructors ===== -/
/-- the model's own cells: itself (thrown coracles nets store), drift run laths hide skill first second hides -/
def moE (y : Nat → ClassId) (am : Nat → Nat) (s0 a0 : Nat) (F : Nat → Nat → Int32) : Nat → va_E := fun j => match j with
  | 0 => .inr (5, [.int (F 0 0), .ref (am 1), .ref (am 2), .int (F 0 1), .ref (am 3), .ref (am 4), .ref (am 5), .int (F 0 2), .ref (am 6), .ref (am 7), .int (F 0 3), .ref (am 8), .ref s0, .ref a0])
  | 1 => .inl (y 0, 8, .inl (F 1))
  | 2 => .inl (y 0, 8, .inl (F 2))
  | 3 => .inl (y 0, 6, .inl (F 3))
  | 4 => .inl (y 0, 6, .inl (F 4))
  | 5 => .inl (y 0, 6, .inl (F 5))
  | 6 => .inl (y 0, 3, .inl (F 6))
  | 7 => .inl (y 0, 3, .inl (F 7))
  | _ => .inl (y 0, 3, .inl (F 8))
abbrev moW (y : Nat → ClassId) (am : Nat → Nat) (s0 a0 : Nat) (F : Nat → Nat → Int32) : va_W := wf 9 am (moE y am s0 a0 F)
/-- a state of the model: itself (hour coins sold spawned), salmon at goal tar water load hasSunk caught -/
def stE (y : Nat → ClassId) (bs : Nat → Nat) (o0 : Nat) (U : Nat → Nat → Int32) : Nat → va_E := fun j => match j with
  | 0 => .inr (4, [.int (U 0 0), .int (U 0 1), .int (U 0 2), .int (U 0 3), .ref (bs 1), .ref (bs 2), .ref (bs 3), .ref (bs 4), .ref (bs 5), .ref (bs 6), .ref (bs 7), .ref (bs 8), .ref o0])
  | 1 => .inl (y 0, 16, .inl (U 1))
  | 2 => .inl (y 0, 6, .inl (U 2))
  | 3 => .inl (y 0, 6, .inl (U 3))
  | 4 => .inl (y 0, 6, .inl (U 4))
  | 5 => .inl (y 0, 6, .inl (U 5))
  | 6 => .inl (y 0, 6, .inl (U 6))
  | 7 => .inl (y 1, 6, .inl (U 7))
  | _ => .inl (y 0, 3, .inl (U 8))
abbrev stW (y : Nat → ClassId) (bs : Nat → Nat) (o0 : Nat) (U : Nat → Nat → Int32) : va_W := wf 9 bs (stE y bs o0 U)
theorem mo_up (y : Nat → ClassId) (am : Nat → Nat) (s0 a0 : Nat) (F : Nat → Nat → Int32) (k : Nat) (w : Nat → Int32) (j : Nat) (hj : j < 9) (h : ¬ j = k) : moE y am s0 a0 (va_up F k w) j = moE y am s0 a0 F j := by
  rcases (show j = 0 ∨ j = 1 ∨ j = 2 ∨ j = 3 ∨ j = 4 ∨ j = 5 ∨ j = 6 ∨ j = 7 ∨ j = 8 by omega) with e | e | e | e | e | e | e | e | e <;> subst e <;> simp only [moE, va_up_ne F w h]
theorem st_up (y : Nat → ClassId) (bs : Nat → Nat) (o0 : Nat) (U : Nat → Nat → Int32) (k : Nat) (w : Nat → Int32) (j : Nat) (hj : j < 9) (h : ¬ j = k) : stE y bs o0 (va_up U k w) j = stE y bs o0 U j := by
  rcases (show j = 0 ∨ j = 1 ∨ j = 2 ∨ j = 3 ∨ j = 4 ∨ j = 5 ∨ j = 6 ∨ j = 7 ∨ j = 8 by omega) with e | e | e | e | e | e | e | e | e <;> subst e <;> simp only [stE, va_up_ne U w h]
theorem mo_set {y : Nat → ClassId} {am : Nat → Nat} {s0 a0 : Nat} {F : Nat → Nat → Int32} {k : Nat} (w : Nat → Int32) {e : va_E} (hk : k < 9) (he : moE y am s0 a0 (va_up F k w) k = e) : (moW y am s0 a0 F).set k (am k, e) = moW y am s0 a0 (va_up F k w) := wf_set (fun j hj => by
  by_cases h : j = k
  · subst h; rw [if_pos rfl, he]
  · rw [if_neg h, mo_up y am s0 a0 F k w j hj h])
theorem st_set {y : Nat → ClassId} {bs : Nat → Nat} {o0 : Nat} {U : Nat → Nat → Int32} {k : Nat} (w : Nat → Int32) {e : va_E} (hk : k < 9) (he : stE y bs o0 (va_up U k w) k = e) : (stW y bs o0 U).set k (bs k, e) = stW y bs o0 (va_up U k w) := wf_set (fun j hj => by
  by_cases h : j = k
  · subst h; rw [if_pos rfl, he]
  · rw [if_neg h, st_up y bs o0 U k w j hj h])
theorem mo_fst (y : Nat → ClassId) (am : Nat → Nat) (s0 a0 : Nat) (F : Nat → Nat → Int32) : (moW y am s0 a0 F).map Prod.fst = wa 9 am := wf_fst 9 am _
theorem st_fst (y : Nat → ClassId) (bs : Nat → Nat) (o0 : Nat) (U : Nat → Nat → Int32) : (stW y bs o0 U).map Prod.fst = wa 9 bs := wf_fst 9 bs _
abbrev moA (y : Nat → ClassId) (am bs ba : Nat → Nat) (F U X : Nat → Nat → Int32) : va_W := moW y am (bs 0) (ba 0) F ++ (stW y bs (am 0) U ++ stW y ba (am 0) X)
theorem moA_fst (y : Nat → ClassId) (am bs ba : Nat → Nat) (F U X : Nat → Nat → Int32) : (moA y am bs ba F U X).map Prod.fst = wa 9 am ++ (wa 9 bs ++ wa 9 ba) := by rw [List.map_append, List.map_append, mo_fst, st_fst, st_fst]
theorem mo2_fst (y : Nat → ClassId) (am bs : Nat → Nat) (s0 a0 o0 : Nat) (F U : Nat → Nat → Int32) : (moW y am s0 a0 F ++ stW y bs o0 U).map Prod.fst = wa 9 am ++ wa 9 bs := by rw [List.map_append, mo_fst, st_fst]
theorem st2_fst (y : Nat → ClassId) (bs ba : Nat → Nat) (o0 o1 : Nat) (U X : Nat → Nat → Int32) : (stW y bs o0 U ++ stW y ba o1 X).map Prod.fst = wa 9 bs ++ wa 9 ba := by rw [List.map_append, st_fst, st_fst]
theorem aD_grow {A : Nat → Prop} {x : va_W} {D : va_G} {cl : List vw_C} {e : va_E} {b : Nat} {H : Heap} {l1 : List Nat} (hP : va_P D cl (x ++ [(b, e)]) H) (hD : aD A (x.map Prod.fst ++ [b])) (h1 : aD (aA [b] H.size) l1) (hA : ∀ q, aA [b] H.size q → A q) : aD A (x.map Prod.fst ++ l1) := by
  refine aD_app (aD_l hD) (aD_mono h1 (fun q _ h => hA q h)) (fun p q hp hq e9 => ?_)
  subst e9
  obtain ⟨k, hk⟩ := List.getElem?_of_mem hq
  have h2 := h1.2 k p hk
  rcases h2 with h2 | h2
  · exact aD_ne hD hp h2 rfl
  · obtain ⟨r, hr, e9⟩ := List.mem_map.mp hp
    obtain ⟨i, hi⟩ := List.getElem?_of_mem hr
    have := (P_l hP i r hi).lt
    omega
section NCALL
variable {p : Program} {l : Launch} {e : Env} {R : Room} {s : State} {m : MethodId} {args : Array Value} {below : List Frame} {meth : Method} {c : Code} {H : Heap} {locs : List Loc} {cells slots : Nat} {Q : State → Prop}
variable {pc : Nat} {ls : Array Slot} {rest st0 As : List Value} {cc : ByteArray} {nL index maxL n mc ms : Nat} {own host : String} {Ts ws : List Cond} {yM : MethodName} {bytes : ByteArray} {rm : Room} {b : Nat}
variable {D : va_G} {y : Nat → ClassId} {x : va_W} {e0 : va_E} {A : Nat → Prop} {H0 : Heap} {S : Type} {P : S → Prop} {W1 : S → va_W} {l1 : S → List Nat}
theorem cNw_of (hr : va_Run p l e R s m args below meth c H locs cells slots mc ms (F0 m pc ls st0) rest (va_Qv P (fun u t => Bp D y (W1 u) t ∧ aD (aW [(b, e0)] H.size) (l1 u)) (aW [(b, e0)] H.size) (Value.ref b :: As).toArray) (aW [(b, e0)] H.size)) (hP : va_P D vwCl (x ++ [(b, e0)]) H) (hD : aD A (x.map Prod.fst ++ [b])) (hS : va_S A H0 H locs) (hA : ∀ q, H0.size ≤ q → A q)
    (kk : ∀ (u : S) (H1 : Heap) (locs1 : List Loc), P u → va_P D vwCl (x ++ W1 u) H1 → aD A (x.map Prod.fst ++ l1 u) → va_S A H0 H1 locs1 → W p l e R s m args below meth c H1 locs1 (cells + mc) (slots + ms) Q (F0 m (pc + 3) ls rest)) : W p l e R s m args below meth c H locs cells slots Q (F0 m pc ls st0) :=
  va_callv hr hS (fun q _ h => aW_sub (aD_r hD) hS hA (fun _ h => h) q h) (aW_sub (aD_r hD) hS hA (fun _ h => h)) (fun u t H1 locs1 ht hvm hw hB hz hk hS1 => kk u H1 locs1 hw (va_P.app (fr_P (P_l hP) hk (P_nil D vwCl H1) (fun q hq => Or.inr ⟨hq, fun z => aD_ne hD (in_fst hq) z rfl⟩)) (by rw [← ht]; exact hB.1.1)) (aD_grow hP hD hB.2 (aW_sub (aD_r hD) hS hA (fun _ h => h))) hS1)
theorem nw_pre (hK : va_K D vwCl (tyL y) s) (hN : NW s) (hP : va_P D vwCl (x ++ [(b, e0)]) H) (hD : aD A (x.map Prod.fst ++ [b])) (U : State) (hU : U.heap = H) (hW : s.WarmedH U.vm) : Bw D y [(b, e0)] H.size U := ⟨by rw [hU], bp_at hK hN (P_r hP) U hU hW, aD_mono (aD_r hD) (fun _ _ _ => trivial)⟩
theorem cNw_I (S0 : CallFix p m c cc nL s args Ts own) (hM : NwV l D y yM ws rm mc ms (.ref b :: As) [(b, e0)] H.size P W1 l1) (cw : CallB R s args own index yM bytes maxL none ws rm mc ms n ∧ yM.name = "<init>" ∧ (Cond.instanceMethod yM).before args s = true) (hK : va_K D vwCl (tyL y) s) (hN : NW s) (hP : va_P D vwCl (x ++ [(b, e0)]) H) (hD : aD A (x.map Prod.fst ++ [b])) (hS : va_S A H0 H locs) (hA : ∀ q, H0.size ≤ q → A q)
    (hn : As.length = n) (hsize : ls.size = nL) (hstack : st0 = As.reverse ++ .ref b :: rest) (hW : (rest.map fun v => v.category).sum ≤ 8) (hdg : decode cc pc = .ok (.invokespecial index, 3)) (hf : cells + mc ≤ R.cells ∧ slots + ms ≤ R.slots)
    (kk : ∀ (u : S) (H1 : Heap) (locs1 : List Loc), P u → va_P D vwCl (x ++ W1 u) H1 → aD A (x.map Prod.fst ++ l1 u) → va_S A H0 H1 locs1 → W p l e R s m args below meth c H1 locs1 (cells + mc) (slots + ms) Q (F0 m (pc + 3) ls rest)) : W p l e R s m args below meth c H locs cells slots Q (F0 m pc ls st0) :=
  cNw_of (va_runI S0 hM cw ⟨Bw.blind, fun U hU hW => ⟨rfl, nw_pre hK hN hP hD U hU hW⟩⟩ rfl hn hsize hstack (lv_room hW) hdg hf) hP hD hS hA kk
theorem cNw_IN (S0 : CallFix p m c cc nL s args Ts own) (hM : NwV l D y yM ws rm mc ms (.ref b :: As) [(b, e0)] H.size P W1 l1) (cw : va_CN R s args own index yM host bytes maxL none ws rm mc ms n ∧ yM.name = "<init>" ∧ (Cond.instanceMethod yM).before args s = true) (hK : va_K D vwCl (tyL y) s) (hN : NW s) (hP : va_P D vwCl (x ++ [(b, e0)]) H) (hD : aD A (x.map Prod.fst ++ [b])) (hS : va_S A H0 H locs) (hA : ∀ q, H0.size ≤ q → A q)
    (hn : As.length = n) (hsize : ls.size = nL) (hstack : st0 = As.reverse ++ .ref b :: rest) (hW : (rest.map fun v => v.category).sum ≤ 8) (hdg : decode cc pc = .ok (.invokespecial index, 3)) (hf : cells + mc ≤ R.cells ∧ slots + ms ≤ R.slots)
    (kk : ∀ (u : S) (H1 : Heap) (locs1 : List Loc), P u → va_P D vwCl (x ++ W1 u) H1 → aD A (x.map Prod.fst ++ l1 u) → va_S A H0 H1 locs1 → W p l e R s m args below meth c H1 locs1 (cells + mc) (slots + ms) Q (F0 m (pc + 3) ls rest)) : W p l e R s m args below meth c H locs cells slots Q (F0 m pc ls st0) :=
  cNw_of (va_runIN S0 hM cw ⟨Bw.blind, fun U hU hW => ⟨rfl, nw_pre hK hN hP hD U hU hW⟩⟩ rfl hn hsize hstack (lv_room hW) hdg hf) hP hD hS hA kk
end NCALL
/-- the tables while they are filled -/
def kI (i : Nat) : Nat → Nat → Int32 := fun j k => if j = 1 ∧ k < i then 1 else if j = 2 ∧ k < i then 3 else 0
theorem kI_s (i : Nat) {K1 K2 : Nat → Nat → Int32} (h1 : K1 = va_up (kI i) 1 (upd (kI i 1) i 1)) (h2 : K2 = va_up K1 2 (upd (K1 2) i 3)) : K2 = kI (i + 1) := by
  subst h2; subst h1
  funext j k
  unfold va_up upd kI
  by_cases hj : j = 1
  · subst hj
    by_cases hk : k = i
    · subst hk; simp
    · have e : (k < i) = (k < i + 1) := by apply propext; omega
      simp [hk, e]
  · by_cases hj2 : j = 2
    · subst hj2
      by_cases hk : k = i
      · subst hk; simp
      · have e : (k < i) = (k < i + 1) := by apply propext; omega
        simp [hk, e]
    · simp [hj, hj2]
/-- the model's state while its salmon are put -/
def stI (i : Nat) : Nat → Nat → Int32 := fun j k => if j = 0 ∧ k = 1 then 12 else if j = 1 ∧ k < i then 4 else 0
theorem stI_s (i : Nat) {U : Nat → Nat → Int32} (h : U = va_up (stI i) 1 (upd (stI i 1) i 4)) : U = stI (i + 1) := by
  subst h
  funext j k
  unfold va_up upd stI
  by_cases hj : j = 1
  · subst hj
    by_cases hk : k = i
    · subst hk; simp
    · have e : (k < i) = (k < i + 1) := by apply propext; omega
      simp [hk, e]
  · simp [hj]
/-- the model's own rows at first -/
def mo0 : Nat → Nat → Int32 := fun j k => if j = 0 then (if k = 3 then 50 else 0) else if j = 1 then 1 else if j = 2 then 3 else if j = 8 then 3 else 0
abbrev rmX4_init : Room := { frames := 1, cells := 8, slots := 55, locals := 16 }
set_option maxHeartbeats 8000000 in
set_option maxRecDepth 100000 in
/-- a constructor -/
theorem c_X4_init (l : Launch) (D : va_G) (y : Nat → ClassId) (sz : Nat) (h0 o0 : Nat) : NwV (S := Nat → Nat) l D y yX4_init wsX4_init rmX4_init 8 55 [.ref h0, .ref o0] [(h0, .inr (4, [.int 0, .int 0, .int 0, .int 0, .null, .null, .null, .null, .null, .null, .null, .null, .null]))] sz (fun u => u 0 = h0) (fun u => stW y u o0 (stI 0)) (fun u => wa 9 u) := by
  refine mW (fun A => va_Qv (fun (u : Nat → Nat) => u 0 = h0) (fun u t9 => Bp D y (stW y u o0 (stI 0)) t9 ∧ aD A (wa 9 u)) A) (C := RX4) (cc := cX4_init) (maxL := 2) (ret := none) (by decide) rfl rfl (Nat.le_of_ble_eq_true rfl) ?_
  intro p e s m a below meth c ls A Q hQ hsz hx hb hr hts hown hlocks hin hml hP hK hN hD hA hS hl
  have hl : lv_has ls 2 [(0, .ref h0), (1, .ref o0)] := hl
  refine lv_aload_n hx hb dX4_init_0 rfl (lv_at hl 0 rfl) ?_
  refine lv_aload_n hx hb dX4_init_1 rfl (lv_at hl 1 rfl) ?_
  have hin4 : ∀ w ∈ u_ws RX4 TX4 13, w ∈ wsX4_init := by decide +kernel
  have hf3 := hts (.fieldLink RX4 3 "CoracleMakersModel$State" "this$0" "LCoracleMakersModel;") (by decide +kernel)
  refine va_putF (D := D) (ci := 4) (v := .ref o0) (ty := (.object "CoracleMakersModel")) (C := RX4) (T := TX4) (N := 13) hx hb hts hin4 tyX4 tyX4_ok nmX4 hown hK hP (aD_D hD rfl) hS 0 rfl rfl 12 (by decide) hf3 (fun _ h9 => h9) rfl hin rfl (by decide +kernel) rfl rfl (Nat.le_of_ble_eq_true rfl) dX4_init_2 (fun H locs hP _ hS => ?_)
  have hP : va_P D vwCl ([(h0, .inr (4, [.int 0, .int 0, .int 0, .int 0, .null, .null, .null, .null, .null, .null, .null, .null, .ref o0]))] : va_W) H := hP
  refine lv_aload_n hx hb dX4_init_5 rfl (lv_at hl 0 rfl) ?_
  refine W.objInit hx hb hown (hts (.methodLink RX4 9 objectInit) (by decide +kernel)) (hts (.instanceMethod objectInit) (by decide +kernel)) (hts (.code objectInit ⟨#[0xb1]⟩ 1 none) (by decide +kernel)) rfl (by rw [hml]; exact hl.1) rfl dX4_init_6 (Nat.le_of_ble_eq_true rfl) (Nat.le_of_ble_eq_true rfl) ?_
  refine W.eq (g2 := F0 m 9 ls ([])) rfl ?_
  refine lv_aload_n hx hb dX4_init_9 rfl (lv_at hl 0 rfl) ?_
  refine lv_bipush (v := 12) hx hb dX4_init_10 (by decide) ?_
  have hf15 := hts (.fieldLink RX4 15 "CoracleMakersModel$State" "coins" "I") (by decide +kernel)
  refine va_put (D := D) (ci := 4) (v := .int 12) (ty := .int) (C := RX4) (T := TX4) (N := 13) hx hb hts hin4 tyX4 tyX4_ok nmX4 hown hK hP (aD_D hD rfl) hS 0 rfl rfl 1 (by decide) hf15 (fun _ h9 => h9) rfl (by decide +kernel) rfl rfl (Nat.le_of_ble_eq_true rfl) dX4_init_12 (fun H locs hP _ hS => ?_)
  have hP : va_P D vwCl ([(h0, .inr (4, [.int 0, .int 12, .int 0, .int 0, .null, .null, .null, .null, .null, .null, .null, .null, .ref o0]))] : va_W) H := hP
  refine lv_aload_n hx hb dX4_init_15 rfl (lv_at hl 0 rfl) ?_
  refine lv_bipush (v := 16) hx hb dX4_init_16 (by decide) ?_
  refine va_newa (atype := .int) (ty := .int) (a0 := (16, .inl (fun _ => 0))) (N' := 16) hx hb (hts (.arrayClass .int) (by decide +kernel)) rfl hK hP (aD_D hD rfl) hS hA (fun _ => rfl) (by decide) (by decide) (by decide) (Nat.le_of_ble_eq_true rfl) (Nat.le_of_ble_eq_true rfl) dX4_init_18 (fun q_120 cA H hK9 hP hD9 hS => ?_)
  have eA := K_uniq hK9 (i := 5) (j := 0) rfl rfl
  subst eA
  have hP : va_P D vwCl ([(h0, .inr (4, [.int 0, .int 12, .int 0, .int 0, .null, .null, .null, .null, .null, .null, .null, .null, .ref o0])), (q_120, .inl (y 0, 16, .inl (fun _ => 0)))] : va_W) H := hP
  have hD : aD A [h0, q_120] := aD_of hD9
  have hf19 := hts (.fieldLink RX4 19 "CoracleMakersModel$State" "salmon" "[I") (by decide +kernel)
  refine va_putF (D := D) (ci := 4) (v := .ref q_120) (ty := (.array .int)) (C := RX4) (T := TX4) (N := 13) hx hb hts hin4 tyX4 tyX4_ok nmX4 hown hK hP (aD_D hD rfl) hS 0 rfl rfl 4 (by decide) hf19 (fun _ h9 => h9) rfl hin rfl (by decide +kernel) rfl rfl (Nat.le_of_ble_eq_true rfl) dX4_init_20 (fun H locs hP _ hS => ?_)
  have hP : va_P D vwCl ([(h0, .inr (4, [.int 0, .int 12, .int 0, .int 0, .ref q_120, .null, .null, .null, .null, .null, .null, .null, .ref o0])), (q_120, .inl (y 0, 16, .inl (fun _ => 0)))] : va_W) H := hP
  refine lv_aload_n hx hb dX4_init_23 rfl (lv_at hl 0 rfl) ?_
  refine lv_bipush (v := 6) hx hb dX4_init_24 (by decide) ?_
  refine va_newa (atype := .int) (ty := .int) (a0 := (6, .inl (fun _ => 0))) (N' := 6) hx hb (hts (.arrayClass .int) (by decide +kernel)) rfl hK hP (aD_D hD rfl) hS hA (fun _ => rfl) (by decide) (by decide) (by decide) (Nat.le_of_ble_eq_true rfl) (Nat.le_of_ble_eq_true rfl) dX4_init_26 (fun q_121 cA H hK9 hP hD9 hS => ?_)
  have eA := K_uniq hK9 (i := 5) (j := 0) rfl rfl
  subst eA
  have hP : va_P D vwCl ([(h0, .inr (4, [.int 0, .int 12, .int 0, .int 0, .ref q_120, .null, .null, .null, .null, .null, .null, .null, .ref o0])), (q_120, .inl (y 0, 16, .inl (fun _ => 0))), (q_121, .inl (y 0, 6, .inl (fun _ => 0)))] : va_W) H := hP
  have hD : aD A [h0, q_120, q_121] := aD_of hD9
  have hf23 := hts (.fieldLink RX4 23 "CoracleMakersModel$State" "at" "[I") (by decide +kernel)
  refine va_putF (D := D) (ci := 4) (v := .ref q_121) (ty := (.array .int)) (C := RX4) (T := TX4) (N := 13) hx hb hts hin4 tyX4 tyX4_ok nmX4 hown hK hP (aD_D hD rfl) hS 0 rfl rfl 5 (by decide) hf23 (fun _ h9 => h9) rfl hin rfl (by decide +kernel) rfl rfl (Nat.le_of_ble_eq_true rfl) dX4_init_28 (fun H locs hP _ hS => ?_)
  have hP : va_P D vwCl ([(h0, .inr (4, [.int 0, .int 12, .int 0, .int 0, .ref q_120, .ref q_121, .null, .null, .null, .null, .null, .null, .ref o0])), (q_120, .inl (y 0, 16, .inl (fun _ => 0))), (q_121, .inl (y 0, 6, .inl (fun _ => 0)))] : va_W) H := hP
  refine lv_aload_n hx hb dX4_init_31 rfl (lv_at hl 0 rfl) ?_
  refine lv_bipush (v := 6) hx hb dX4_init_32 (by decide) ?_
  refine va_newa (atype := .int) (ty := .int) (a0 := (6, .inl (fun _ => 0))) (N' := 6) hx hb (hts (.arrayClass .int) (by decide +kernel)) rfl hK hP (aD_D hD rfl) hS hA (fun _ => rfl) (by decide) (by decide) (by decide) (Nat.le_of_ble_eq_true rfl) (Nat.le_of_ble_eq_true rfl) dX4_init_34 (fun q_122 cA H hK9 hP hD9 hS => ?_)
  have eA := K_uniq hK9 (i := 5) (j := 0) rfl rfl
  subst eA
  have hP : va_P D vwCl ([(h0, .inr (4, [.int 0, .int 12, .int 0, .int 0, .ref q_120, .ref q_121, .null, .null, .null, .null, .null, .null, .ref o0])), (q_120, .inl (y 0, 16, .inl (fun _ => 0))), (q_121, .inl (y 0, 6, .inl (fun _ => 0))), (q_122, .inl (y 0, 6, .inl (fun _ => 0)))] : va_W) H := hP
  have hD : aD A [h0, q_120, q_121, q_122] := aD_of hD9
  have hf26 := hts (.fieldLink RX4 26 "CoracleMakersModel$State" "goal" "[I") (by decide +kernel)
  refine va_putF (D := D) (ci := 4) (v := .ref q_122) (ty := (.array .int)) (C := RX4) (T := TX4) (N := 13) hx hb hts hin4 tyX4 tyX4_ok nmX4 hown hK hP (aD_D hD rfl) hS 0 rfl rfl 6 (by decide) hf26 (fun _ h9 => h9) rfl hin rfl (by decide +kernel) rfl rfl (Nat.le_of_ble_eq_true rfl) dX4_init_36 (fun H locs hP _ hS => ?_)
  have hP : va_P D vwCl ([(h0, .inr (4, [.int 0, .int 12, .int 0, .int 0, .ref q_120, .ref q_121, .ref q_122, .null, .null, .null, .null, .null, .ref o0])), (q_120, .inl (y 0, 16, .inl (fun _ => 0))), (q_121, .inl (y 0, 6, .inl (fun _ => 0))), (q_122, .inl (y 0, 6, .inl (fun _ => 0)))] : va_W) H := hP
  refine lv_aload_n hx hb dX4_init_39 rfl (lv_at hl 0 rfl) ?_
  refine lv_bipush (v := 6) hx hb dX4_init_40 (by decide) ?_
  refine va_newa (atype := .int) (ty := .int) (a0 := (6, .inl (fun _ => 0))) (N' := 6) hx hb (hts (.arrayClass .int) (by decide +kernel)) rfl hK hP (aD_D hD rfl) hS hA (fun _ => rfl) (by decide) (by decide) (by decide) (Nat.le_of_ble_eq_true rfl) (Nat.le_of_ble_eq_true rfl) dX4_init_42 (fun q_123 cA H hK9 hP hD9 hS => ?_)
  have eA := K_uniq hK9 (i := 5) (j := 0) rfl rfl
  subst eA
  have hP : va_P D vwCl ([(h0, .inr (4, [.int 0, .int 12, .int 0, .int 0, .ref q_120, .ref q_121, .ref q_122, .null, .null, .null, .null, .null, .ref o0])), (q_120, .inl (y 0, 16, .inl (fun _ => 0))), (q_121, .inl (y 0, 6, .inl (fun _ => 0))), (q_122, .inl (y 0, 6, .inl (fun _ => 0))), (q_123, .inl (y 0, 6, .inl (fun _ => 0)))] : va_W) H := hP
  have hD : aD A [h0, q_120, q_121, q_122, q_123] := aD_of hD9
  have hf29 := hts (.fieldLink RX4 29 "CoracleMakersModel$State" "tar" "[I") (by decide +kernel)
  refine va_putF (D := D) (ci := 4) (v := .ref q_123) (ty := (.array .int)) (C := RX4) (T := TX4) (N := 13) hx hb hts hin4 tyX4 tyX4_ok nmX4 hown hK hP (aD_D hD rfl) hS 0 rfl rfl 7 (by decide) hf29 (fun _ h9 => h9) rfl hin rfl (by decide +kernel) rfl rfl (Nat.le_of_ble_eq_true rfl) dX4_init_44 (fun H locs hP _ hS => ?_)
  have hP : va_P D vwCl ([(h0, .inr (4, [.int 0, .int 12, .int 0, .int 0, .ref q_120, .ref q_121, .ref q_122, .ref q_123, .null, .null, .null, .null, .ref o0])), (q_120, .inl (y 0, 16, .inl (fun _ => 0))), (q_121, .inl (y 0, 6, .inl (fun _ => 0))), (q_122, .inl (y 0, 6, .inl (fun _ => 0))), (q_123, .inl (y 0, 6, .inl (fun _ => 0)))] : va_W) H := hP
  refine lv_aload_n hx hb dX4_init_47 rfl (lv_at hl 0 rfl) ?_
  refine lv_bipush (v := 6) hx hb dX4_init_48 (by decide) ?_
  refine va_newa (atype := .int) (ty := .int) (a0 := (6, .inl (fun _ => 0))) (N' := 6) hx hb (hts (.arrayClass .int) (by decide +kernel)) rfl hK hP (aD_D hD rfl) hS hA (fun _ => rfl) (by decide) (by decide) (by decide) (Nat.le_of_ble_eq_true rfl) (Nat.le_of_ble_eq_true rfl) dX4_init_50 (fun q_124 cA H hK9 hP hD9 hS => ?_)
  have eA := K_uniq hK9 (i := 5) (j := 0) rfl rfl
  subst eA
  have hP : va_P D vwCl ([(h0, .inr (4, [.int 0, .int 12, .int 0, .int 0, .ref q_120, .ref q_121, .ref q_122, .ref q_123, .null, .null, .null, .null, .ref o0])), (q_120, .inl (y 0, 16, .inl (fun _ => 0))), (q_121, .inl (y 0, 6, .inl (fun _ => 0))), (q_122, .inl (y 0, 6, .inl (fun _ => 0))), (q_123, .inl (y 0, 6, .inl (fun _ => 0))), (q_124, .inl (y 0, 6, .inl (fun _ => 0)))] : va_W) H := hP
  have hD : aD A [h0, q_120, q_121, q_122, q_123, q_124] := aD_of hD9
  have hf32 := hts (.fieldLink RX4 32 "CoracleMakersModel$State" "water" "[I") (by decide +kernel)
  refine va_putF (D := D) (ci := 4) (v := .ref q_124) (ty := (.array .int)) (C := RX4) (T := TX4) (N := 13) hx hb hts hin4 tyX4 tyX4_ok nmX4 hown hK hP (aD_D hD rfl) hS 0 rfl rfl 8 (by decide) hf32 (fun _ h9 => h9) rfl hin rfl (by decide +kernel) rfl rfl (Nat.le_of_ble_eq_true rfl) dX4_init_52 (fun H locs hP _ hS => ?_)
  have hP : va_P D vwCl ([(h0, .inr (4, [.int 0, .int 12, .int 0, .int 0, .ref q_120, .ref q_121, .ref q_122, .ref q_123, .ref q_124, .null, .null, .null, .ref o0])), (q_120, .inl (y 0, 16, .inl (fun _ => 0))), (q_121, .inl (y 0, 6, .inl (fun _ => 0))), (q_122, .inl (y 0, 6, .inl (fun _ => 0))), (q_123, .inl (y 0, 6, .inl (fun _ => 0))), (q_124, .inl (y 0, 6, .inl (fun _ => 0)))] : va_W) H := hP
  refine lv_aload_n hx hb dX4_init_55 rfl (lv_at hl 0 rfl) ?_
  refine lv_bipush (v := 6) hx hb dX4_init_56 (by decide) ?_
  refine va_newa (atype := .int) (ty := .int) (a0 := (6, .inl (fun _ => 0))) (N' := 6) hx hb (hts (.arrayClass .int) (by decide +kernel)) rfl hK hP (aD_D hD rfl) hS hA (fun _ => rfl) (by decide) (by decide) (by decide) (Nat.le_of_ble_eq_true rfl) (Nat.le_of_ble_eq_true rfl) dX4_init_58 (fun q_125 cA H hK9 hP hD9 hS => ?_)
  have eA := K_uniq hK9 (i := 5) (j := 0) rfl rfl
  subst eA
  have hP : va_P D vwCl ([(h0, .inr (4, [.int 0, .int 12, .int 0, .int 0, .ref q_120, .ref q_121, .ref q_122, .ref q_123, .ref q_124, .null, .null, .null, .ref o0])), (q_120, .inl (y 0, 16, .inl (fun _ => 0))), (q_121, .inl (y 0, 6, .inl (fun _ => 0))), (q_122, .inl (y 0, 6, .inl (fun _ => 0))), (q_123, .inl (y 0, 6, .inl (fun _ => 0))), (q_124, .inl (y 0, 6, .inl (fun _ => 0))), (q_125, .inl (y 0, 6, .inl (fun _ => 0)))] : va_W) H := hP
  have hD : aD A [h0, q_120, q_121, q_122, q_123, q_124, q_125] := aD_of hD9
  have hf35 := hts (.fieldLink RX4 35 "CoracleMakersModel$State" "load" "[I") (by decide +kernel)
  refine va_putF (D := D) (ci := 4) (v := .ref q_125) (ty := (.array .int)) (C := RX4) (T := TX4) (N := 13) hx hb hts hin4 tyX4 tyX4_ok nmX4 hown hK hP (aD_D hD rfl) hS 0 rfl rfl 9 (by decide) hf35 (fun _ h9 => h9) rfl hin rfl (by decide +kernel) rfl rfl (Nat.le_of_ble_eq_true rfl) dX4_init_60 (fun H locs hP _ hS => ?_)
  have hP : va_P D vwCl ([(h0, .inr (4, [.int 0, .int 12, .int 0, .int 0, .ref q_120, .ref q_121, .ref q_122, .ref q_123, .ref q_124, .ref q_125, .null, .null, .ref o0])), (q_120, .inl (y 0, 16, .inl (fun _ => 0))), (q_121, .inl (y 0, 6, .inl (fun _ => 0))), (q_122, .inl (y 0, 6, .inl (fun _ => 0))), (q_123, .inl (y 0, 6, .inl (fun _ => 0))), (q_124, .inl (y 0, 6, .inl (fun _ => 0))), (q_125, .inl (y 0, 6, .inl (fun _ => 0)))] : va_W) H := hP
  refine lv_aload_n hx hb dX4_init_63 rfl (lv_at hl 0 rfl) ?_
  refine lv_bipush (v := 6) hx hb dX4_init_64 (by decide) ?_
  refine va_newa (atype := .boolean) (ty := .boolean) (a0 := (6, .inl (fun _ => 0))) (N' := 6) hx hb (hts (.arrayClass .boolean) (by decide +kernel)) rfl hK hP (aD_D hD rfl) hS hA (fun _ => rfl) (by decide) (by decide) (by decide) (Nat.le_of_ble_eq_true rfl) (Nat.le_of_ble_eq_true rfl) dX4_init_66 (fun q_126 cA H hK9 hP hD9 hS => ?_)
  have eA := K_uniq hK9 (i := 5) (j := 1) rfl rfl
  subst eA
  have hP : va_P D vwCl ([(h0, .inr (4, [.int 0, .int 12, .int 0, .int 0, .ref q_120, .ref q_121, .ref q_122, .ref q_123, .ref q_124, .ref q_125, .null, .null, .ref o0])), (q_120, .inl (y 0, 16, .inl (fun _ => 0))), (q_121, .inl (y 0, 6, .inl (fun _ => 0))), (q_122, .inl (y 0, 6, .inl (fun _ => 0))), (q_123, .inl (y 0, 6, .inl (fun _ => 0))), (q_124, .inl (y 0, 6, .inl (fun _ => 0))), (q_125, .inl (y 0, 6, .inl (fun _ => 0))), (q_126, .inl (y 1, 6, .inl (fun _ => 0)))] : va_W) H := hP
  have hD : aD A [h0, q_120, q_121, q_122, q_123, q_124, q_125, q_126] := aD_of hD9
  have hf38 := hts (.fieldLink RX4 38 "CoracleMakersModel$State" "hasSunk" "[Z") (by decide +kernel)
  refine va_putF (D := D) (ci := 4) (v := .ref q_126) (ty := (.array .boolean)) (C := RX4) (T := TX4) (N := 13) hx hb hts hin4 tyX4 tyX4_ok nmX4 hown hK hP (aD_D hD rfl) hS 0 rfl rfl 10 (by decide) hf38 (fun _ h9 => h9) rfl hin rfl (by decide +kernel) rfl rfl (Nat.le_of_ble_eq_true rfl) dX4_init_68 (fun H locs hP _ hS => ?_)
  have hP : va_P D vwCl ([(h0, .inr (4, [.int 0, .int 12, .int 0, .int 0, .ref q_120, .ref q_121, .ref q_122, .ref q_123, .ref q_124, .ref q_125, .ref q_126, .null, .ref o0])), (q_120, .inl (y 0, 16, .inl (fun _ => 0))), (q_121, .inl (y 0, 6, .inl (fun _ => 0))), (q_122, .inl (y 0, 6, .inl (fun _ => 0))), (q_123, .inl (y 0, 6, .inl (fun _ => 0))), (q_124, .inl (y 0, 6, .inl (fun _ => 0))), (q_125, .inl (y 0, 6, .inl (fun _ => 0))), (q_126, .inl (y 1, 6, .inl (fun _ => 0)))] : va_W) H := hP
  refine lv_aload_n hx hb dX4_init_71 rfl (lv_at hl 0 rfl) ?_
  refine lv_iconst (v := 3) hx hb dX4_init_72 (by decide) ?_
  refine va_newa (atype := .int) (ty := .int) (a0 := (3, .inl (fun _ => 0))) (N' := 3) hx hb (hts (.arrayClass .int) (by decide +kernel)) rfl hK hP (aD_D hD rfl) hS hA (fun _ => rfl) (by decide) (by decide) (by decide) (Nat.le_of_ble_eq_true rfl) (Nat.le_of_ble_eq_true rfl) dX4_init_73 (fun q_127 cA H hK9 hP hD9 hS => ?_)
  have eA := K_uniq hK9 (i := 5) (j := 0) rfl rfl
  subst eA
  have hP : va_P D vwCl ([(h0, .inr (4, [.int 0, .int 12, .int 0, .int 0, .ref q_120, .ref q_121, .ref q_122, .ref q_123, .ref q_124, .ref q_125, .ref q_126, .null, .ref o0])), (q_120, .inl (y 0, 16, .inl (fun _ => 0))), (q_121, .inl (y 0, 6, .inl (fun _ => 0))), (q_122, .inl (y 0, 6, .inl (fun _ => 0))), (q_123, .inl (y 0, 6, .inl (fun _ => 0))), (q_124, .inl (y 0, 6, .inl (fun _ => 0))), (q_125, .inl (y 0, 6, .inl (fun _ => 0))), (q_126, .inl (y 1, 6, .inl (fun _ => 0))), (q_127, .inl (y 0, 3, .inl (fun _ => 0)))] : va_W) H := hP
  have hD : aD A [h0, q_120, q_121, q_122, q_123, q_124, q_125, q_126, q_127] := aD_of hD9
  have hf42 := hts (.fieldLink RX4 42 "CoracleMakersModel$State" "caught" "[I") (by decide +kernel)
  refine va_putF (D := D) (ci := 4) (v := .ref q_127) (ty := (.array .int)) (C := RX4) (T := TX4) (N := 13) hx hb hts hin4 tyX4 tyX4_ok nmX4 hown hK hP (aD_D hD rfl) hS 0 rfl rfl 11 (by decide) hf42 (fun _ h9 => h9) rfl hin rfl (by decide +kernel) rfl rfl (Nat.le_of_ble_eq_true rfl) dX4_init_75 (fun H locs hP _ hS => ?_)
  have hP : va_P D vwCl ([(h0, .inr (4, [.int 0, .int 12, .int 0, .int 0, .ref q_120, .ref q_121, .ref q_122, .ref q_123, .ref q_124, .ref q_125, .ref q_126, .ref q_127, .ref o0])), (q_120, .inl (y 0, 16, .inl (fun _ => 0))), (q_121, .inl (y 0, 6, .inl (fun _ => 0))), (q_122, .inl (y 0, 6, .inl (fun _ => 0))), (q_123, .inl (y 0, 6, .inl (fun _ => 0))), (q_124, .inl (y 0, 6, .inl (fun _ => 0))), (q_125, .inl (y 0, 6, .inl (fun _ => 0))), (q_126, .inl (y 1, 6, .inl (fun _ => 0))), (q_127, .inl (y 0, 3, .inl (fun _ => 0)))] : va_W) H := hP
  obtain ⟨bs, hbs⟩ : ∃ z : Nat → Nat, z = fun j => [h0, q_120, q_121, q_122, q_123, q_124, q_125, q_126, q_127].getD j 0 := ⟨_, rfl⟩
  have hP0 := hP
  have hPp : va_P D vwCl (stW y bs o0 (stI 0)) H := by
    subst hbs
    intro k q hk
    rw [wf_get] at hk
    match k, hk with
    | 0, hk => cases hk; exact hP0 0 _ rfl
    | 1, hk => cases hk; exact at_int (hP0 1 _ rfl) (fun i hi => by match i, hi with | 0, _ => rfl | 1, _ => rfl | 2, _ => rfl | 3, _ => rfl | 4, _ => rfl | 5, _ => rfl | 6, _ => rfl | 7, _ => rfl | 8, _ => rfl | 9, _ => rfl | 10, _ => rfl | 11, _ => rfl | 12, _ => rfl | 13, _ => rfl | 14, _ => rfl | 15, _ => rfl | i + 16, hi => omega)
    | 2, hk => cases hk; exact at_int (hP0 2 _ rfl) (fun i hi => by match i, hi with | 0, _ => rfl | 1, _ => rfl | 2, _ => rfl | 3, _ => rfl | 4, _ => rfl | 5, _ => rfl | i + 6, hi => omega)
    | 3, hk => cases hk; exact at_int (hP0 3 _ rfl) (fun i hi => by match i, hi with | 0, _ => rfl | 1, _ => rfl | 2, _ => rfl | 3, _ => rfl | 4, _ => rfl | 5, _ => rfl | i + 6, hi => omega)
    | 4, hk => cases hk; exact at_int (hP0 4 _ rfl) (fun i hi => by match i, hi with | 0, _ => rfl | 1, _ => rfl | 2, _ => rfl | 3, _ => rfl | 4, _ => rfl | 5, _ => rfl | i + 6, hi => omega)
    | 5, hk => cases hk; exact at_int (hP0 5 _ rfl) (fun i hi => by match i, hi with | 0, _ => rfl | 1, _ => rfl | 2, _ => rfl | 3, _ => rfl | 4, _ => rfl | 5, _ => rfl | i + 6, hi => omega)
    | 6, hk => cases hk; exact at_int (hP0 6 _ rfl) (fun i hi => by match i, hi with | 0, _ => rfl | 1, _ => rfl | 2, _ => rfl | 3, _ => rfl | 4, _ => rfl | 5, _ => rfl | i + 6, hi => omega)
    | 7, hk => cases hk; exact at_int (hP0 7 _ rfl) (fun i hi => by match i, hi with | 0, _ => rfl | 1, _ => rfl | 2, _ => rfl | 3, _ => rfl | 4, _ => rfl | 5, _ => rfl | i + 6, hi => omega)
    | 8, hk => cases hk; exact at_int (hP0 8 _ rfl) (fun i hi => by match i, hi with | 0, _ => rfl | 1, _ => rfl | 2, _ => rfl | i + 3, hi => omega)
    | k + 9, hk => rw [if_neg (by omega)] at hk; cases hk
  have hP := hPp
  have hD : aD A (wa 9 bs) := by rw [hbs]; exact hD
  subst hQ
  refine W.widen (k := 8) (n := 55) (Nat.le_of_ble_eq_true rfl) (Nat.le_of_ble_eq_true rfl) ?_
  exact W.vret hx hb hr (fun t ht hW => ⟨⟨bs, rfl, by rw [hbs]; rfl, bp_at hK hN hP t ht hW, hD⟩, hS.F ht⟩) hS.2.2 dX4_init_78
abbrev rmX3_init : Room := { frames := 3, cells := 30, slots := 232, locals := 57 }
set_option maxHeartbeats 8000000 in
set_option maxRecDepth 100000 in
/-- a constructor -/
theorem c_X3_init (l : Launch) (D : va_G) (y : Nat → ClassId) (sz : Nat) (h0 : Nat) : NwV (S := (Nat → Nat) × (Nat → Nat) × (Nat → Nat)) l D y yX3_init wsX3_init rmX3_init 30 232 [.ref h0] [(h0, .inr (3, [.null, .null, .null, .null]))] sz (fun u => u.1 0 = h0) (fun u => cmA y u.1 u.2.1 u.2.2 (kI 8) rv0 rv0) (fun u => wa 3 u.1 ++ (wa 14 u.2.1 ++ wa 14 u.2.2)) := by
  refine mW (fun A => va_Qv (fun (u : (Nat → Nat) × (Nat → Nat) × (Nat → Nat)) => u.1 0 = h0) (fun u t9 => Bp D y (cmA y u.1 u.2.1 u.2.2 (kI 8) rv0 rv0) t9 ∧ aD A (wa 3 u.1 ++ (wa 14 u.2.1 ++ wa 14 u.2.2))) A) (C := RX3) (cc := cX3_init) (maxL := 2) (ret := none) (by decide) rfl rfl (Nat.le_of_ble_eq_true rfl) ?_
  intro p e s m a below meth c ls A Q hQ hsz hx hb hr hts hown hlocks hin hml hP hK hN hD hA hS hl
  have hl : lv_has ls 2 [(0, .ref h0)] := hl
  refine lv_aload_n hx hb dX3_init_0 rfl (lv_at hl 0 rfl) ?_
  refine W.objInit hx hb hown (hts (.methodLink RX3 3 objectInit) (by decide +kernel)) (hts (.instanceMethod objectInit) (by decide +kernel)) (hts (.code objectInit ⟨#[0xb1]⟩ 1 none) (by decide +kernel)) rfl (by rw [hml]; exact hl.1) rfl dX3_init_1 (Nat.le_of_ble_eq_true rfl) (Nat.le_of_ble_eq_true rfl) ?_
  refine W.eq (g2 := F0 m 4 ls ([])) rfl ?_
  refine lv_aload_n hx hb dX3_init_4 rfl (lv_at hl 0 rfl) ?_
  refine lv_bipush (v := 8) hx hb dX3_init_5 (by decide) ?_
  refine va_newa (atype := .int) (ty := .int) (a0 := (8, .inl (fun _ => 0))) (N' := 8) hx hb (hts (.arrayClass .int) (by decide +kernel)) rfl hK hP (aD_D hD rfl) hS hA (fun _ => rfl) (by decide) (by decide) (by decide) (Nat.le_of_ble_eq_true rfl) (Nat.le_of_ble_eq_true rfl) dX3_init_7 (fun q_128 cA H hK9 hP hD9 hS => ?_)
  have eA := K_uniq hK9 (i := 5) (j := 0) rfl rfl
  subst eA
  have hP : va_P D vwCl ([(h0, .inr (3, [.null, .null, .null, .null])), (q_128, .inl (y 0, 8, .inl (fun _ => 0)))] : va_W) H := hP
  have hD : aD A [h0, q_128] := aD_of hD9
  have hin3 : ∀ w ∈ u_ws RX3 TX3 4, w ∈ wsX3_init := by decide +kernel
  have hf9 := hts (.fieldLink RX3 9 "CoracleMakers" "drifts" "[I") (by decide +kernel)
  refine va_putF (D := D) (ci := 3) (v := .ref q_128) (ty := (.array .int)) (C := RX3) (T := TX3) (N := 4) hx hb hts hin3 tyX3 tyX3_ok nmX3 hown hK hP (aD_D hD rfl) hS 0 rfl rfl 0 (by decide) hf9 (fun _ h9 => h9) rfl hin rfl (by decide +kernel) rfl rfl (Nat.le_of_ble_eq_true rfl) dX3_init_9 (fun H locs hP _ hS => ?_)
  have hP : va_P D vwCl ([(h0, .inr (3, [.ref q_128, .null, .null, .null])), (q_128, .inl (y 0, 8, .inl (fun _ => 0)))] : va_W) H := hP
  refine lv_aload_n hx hb dX3_init_12 rfl (lv_at hl 0 rfl) ?_
  refine lv_bipush (v := 8) hx hb dX3_init_13 (by decide) ?_
  refine va_newa (atype := .int) (ty := .int) (a0 := (8, .inl (fun _ => 0))) (N' := 8) hx hb (hts (.arrayClass .int) (by decide +kernel)) rfl hK hP (aD_D hD rfl) hS hA (fun _ => rfl) (by decide) (by decide) (by decide) (Nat.le_of_ble_eq_true rfl) (Nat.le_of_ble_eq_true rfl) dX3_init_15 (fun q_129 cA H hK9 hP hD9 hS => ?_)
  have eA := K_uniq hK9 (i := 5) (j := 0) rfl rfl
  subst eA
  have hP : va_P D vwCl ([(h0, .inr (3, [.ref q_128, .null, .null, .null])), (q_128, .inl (y 0, 8, .inl (fun _ => 0))), (q_129, .inl (y 0, 8, .inl (fun _ => 0)))] : va_W) H := hP
  have hD : aD A [h0, q_128, q_129] := aD_of hD9
  have hf13 := hts (.fieldLink RX3 13 "CoracleMakers" "runs" "[I") (by decide +kernel)
  refine va_putF (D := D) (ci := 3) (v := .ref q_129) (ty := (.array .int)) (C := RX3) (T := TX3) (N := 4) hx hb hts hin3 tyX3 tyX3_ok nmX3 hown hK hP (aD_D hD rfl) hS 0 rfl rfl 1 (by decide) hf13 (fun _ h9 => h9) rfl hin rfl (by decide +kernel) rfl rfl (Nat.le_of_ble_eq_true rfl) dX3_init_17 (fun H locs hP _ hS => ?_)
  have hP : va_P D vwCl ([(h0, .inr (3, [.ref q_128, .ref q_129, .null, .null])), (q_128, .inl (y 0, 8, .inl (fun _ => 0))), (q_129, .inl (y 0, 8, .inl (fun _ => 0)))] : va_W) H := hP
  refine lv_aload_n hx hb dX3_init_20 rfl (lv_at hl 0 rfl) ?_
  have hin2 : ∀ w ∈ u_ws RX2 TX2 10, w ∈ wsX3_init := by decide +kernel
  refine va_new (ci := 2) (fs := [.null, .null, .null, .null, .int 0, .int 0, .int 0, .int 0, .int 0, .int 0]) (C := RX2) (T := TX2) (N := 10) hx hb hts hin2 tyX2 tyX2_ok hown (hts (.classLink RX3 16 RX2) (by decide +kernel)) (hts (.instantiable RX2 10) (by decide +kernel)) (hts (.initialized RX2) (by decide +kernel)) hK hP (aD_D hD rfl) hS hA rfl (by decide) (Nat.le_of_ble_eq_true rfl) (Nat.le_of_ble_eq_true rfl) dX3_init_21 (fun q_130 H hP hD9 hS => ?_)
  have hD : aD A (List.map Prod.fst ([(h0, .inr (3, [.ref q_128, .ref q_129, .null, .null])), (q_128, .inl (y 0, 8, .inl (fun _ => 0))), (q_129, .inl (y 0, 8, .inl (fun _ => 0)))] : va_W) ++ [q_130]) := by have h9 := aD_of hD9; rw [List.map_append] at h9; exact h9
  refine lv_dup hx hb dX3_init_24 rfl ?_
  refine cNw_I (As := []) (rest := [.ref q_130, .ref h0]) ⟨hx, hb, hml, hown, hts⟩ (c_X2_init l D y _ q_130) (cwI 0 hts ggX3_init_X2_init rfl rfl rfl (hts (.initialized RX2) (by decide +kernel)) (hts (.methodLink RX3 18 yX2_init) (by decide +kernel)) (hts (.instanceMethod yX2_init) (by decide +kernel)) rfl (by decide +kernel) ⟨Nat.le_of_ble_eq_true rfl, Nat.le_of_ble_eq_true rfl⟩) hK hN hP hD hS hA rfl hl.1 rfl (Nat.le_of_ble_eq_true rfl) dX3_init_25 ⟨Nat.le_of_ble_eq_true rfl, Nat.le_of_ble_eq_true rfl⟩ (fun an H locs han hPn hDn hSn => ?_)
  subst han
  have hS := hSn
  have hP : va_P D vwCl (([(h0, .inr (3, [.ref q_128, .ref q_129, .null, .null])), (q_128, .inl (y 0, 8, .inl (fun _ => 0))), (q_129, .inl (y 0, 8, .inl (fun _ => 0)))] : va_W) ++ rvW y an rv0) H := hPn
  have hD : aD A ([h0, q_128, q_129] ++ wa 14 an) := hDn
  have hf19 := hts (.fieldLink RX3 19 "CoracleMakers" "now" "LCoracleMakers$River;") (by decide +kernel)
  refine va_putF (D := D) (ci := 3) (v := .ref (an 0)) (ty := (.object "CoracleMakers$River")) (C := RX3) (T := TX3) (N := 4) hx hb hts hin3 tyX3 tyX3_ok nmX3 hown hK hP (aD_D hD (show List.map Prod.fst (([(h0, .inr (3, [.ref q_128, .ref q_129, .null, .null])), (q_128, .inl (y 0, 8, .inl (fun _ => 0))), (q_129, .inl (y 0, 8, .inl (fun _ => 0)))] : va_W) ++ rvW y an rv0) = _ from by rw [List.map_append, rv_fst]; rfl)) hS 0 (ap_l rfl) rfl 2 (by decide) hf19 (fun _ h9 => h9) rfl hin rfl (by decide +kernel) rfl rfl (Nat.le_of_ble_eq_true rfl) dX3_init_28 (fun H locs hP _ hS => ?_)
  have hP : va_P D vwCl (([(h0, .inr (3, [.ref q_128, .ref q_129, .ref (an 0), .null])), (q_128, .inl (y 0, 8, .inl (fun _ => 0))), (q_129, .inl (y 0, 8, .inl (fun _ => 0)))] : va_W) ++ rvW y an rv0) H := (P_eq (ap_set_l (show 0 < List.length _ by simp) rfl) hP)
  refine lv_aload_n hx hb dX3_init_31 rfl (lv_at hl 0 rfl) ?_
  refine va_new (ci := 2) (fs := [.null, .null, .null, .null, .int 0, .int 0, .int 0, .int 0, .int 0, .int 0]) (C := RX2) (T := TX2) (N := 10) hx hb hts hin2 tyX2 tyX2_ok hown (hts (.classLink RX3 16 RX2) (by decide +kernel)) (hts (.instantiable RX2 10) (by decide +kernel)) (hts (.initialized RX2) (by decide +kernel)) hK hP (aD_D hD (show List.map Prod.fst (([(h0, .inr (3, [.ref q_128, .ref q_129, .ref (an 0), .null])), (q_128, .inl (y 0, 8, .inl (fun _ => 0))), (q_129, .inl (y 0, 8, .inl (fun _ => 0)))] : va_W) ++ rvW y an rv0) = _ from by rw [List.map_append, rv_fst]; rfl)) hS hA rfl (by decide) (Nat.le_of_ble_eq_true rfl) (Nat.le_of_ble_eq_true rfl) dX3_init_32 (fun q_131 H hP hD9 hS => ?_)
  have hD : aD A (List.map Prod.fst (([(h0, .inr (3, [.ref q_128, .ref q_129, .ref (an 0), .null])), (q_128, .inl (y 0, 8, .inl (fun _ => 0))), (q_129, .inl (y 0, 8, .inl (fun _ => 0)))] : va_W) ++ rvW y an rv0) ++ [q_131]) := by have h9 := aD_of hD9; rw [List.map_append] at h9; exact h9
  refine lv_dup hx hb dX3_init_35 rfl ?_
  refine cNw_I (As := []) (rest := [.ref q_131, .ref h0]) ⟨hx, hb, hml, hown, hts⟩ (c_X2_init l D y _ q_131) (cwI 0 hts ggX3_init_X2_init rfl rfl rfl (hts (.initialized RX2) (by decide +kernel)) (hts (.methodLink RX3 18 yX2_init) (by decide +kernel)) (hts (.instanceMethod yX2_init) (by decide +kernel)) rfl (by decide +kernel) ⟨Nat.le_of_ble_eq_true rfl, Nat.le_of_ble_eq_true rfl⟩) hK hN hP hD hS hA rfl hl.1 rfl (Nat.le_of_ble_eq_true rfl) dX3_init_36 ⟨Nat.le_of_ble_eq_true rfl, Nat.le_of_ble_eq_true rfl⟩ (fun ar H locs har hPn hDn hSn => ?_)
  subst har
  have hS := hSn
  have hP : va_P D vwCl ((([(h0, .inr (3, [.ref q_128, .ref q_129, .ref (an 0), .null])), (q_128, .inl (y 0, 8, .inl (fun _ => 0))), (q_129, .inl (y 0, 8, .inl (fun _ => 0)))] : va_W) ++ rvW y an rv0) ++ rvW y ar rv0) H := hPn
  have hD : aD A (([h0, q_128, q_129] ++ wa 14 an) ++ wa 14 ar) := by rw [List.map_append, rv_fst] at hDn; exact hDn
  have hf23 := hts (.fieldLink RX3 23 "CoracleMakers" "trial" "LCoracleMakers$River;") (by decide +kernel)
  refine va_putF (D := D) (ci := 3) (v := .ref (ar 0)) (ty := (.object "CoracleMakers$River")) (C := RX3) (T := TX3) (N := 4) hx hb hts hin3 tyX3 tyX3_ok nmX3 hown hK hP (aD_D hD (show List.map Prod.fst ((([(h0, .inr (3, [.ref q_128, .ref q_129, .ref (an 0), .null])), (q_128, .inl (y 0, 8, .inl (fun _ => 0))), (q_129, .inl (y 0, 8, .inl (fun _ => 0)))] : va_W) ++ rvW y an rv0) ++ rvW y ar rv0) = _ from by rw [List.map_append, List.map_append, rv_fst, rv_fst]; rfl)) hS 0 (ap_l (ap_l rfl)) rfl 3 (by decide) hf23 (fun _ h9 => h9) rfl hin rfl (by decide +kernel) rfl rfl (Nat.le_of_ble_eq_true rfl) dX3_init_39 (fun H locs hP _ hS => ?_)
  have hP : va_P D vwCl ((([(h0, .inr (3, [.ref q_128, .ref q_129, .ref (an 0), .ref (ar 0)])), (q_128, .inl (y 0, 8, .inl (fun _ => 0))), (q_129, .inl (y 0, 8, .inl (fun _ => 0)))] : va_W) ++ rvW y an rv0) ++ rvW y ar rv0) H := (P_eq (ap_set_l (show 0 < List.length _ by simp) (ap_set_l (show 0 < List.length _ by simp) rfl)) hP)
  refine lv_iconst (v := 0) hx hb dX3_init_42 (by decide) ?_
  refine lv_istore_n (lv' := [(1, .int 0), (0, .ref h0)]) hx hb dX3_init_43 rfl hl (by decide) rfl (fun ls hl => ?_)
  obtain ⟨ac, hac⟩ : ∃ z : Nat → Nat, z = fun j => [h0, q_128, q_129].getD j 0 := ⟨_, rfl⟩
  have hP0 := P_l (P_l hP)
  have hPp : va_P D vwCl (cmW y ac (an 0) (ar 0) (kI 0)) H := by
    subst hac
    intro k q hk
    rw [wf_get] at hk
    match k, hk with
    | 0, hk => cases hk; exact hP0 0 _ rfl
    | 1, hk => cases hk; exact at_int (hP0 1 _ rfl) (fun i hi => by match i, hi with | 0, _ => rfl | 1, _ => rfl | 2, _ => rfl | 3, _ => rfl | 4, _ => rfl | 5, _ => rfl | 6, _ => rfl | 7, _ => rfl | i + 8, hi => omega)
    | 2, hk => cases hk; exact at_int (hP0 2 _ rfl) (fun i hi => by match i, hi with | 0, _ => rfl | 1, _ => rfl | 2, _ => rfl | 3, _ => rfl | 4, _ => rfl | 5, _ => rfl | 6, _ => rfl | 7, _ => rfl | i + 8, hi => omega)
    | k + 3, hk => rw [if_neg (by omega)] at hk; cases hk
  have hP : va_P D vwCl (cmA y ac an ar (kI 0) rv0 rv0) H := va_P.app hPp (va_P.app (P_r (P_l hP)) (P_r hP))
  have hD : aD A (wa 3 ac ++ (wa 14 an ++ wa 14 ar)) := by rw [← List.append_assoc]; rw [hac]; exact hD
  have eh0 : h0 = ac 0 := by rw [hac]; rfl
  have eq_128 : q_128 = ac 1 := by rw [hac]; rfl
  have eq_129 : q_129 = ac 2 := by rw [hac]; rfl
  have h0ac : ac 0 = h0 := by rw [hac]; rfl
  rw [eh0] at hl
  have hl : lv_has ls 2 [(1, .int (nI 0)), (0, .ref (ac 0))] := hl
  refine W.widen (k := 30) (n := 232) (Nat.le_of_ble_eq_true rfl) (Nat.le_of_ble_eq_true rfl) ?_
  have lr22 : ∀ (n i : Nat) (H : Heap) (locs : List Loc) (ls : Array Slot), 8 - i < n → i ≤ 8 → va_P D vwCl (cmW y ac (an 0) (ar 0) (kI i) ++ (rvW y an rv0 ++ rvW y ar rv0)) H → va_S A s.heap H locs → lv_has ls 2 [(0, .ref (ac 0)), (1, .int (nI i))] → W p l e rmX3_init s m a below meth c H locs 30 232 Q (F0 m 44 ls []) := by
    intro n
    induction n with
    | zero => intro i H locs ls hn; exact absurd hn (Nat.not_lt_zero _)
    | succ n ih =>
      intro i H locs ls hn hi hP hS hl
      rcases Nat.lt_or_ge i 8 with hiN | hiN
      · have ei : ix (nI i) = i := nI_clamp (by omega)
        refine lv_iload_n hx hb dX3_init_44 rfl (lv_at hl 1 rfl) ?_
        refine lv_bipush (v := 8) hx hb dX3_init_45 (by decide) ?_
        refine lv_icmp_ge (tgt := 70) hx hb dX3_init_47 (by decide) (fun c9 => absurd c9 (nI_ge hiN (by decide))) (fun _ => ?_)
        refine lv_aload_n hx hb dX3_init_50 rfl (lv_at hl 0 rfl) ?_
        refine va_get (D := D) (ci := 3) (v := .ref (ac 1)) (C := RX3) (T := TX3) (N := 4) hx hb hts hin3 hown hK hP 0 (ap_l (wf_at (by decide) rfl)) rfl 0 (by decide) hf9 (fun _ h9 => h9) rfl dX3_init_51 ?_
        refine lv_iload_n hx hb dX3_init_54 rfl (lv_at hl 1 rfl) ?_
        refine lv_iconst (v := 1) hx hb dX3_init_55 (by decide) ?_
        obtain ⟨K41, hK41⟩ : ∃ z, z = va_up (kI i) 1 (upd ((kI i) 1) (ix (nI i)) 1) := ⟨_, rfl⟩
        refine va_iast hx hb hK hP (aD_D hD (show List.map Prod.fst (cmW y ac (an 0) (ar 0) (kI i) ++ (rvW y an rv0 ++ rvW y ar rv0)) = _ from by rw [List.map_append, List.map_append, cm_fst y ac _ _ _, rv_fst y an _, rv_fst y ar _])) hS 1 0 (ap_l (wf_at (by decide) rfl)) rfl (vp_in_nI hiN (by decide)) dX3_init_56 (fun H locs hP _ hS => ?_)
        have hP : va_P D vwCl (cmW y ac (an 0) (ar 0) K41 ++ (rvW y an rv0 ++ rvW y ar rv0)) H := (by rw [hK41]; exact P_eq (ap_set_l (show 1 < (wf _ _ _).length by rw [wf_len]; omega) (cm_set (k := 1) (upd ((kI i) 1) (ix (nI i)) 1) (by decide) rfl)) hP)
        refine lv_aload_n hx hb dX3_init_57 rfl (lv_at hl 0 rfl) ?_
        refine va_get (D := D) (ci := 3) (v := .ref (ac 2)) (C := RX3) (T := TX3) (N := 4) hx hb hts hin3 hown hK hP 0 (ap_l (wf_at (by decide) rfl)) rfl 1 (by decide) hf13 (fun _ h9 => h9) rfl dX3_init_58 ?_
        refine lv_iload_n hx hb dX3_init_61 rfl (lv_at hl 1 rfl) ?_
        refine lv_iconst (v := 3) hx hb dX3_init_62 (by decide) ?_
        obtain ⟨K42, hK42⟩ : ∃ z, z = va_up K41 2 (upd (K41 2) (ix (nI i)) 3) := ⟨_, rfl⟩
        refine va_iast hx hb hK hP (aD_D hD (show List.map Prod.fst (cmW y ac (an 0) (ar 0) K41 ++ (rvW y an rv0 ++ rvW y ar rv0)) = _ from by rw [List.map_append, List.map_append, cm_fst y ac _ _ _, rv_fst y an _, rv_fst y ar _])) hS 2 0 (ap_l (wf_at (by decide) rfl)) rfl (vp_in_nI hiN (by decide)) dX3_init_63 (fun H locs hP _ hS => ?_)
        have hP : va_P D vwCl (cmW y ac (an 0) (ar 0) K42 ++ (rvW y an rv0 ++ rvW y ar rv0)) H := (by rw [hK42]; exact P_eq (ap_set_l (show 2 < (wf _ _ _).length by rw [wf_len]; omega) (cm_set (k := 2) (upd (K41 2) (ix (nI i)) 3) (by decide) rfl)) hP)
        have e9 : K42 = kI (i + 1) := kI_s (K1 := K41) i (by rw [hK41, ei]) (by rw [hK42, ei])
        rw [e9] at hP
        refine lv_iinc (v := nI (i + 1)) (lv' := [(1, .int (nI (i + 1))), (0, .ref (ac 0))]) hx hb dX3_init_64 hl (k := 1) rfl (by first | rfl | exact (nI_1 i)) (by decide) rfl (fun ls hl => ?_)
        refine lv_goto (tgt := 44) hx hb dX3_init_67 (by decide) ?_
        exact ih (i + 1) _ _ _ (by omega) (by omega) hP hS (lv_sub hl [1, 0] rfl)
      · have e9i : 8 = i := by omega
        subst e9i
        refine lv_iload_n hx hb dX3_init_44 rfl (lv_at hl 1 rfl) ?_
        refine lv_bipush (v := 8) hx hb dX3_init_45 (by decide) ?_
        refine lv_icmp_ge (tgt := 70) hx hb dX3_init_47 (by decide) (fun _ => ?_) (fun c9 => absurd (show (8 : Int32) ≤ nI 8 by decide) c9)
        subst hQ
        refine W.widen (k := 30) (n := 232) (Nat.le_of_ble_eq_true rfl) (Nat.le_of_ble_eq_true rfl) ?_
        exact W.vret hx hb hr (fun t ht hW => ⟨⟨(ac, an, ar), rfl, h0ac, bp_at hK hN hP t ht hW, hD⟩, hS.F ht⟩) hS.2.2 dX3_init_70
  exact lr22 (8 + 1) 0 _ _ ls (by omega) (by omega) hP hS (lv_sub hl [1, 0] rfl)
abbrev rmX5_init : Room := { frames := 2, cells := 26, slots := 179, locals := 37 }
set_option maxHeartbeats 8000000 in
set_option maxRecDepth 100000 in
/-- a constructor -/
theorem c_X5_init (l : Launch) (D : va_G) (y : Nat → ClassId) (sz : Nat) (h0 : Nat) : NwV (S := (Nat → Nat) × (Nat → Nat) × (Nat → Nat)) l D y yX5_init wsX5_init rmX5_init 26 179 [.ref h0] [(h0, .inr (5, [.int 0, .null, .null, .int 0, .null, .null, .null, .int 0, .null, .null, .int 0, .null, .null, .null]))] sz (fun u => u.1 0 = h0) (fun u => moA y u.1 u.2.1 u.2.2 mo0 (stI 16) (stI 0)) (fun u => wa 9 u.1 ++ (wa 9 u.2.1 ++ wa 9 u.2.2)) := by
  refine mW (fun A => va_Qv (fun (u : (Nat → Nat) × (Nat → Nat) × (Nat → Nat)) => u.1 0 = h0) (fun u t9 => Bp D y (moA y u.1 u.2.1 u.2.2 mo0 (stI 16) (stI 0)) t9 ∧ aD A (wa 9 u.1 ++ (wa 9 u.2.1 ++ wa 9 u.2.2))) A) (C := RX5) (cc := cX5_init) (maxL := 2) (ret := none) (by decide) rfl rfl (Nat.le_of_ble_eq_true rfl) ?_
  intro p e s m a below meth c ls A Q hQ hsz hx hb hr hts hown hlocks hin hml hP hK hN hD hA hS hl
  have hl : lv_has ls 2 [(0, .ref h0)] := hl
  refine lv_aload_n hx hb dX5_init_0 rfl (lv_at hl 0 rfl) ?_
  refine W.objInit hx hb hown (hts (.methodLink RX5 1 objectInit) (by decide +kernel)) (hts (.instanceMethod objectInit) (by decide +kernel)) (hts (.code objectInit ⟨#[0xb1]⟩ 1 none) (by decide +kernel)) rfl (by rw [hml]; exact hl.1) rfl dX5_init_1 (Nat.le_of_ble_eq_true rfl) (Nat.le_of_ble_eq_true rfl) ?_
  refine W.eq (g2 := F0 m 4 ls ([])) rfl ?_
  refine lv_aload_n hx hb dX5_init_4 rfl (lv_at hl 0 rfl) ?_
  refine lv_bipush (v := 8) hx hb dX5_init_5 (by decide) ?_
  refine va_newa (atype := .int) (ty := .int) (a0 := (8, .inl (fun _ => 0))) (N' := 8) hx hb (hts (.arrayClass .int) (by decide +kernel)) rfl hK hP (aD_D hD rfl) hS hA (fun _ => rfl) (by decide) (by decide) (by decide) (Nat.le_of_ble_eq_true rfl) (Nat.le_of_ble_eq_true rfl) dX5_init_7 (fun q_132 cA H hK9 hP hD9 hS => ?_)
  have eA := K_uniq hK9 (i := 5) (j := 0) rfl rfl
  subst eA
  have hP : va_P D vwCl ([(h0, .inr (5, [.int 0, .null, .null, .int 0, .null, .null, .null, .int 0, .null, .null, .int 0, .null, .null, .null])), (q_132, .inl (y 0, 8, .inl (fun _ => 0)))] : va_W) H := hP
  have hD : aD A [h0, q_132] := aD_of hD9
  refine lv_dup hx hb dX5_init_9 rfl ?_
  refine lv_iconst (v := 0) hx hb dX5_init_10 (by decide) ?_
  refine lv_iconst (v := 1) hx hb dX5_init_11 (by decide) ?_
  refine va_iast hx hb hK hP (aD_D hD rfl) hS 1 0 rfl rfl (show vp_in (0 : Int32) 8 from vp_in_nI (n := 0) (by decide) (by decide)) dX5_init_12 (fun H locs hP _ hS => ?_)
  have hP : va_P D vwCl ([(h0, .inr (5, [.int 0, .null, .null, .int 0, .null, .null, .null, .int 0, .null, .null, .int 0, .null, .null, .null])), (q_132, .inl (y 0, 8, .inl (upd (fun _ => 0) 0 1)))] : va_W) H := hP
  refine lv_dup hx hb dX5_init_13 rfl ?_
  refine lv_iconst (v := 1) hx hb dX5_init_14 (by decide) ?_
  refine lv_iconst (v := 1) hx hb dX5_init_15 (by decide) ?_
  refine va_iast hx hb hK hP (aD_D hD rfl) hS 1 0 rfl rfl (show vp_in (1 : Int32) 8 from vp_in_nI (n := 1) (by decide) (by decide)) dX5_init_16 (fun H locs hP _ hS => ?_)
  have hP : va_P D vwCl ([(h0, .inr (5, [.int 0, .null, .null, .int 0, .null, .null, .null, .int 0, .null, .null, .int 0, .null, .null, .null])), (q_132, .inl (y 0, 8, .inl (upd (upd (fun _ => 0) 0 1) 1 1)))] : va_W) H := hP
  refine lv_dup hx hb dX5_init_17 rfl ?_
  refine lv_iconst (v := 2) hx hb dX5_init_18 (by decide) ?_
  refine lv_iconst (v := 1) hx hb dX5_init_19 (by decide) ?_
  refine va_iast hx hb hK hP (aD_D hD rfl) hS 1 0 rfl rfl (show vp_in (2 : Int32) 8 from vp_in_nI (n := 2) (by decide) (by decide)) dX5_init_20 (fun H locs hP _ hS => ?_)
  have hP : va_P D vwCl ([(h0, .inr (5, [.int 0, .null, .null, .int 0, .null, .null, .null, .int 0, .null, .null, .int 0, .null, .null, .null])), (q_132, .inl (y 0, 8, .inl (upd (upd (upd (fun _ => 0) 0 1) 1 1) 2 1)))] : va_W) H := hP
  refine lv_dup hx hb dX5_init_21 rfl ?_
  refine lv_iconst (v := 3) hx hb dX5_init_22 (by decide) ?_
  refine lv_iconst (v := 1) hx hb dX5_init_23 (by decide) ?_
  refine va_iast hx hb hK hP (aD_D hD rfl) hS 1 0 rfl rfl (show vp_in (3 : Int32) 8 from vp_in_nI (n := 3) (by decide) (by decide)) dX5_init_24 (fun H locs hP _ hS => ?_)
  have hP : va_P D vwCl ([(h0, .inr (5, [.int 0, .null, .null, .int 0, .null, .null, .null, .int 0, .null, .null, .int 0, .null, .null, .null])), (q_132, .inl (y 0, 8, .inl (upd (upd (upd (upd (fun _ => 0) 0 1) 1 1) 2 1) 3 1)))] : va_W) H := hP
  refine lv_dup hx hb dX5_init_25 rfl ?_
  refine lv_iconst (v := 4) hx hb dX5_init_26 (by decide) ?_
  refine lv_iconst (v := 1) hx hb dX5_init_27 (by decide) ?_
  refine va_iast hx hb hK hP (aD_D hD rfl) hS 1 0 rfl rfl (show vp_in (4 : Int32) 8 from vp_in_nI (n := 4) (by decide) (by decide)) dX5_init_28 (fun H locs hP _ hS => ?_)
  have hP : va_P D vwCl ([(h0, .inr (5, [.int 0, .null, .null, .int 0, .null, .null, .null, .int 0, .null, .null, .int 0, .null, .null, .null])), (q_132, .inl (y 0, 8, .inl (upd (upd (upd (upd (upd (fun _ => 0) 0 1) 1 1) 2 1) 3 1) 4 1)))] : va_W) H := hP
  refine lv_dup hx hb dX5_init_29 rfl ?_
  refine lv_iconst (v := 5) hx hb dX5_init_30 (by decide) ?_
  refine lv_iconst (v := 1) hx hb dX5_init_31 (by decide) ?_
  refine va_iast hx hb hK hP (aD_D hD rfl) hS 1 0 rfl rfl (show vp_in (5 : Int32) 8 from vp_in_nI (n := 5) (by decide) (by decide)) dX5_init_32 (fun H locs hP _ hS => ?_)
  have hP : va_P D vwCl ([(h0, .inr (5, [.int 0, .null, .null, .int 0, .null, .null, .null, .int 0, .null, .null, .int 0, .null, .null, .null])), (q_132, .inl (y 0, 8, .inl (upd (upd (upd (upd (upd (upd (fun _ => 0) 0 1) 1 1) 2 1) 3 1) 4 1) 5 1)))] : va_W) H := hP
  refine lv_dup hx hb dX5_init_33 rfl ?_
  refine lv_bipush (v := 6) hx hb dX5_init_34 (by decide) ?_
  refine lv_iconst (v := 1) hx hb dX5_init_36 (by decide) ?_
  refine va_iast hx hb hK hP (aD_D hD rfl) hS 1 0 rfl rfl (show vp_in (6 : Int32) 8 from vp_in_nI (n := 6) (by decide) (by decide)) dX5_init_37 (fun H locs hP _ hS => ?_)
  have hP : va_P D vwCl ([(h0, .inr (5, [.int 0, .null, .null, .int 0, .null, .null, .null, .int 0, .null, .null, .int 0, .null, .null, .null])), (q_132, .inl (y 0, 8, .inl (upd (upd (upd (upd (upd (upd (upd (fun _ => 0) 0 1) 1 1) 2 1) 3 1) 4 1) 5 1) 6 1)))] : va_W) H := hP
  refine lv_dup hx hb dX5_init_38 rfl ?_
  refine lv_bipush (v := 7) hx hb dX5_init_39 (by decide) ?_
  refine lv_iconst (v := 1) hx hb dX5_init_41 (by decide) ?_
  refine va_iast hx hb hK hP (aD_D hD rfl) hS 1 0 rfl rfl (show vp_in (7 : Int32) 8 from vp_in_nI (n := 7) (by decide) (by decide)) dX5_init_42 (fun H locs hP _ hS => ?_)
  have hP : va_P D vwCl ([(h0, .inr (5, [.int 0, .null, .null, .int 0, .null, .null, .null, .int 0, .null, .null, .int 0, .null, .null, .null])), (q_132, .inl (y 0, 8, .inl (upd (upd (upd (upd (upd (upd (upd (upd (fun _ => 0) 0 1) 1 1) 2 1) 3 1) 4 1) 5 1) 6 1) 7 1)))] : va_W) H := hP
  have hin5 : ∀ w ∈ u_ws RX5 TX5 14, w ∈ wsX5_init := by decide +kernel
  have hf7 := hts (.fieldLink RX5 7 "CoracleMakersModel" "drift" "[I") (by decide +kernel)
  refine va_putF (D := D) (ci := 5) (v := .ref q_132) (ty := (.array .int)) (C := RX5) (T := TX5) (N := 14) hx hb hts hin5 tyX5 tyX5_ok nmX5 hown hK hP (aD_D hD rfl) hS 0 rfl rfl 1 (by decide) hf7 (fun _ h9 => h9) rfl hin rfl (by decide +kernel) rfl rfl (Nat.le_of_ble_eq_true rfl) dX5_init_43 (fun H locs hP _ hS => ?_)
  have hP : va_P D vwCl ([(h0, .inr (5, [.int 0, .ref q_132, .null, .int 0, .null, .null, .null, .int 0, .null, .null, .int 0, .null, .null, .null])), (q_132, .inl (y 0, 8, .inl (upd (upd (upd (upd (upd (upd (upd (upd (fun _ => 0) 0 1) 1 1) 2 1) 3 1) 4 1) 5 1) 6 1) 7 1)))] : va_W) H := hP
  refine lv_aload_n hx hb dX5_init_46 rfl (lv_at hl 0 rfl) ?_
  refine lv_bipush (v := 8) hx hb dX5_init_47 (by decide) ?_
  refine va_newa (atype := .int) (ty := .int) (a0 := (8, .inl (fun _ => 0))) (N' := 8) hx hb (hts (.arrayClass .int) (by decide +kernel)) rfl hK hP (aD_D hD rfl) hS hA (fun _ => rfl) (by decide) (by decide) (by decide) (Nat.le_of_ble_eq_true rfl) (Nat.le_of_ble_eq_true rfl) dX5_init_49 (fun q_133 cA H hK9 hP hD9 hS => ?_)
  have eA := K_uniq hK9 (i := 5) (j := 0) rfl rfl
  subst eA
  have hP : va_P D vwCl ([(h0, .inr (5, [.int 0, .ref q_132, .null, .int 0, .null, .null, .null, .int 0, .null, .null, .int 0, .null, .null, .null])), (q_132, .inl (y 0, 8, .inl (upd (upd (upd (upd (upd (upd (upd (upd (fun _ => 0) 0 1) 1 1) 2 1) 3 1) 4 1) 5 1) 6 1) 7 1))), (q_133, .inl (y 0, 8, .inl (fun _ => 0)))] : va_W) H := hP
  have hD : aD A [h0, q_132, q_133] := aD_of hD9
  refine lv_dup hx hb dX5_init_51 rfl ?_
  refine lv_iconst (v := 0) hx hb dX5_init_52 (by decide) ?_
  refine lv_iconst (v := 3) hx hb dX5_init_53 (by decide) ?_
  refine va_iast hx hb hK hP (aD_D hD rfl) hS 2 0 rfl rfl (show vp_in (0 : Int32) 8 from vp_in_nI (n := 0) (by decide) (by decide)) dX5_init_54 (fun H locs hP _ hS => ?_)
  have hP : va_P D vwCl ([(h0, .inr (5, [.int 0, .ref q_132, .null, .int 0, .null, .null, .null, .int 0, .null, .null, .int 0, .null, .null, .null])), (q_132, .inl (y 0, 8, .inl (upd (upd (upd (upd (upd (upd (upd (upd (fun _ => 0) 0 1) 1 1) 2 1) 3 1) 4 1) 5 1) 6 1) 7 1))), (q_133, .inl (y 0, 8, .inl (upd (fun _ => 0) 0 3)))] : va_W) H := hP
  refine lv_dup hx hb dX5_init_55 rfl ?_
  refine lv_iconst (v := 1) hx hb dX5_init_56 (by decide) ?_
  refine lv_iconst (v := 3) hx hb dX5_init_57 (by decide) ?_
  refine va_iast hx hb hK hP (aD_D hD rfl) hS 2 0 rfl rfl (show vp_in (1 : Int32) 8 from vp_in_nI (n := 1) (by decide) (by decide)) dX5_init_58 (fun H locs hP _ hS => ?_)
  have hP : va_P D vwCl ([(h0, .inr (5, [.int 0, .ref q_132, .null, .int 0, .null, .null, .null, .int 0, .null, .null, .int 0, .null, .null, .null])), (q_132, .inl (y 0, 8, .inl (upd (upd (upd (upd (upd (upd (upd (upd (fun _ => 0) 0 1) 1 1) 2 1) 3 1) 4 1) 5 1) 6 1) 7 1))), (q_133, .inl (y 0, 8, .inl (upd (upd (fun _ => 0) 0 3) 1 3)))] : va_W) H := hP
  refine lv_dup hx hb dX5_init_59 rfl ?_
  refine lv_iconst (v := 2) hx hb dX5_init_60 (by decide) ?_
  refine lv_iconst (v := 3) hx hb dX5_init_61 (by decide) ?_
  refine va_iast hx hb hK hP (aD_D hD rfl) hS 2 0 rfl rfl (show vp_in (2 : Int32) 8 from vp_in_nI (n := 2) (by decide) (by decide)) dX5_init_62 (fun H locs hP _ hS => ?_)
  have hP : va_P D vwCl ([(h0, .inr (5, [.int 0, .ref q_132, .null, .int 0, .null, .null, .null, .int 0, .null, .null, .int 0, .null, .null, .null])), (q_132, .inl (y 0, 8, .inl (upd (upd (upd (upd (upd (upd (upd (upd (fun _ => 0) 0 1) 1 1) 2 1) 3 1) 4 1) 5 1) 6 1) 7 1))), (q_133, .inl (y 0, 8, .inl (upd (upd (upd (fun _ => 0) 0 3) 1 3) 2 3)))] : va_W) H := hP
  refine lv_dup hx hb dX5_init_63 rfl ?_
  refine lv_iconst (v := 3) hx hb dX5_init_64 (by decide) ?_
  refine lv_iconst (v := 3) hx hb dX5_init_65 (by decide) ?_
  refine va_iast hx hb hK hP (aD_D hD rfl) hS 2 0 rfl rfl (show vp_in (3 : Int32) 8 from vp_in_nI (n := 3) (by decide) (by decide)) dX5_init_66 (fun H locs hP _ hS => ?_)
  have hP : va_P D vwCl ([(h0, .inr (5, [.int 0, .ref q_132, .null, .int 0, .null, .null, .null, .int 0, .null, .null, .int 0, .null, .null, .null])), (q_132, .inl (y 0, 8, .inl (upd (upd (upd (upd (upd (upd (upd (upd (fun _ => 0) 0 1) 1 1) 2 1) 3 1) 4 1) 5 1) 6 1) 7 1))), (q_133, .inl (y 0, 8, .inl (upd (upd (upd (upd (fun _ => 0) 0 3) 1 3) 2 3) 3 3)))] : va_W) H := hP
  refine lv_dup hx hb dX5_init_67 rfl ?_
  refine lv_iconst (v := 4) hx hb dX5_init_68 (by decide) ?_
  refine lv_iconst (v := 3) hx hb dX5_init_69 (by decide) ?_
  refine va_iast hx hb hK hP (aD_D hD rfl) hS 2 0 rfl rfl (show vp_in (4 : Int32) 8 from vp_in_nI (n := 4) (by decide) (by decide)) dX5_init_70 (fun H locs hP _ hS => ?_)
  have hP : va_P D vwCl ([(h0, .inr (5, [.int 0, .ref q_132, .null, .int 0, .null, .null, .null, .int 0, .null, .null, .int 0, .null, .null, .null])), (q_132, .inl (y 0, 8, .inl (upd (upd (upd (upd (upd (upd (upd (upd (fun _ => 0) 0 1) 1 1) 2 1) 3 1) 4 1) 5 1) 6 1) 7 1))), (q_133, .inl (y 0, 8, .inl (upd (upd (upd (upd (upd (fun _ => 0) 0 3) 1 3) 2 3) 3 3) 4 3)))] : va_W) H := hP
  refine lv_dup hx hb dX5_init_71 rfl ?_
  refine lv_iconst (v := 5) hx hb dX5_init_72 (by decide) ?_
  refine lv_iconst (v := 3) hx hb dX5_init_73 (by decide) ?_
  refine va_iast hx hb hK hP (aD_D hD rfl) hS 2 0 rfl rfl (show vp_in (5 : Int32) 8 from vp_in_nI (n := 5) (by decide) (by decide)) dX5_init_74 (fun H locs hP _ hS => ?_)
  have hP : va_P D vwCl ([(h0, .inr (5, [.int 0, .ref q_132, .null, .int 0, .null, .null, .null, .int 0, .null, .null, .int 0, .null, .null, .null])), (q_132, .inl (y 0, 8, .inl (upd (upd (upd (upd (upd (upd (upd (upd (fun _ => 0) 0 1) 1 1) 2 1) 3 1) 4 1) 5 1) 6 1) 7 1))), (q_133, .inl (y 0, 8, .inl (upd (upd (upd (upd (upd (upd (fun _ => 0) 0 3) 1 3) 2 3) 3 3) 4 3) 5 3)))] : va_W) H := hP
  refine lv_dup hx hb dX5_init_75 rfl ?_
  refine lv_bipush (v := 6) hx hb dX5_init_76 (by decide) ?_
  refine lv_iconst (v := 3) hx hb dX5_init_78 (by decide) ?_
  refine va_iast hx hb hK hP (aD_D hD rfl) hS 2 0 rfl rfl (show vp_in (6 : Int32) 8 from vp_in_nI (n := 6) (by decide) (by decide)) dX5_init_79 (fun H locs hP _ hS => ?_)
  have hP : va_P D vwCl ([(h0, .inr (5, [.int 0, .ref q_132, .null, .int 0, .null, .null, .null, .int 0, .null, .null, .int 0, .null, .null, .null])), (q_132, .inl (y 0, 8, .inl (upd (upd (upd (upd (upd (upd (upd (upd (fun _ => 0) 0 1) 1 1) 2 1) 3 1) 4 1) 5 1) 6 1) 7 1))), (q_133, .inl (y 0, 8, .inl (upd (upd (upd (upd (upd (upd (upd (fun _ => 0) 0 3) 1 3) 2 3) 3 3) 4 3) 5 3) 6 3)))] : va_W) H := hP
  refine lv_dup hx hb dX5_init_80 rfl ?_
  refine lv_bipush (v := 7) hx hb dX5_init_81 (by decide) ?_
  refine lv_iconst (v := 3) hx hb dX5_init_83 (by decide) ?_
  refine va_iast hx hb hK hP (aD_D hD rfl) hS 2 0 rfl rfl (show vp_in (7 : Int32) 8 from vp_in_nI (n := 7) (by decide) (by decide)) dX5_init_84 (fun H locs hP _ hS => ?_)
  have hP : va_P D vwCl ([(h0, .inr (5, [.int 0, .ref q_132, .null, .int 0, .null, .null, .null, .int 0, .null, .null, .int 0, .null, .null, .null])), (q_132, .inl (y 0, 8, .inl (upd (upd (upd (upd (upd (upd (upd (upd (fun _ => 0) 0 1) 1 1) 2 1) 3 1) 4 1) 5 1) 6 1) 7 1))), (q_133, .inl (y 0, 8, .inl (upd (upd (upd (upd (upd (upd (upd (upd (fun _ => 0) 0 3) 1 3) 2 3) 3 3) 4 3) 5 3) 6 3) 7 3)))] : va_W) H := hP
  have hf13 := hts (.fieldLink RX5 13 "CoracleMakersModel" "run" "[I") (by decide +kernel)
  refine va_putF (D := D) (ci := 5) (v := .ref q_133) (ty := (.array .int)) (C := RX5) (T := TX5) (N := 14) hx hb hts hin5 tyX5 tyX5_ok nmX5 hown hK hP (aD_D hD rfl) hS 0 rfl rfl 2 (by decide) hf13 (fun _ h9 => h9) rfl hin rfl (by decide +kernel) rfl rfl (Nat.le_of_ble_eq_true rfl) dX5_init_85 (fun H locs hP _ hS => ?_)
  have hP : va_P D vwCl ([(h0, .inr (5, [.int 0, .ref q_132, .ref q_133, .int 0, .null, .null, .null, .int 0, .null, .null, .int 0, .null, .null, .null])), (q_132, .inl (y 0, 8, .inl (upd (upd (upd (upd (upd (upd (upd (upd (fun _ => 0) 0 1) 1 1) 2 1) 3 1) 4 1) 5 1) 6 1) 7 1))), (q_133, .inl (y 0, 8, .inl (upd (upd (upd (upd (upd (upd (upd (upd (fun _ => 0) 0 3) 1 3) 2 3) 3 3) 4 3) 5 3) 6 3) 7 3)))] : va_W) H := hP
  refine lv_aload_n hx hb dX5_init_88 rfl (lv_at hl 0 rfl) ?_
  refine lv_bipush (v := 6) hx hb dX5_init_89 (by decide) ?_
  refine va_newa (atype := .int) (ty := .int) (a0 := (6, .inl (fun _ => 0))) (N' := 6) hx hb (hts (.arrayClass .int) (by decide +kernel)) rfl hK hP (aD_D hD rfl) hS hA (fun _ => rfl) (by decide) (by decide) (by decide) (Nat.le_of_ble_eq_true rfl) (Nat.le_of_ble_eq_true rfl) dX5_init_91 (fun q_134 cA H hK9 hP hD9 hS => ?_)
  have eA := K_uniq hK9 (i := 5) (j := 0) rfl rfl
  subst eA
  have hP : va_P D vwCl ([(h0, .inr (5, [.int 0, .ref q_132, .ref q_133, .int 0, .null, .null, .null, .int 0, .null, .null, .int 0, .null, .null, .null])), (q_132, .inl (y 0, 8, .inl (upd (upd (upd (upd (upd (upd (upd (upd (fun _ => 0) 0 1) 1 1) 2 1) 3 1) 4 1) 5 1) 6 1) 7 1))), (q_133, .inl (y 0, 8, .inl (upd (upd (upd (upd (upd (upd (upd (upd (fun _ => 0) 0 3) 1 3) 2 3) 3 3) 4 3) 5 3) 6 3) 7 3))), (q_134, .inl (y 0, 6, .inl (fun _ => 0)))] : va_W) H := hP
  have hD : aD A [h0, q_132, q_133, q_134] := aD_of hD9
  have hf16 := hts (.fieldLink RX5 16 "CoracleMakersModel" "laths" "[I") (by decide +kernel)
  refine va_putF (D := D) (ci := 5) (v := .ref q_134) (ty := (.array .int)) (C := RX5) (T := TX5) (N := 14) hx hb hts hin5 tyX5 tyX5_ok nmX5 hown hK hP (aD_D hD rfl) hS 0 rfl rfl 4 (by decide) hf16 (fun _ h9 => h9) rfl hin rfl (by decide +kernel) rfl rfl (Nat.le_of_ble_eq_true rfl) dX5_init_93 (fun H locs hP _ hS => ?_)
  have hP : va_P D vwCl ([(h0, .inr (5, [.int 0, .ref q_132, .ref q_133, .int 0, .ref q_134, .null, .null, .int 0, .null, .null, .int 0, .null, .null, .null])), (q_132, .inl (y 0, 8, .inl (upd (upd (upd (upd (upd (upd (upd (upd (fun _ => 0) 0 1) 1 1) 2 1) 3 1) 4 1) 5 1) 6 1) 7 1))), (q_133, .inl (y 0, 8, .inl (upd (upd (upd (upd (upd (upd (upd (upd (fun _ => 0) 0 3) 1 3) 2 3) 3 3) 4 3) 5 3) 6 3) 7 3))), (q_134, .inl (y 0, 6, .inl (fun _ => 0)))] : va_W) H := hP
  refine lv_aload_n hx hb dX5_init_96 rfl (lv_at hl 0 rfl) ?_
  refine lv_bipush (v := 6) hx hb dX5_init_97 (by decide) ?_
  refine va_newa (atype := .int) (ty := .int) (a0 := (6, .inl (fun _ => 0))) (N' := 6) hx hb (hts (.arrayClass .int) (by decide +kernel)) rfl hK hP (aD_D hD rfl) hS hA (fun _ => rfl) (by decide) (by decide) (by decide) (Nat.le_of_ble_eq_true rfl) (Nat.le_of_ble_eq_true rfl) dX5_init_99 (fun q_135 cA H hK9 hP hD9 hS => ?_)
  have eA := K_uniq hK9 (i := 5) (j := 0) rfl rfl
  subst eA
  have hP : va_P D vwCl ([(h0, .inr (5, [.int 0, .ref q_132, .ref q_133, .int 0, .ref q_134, .null, .null, .int 0, .null, .null, .int 0, .null, .null, .null])), (q_132, .inl (y 0, 8, .inl (upd (upd (upd (upd (upd (upd (upd (upd (fun _ => 0) 0 1) 1 1) 2 1) 3 1) 4 1) 5 1) 6 1) 7 1))), (q_133, .inl (y 0, 8, .inl (upd (upd (upd (upd (upd (upd (upd (upd (fun _ => 0) 0 3) 1 3) 2 3) 3 3) 4 3) 5 3) 6 3) 7 3))), (q_134, .inl (y 0, 6, .inl (fun _ => 0))), (q_135, .inl (y 0, 6, .inl (fun _ => 0)))] : va_W) H := hP
  have hD : aD A [h0, q_132, q_133, q_134, q_135] := aD_of hD9
  have hf19 := hts (.fieldLink RX5 19 "CoracleMakersModel" "hide" "[I") (by decide +kernel)
  refine va_putF (D := D) (ci := 5) (v := .ref q_135) (ty := (.array .int)) (C := RX5) (T := TX5) (N := 14) hx hb hts hin5 tyX5 tyX5_ok nmX5 hown hK hP (aD_D hD rfl) hS 0 rfl rfl 5 (by decide) hf19 (fun _ h9 => h9) rfl hin rfl (by decide +kernel) rfl rfl (Nat.le_of_ble_eq_true rfl) dX5_init_101 (fun H locs hP _ hS => ?_)
  have hP : va_P D vwCl ([(h0, .inr (5, [.int 0, .ref q_132, .ref q_133, .int 0, .ref q_134, .ref q_135, .null, .int 0, .null, .null, .int 0, .null, .null, .null])), (q_132, .inl (y 0, 8, .inl (upd (upd (upd (upd (upd (upd (upd (upd (fun _ => 0) 0 1) 1 1) 2 1) 3 1) 4 1) 5 1) 6 1) 7 1))), (q_133, .inl (y 0, 8, .inl (upd (upd (upd (upd (upd (upd (upd (upd (fun _ => 0) 0 3) 1 3) 2 3) 3 3) 4 3) 5 3) 6 3) 7 3))), (q_134, .inl (y 0, 6, .inl (fun _ => 0))), (q_135, .inl (y 0, 6, .inl (fun _ => 0)))] : va_W) H := hP
  refine lv_aload_n hx hb dX5_init_104 rfl (lv_at hl 0 rfl) ?_
  refine lv_bipush (v := 6) hx hb dX5_init_105 (by decide) ?_
  refine va_newa (atype := .int) (ty := .int) (a0 := (6, .inl (fun _ => 0))) (N' := 6) hx hb (hts (.arrayClass .int) (by decide +kernel)) rfl hK hP (aD_D hD rfl) hS hA (fun _ => rfl) (by decide) (by decide) (by decide) (Nat.le_of_ble_eq_true rfl) (Nat.le_of_ble_eq_true rfl) dX5_init_107 (fun q_136 cA H hK9 hP hD9 hS => ?_)
  have eA := K_uniq hK9 (i := 5) (j := 0) rfl rfl
  subst eA
  have hP : va_P D vwCl ([(h0, .inr (5, [.int 0, .ref q_132, .ref q_133, .int 0, .ref q_134, .ref q_135, .null, .int 0, .null, .null, .int 0, .null, .null, .null])), (q_132, .inl (y 0, 8, .inl (upd (upd (upd (upd (upd (upd (upd (upd (fun _ => 0) 0 1) 1 1) 2 1) 3 1) 4 1) 5 1) 6 1) 7 1))), (q_133, .inl (y 0, 8, .inl (upd (upd (upd (upd (upd (upd (upd (upd (fun _ => 0) 0 3) 1 3) 2 3) 3 3) 4 3) 5 3) 6 3) 7 3))), (q_134, .inl (y 0, 6, .inl (fun _ => 0))), (q_135, .inl (y 0, 6, .inl (fun _ => 0))), (q_136, .inl (y 0, 6, .inl (fun _ => 0)))] : va_W) H := hP
  have hD : aD A [h0, q_132, q_133, q_134, q_135, q_136] := aD_of hD9
  have hf22 := hts (.fieldLink RX5 22 "CoracleMakersModel" "skill" "[I") (by decide +kernel)
  refine va_putF (D := D) (ci := 5) (v := .ref q_136) (ty := (.array .int)) (C := RX5) (T := TX5) (N := 14) hx hb hts hin5 tyX5 tyX5_ok nmX5 hown hK hP (aD_D hD rfl) hS 0 rfl rfl 6 (by decide) hf22 (fun _ h9 => h9) rfl hin rfl (by decide +kernel) rfl rfl (Nat.le_of_ble_eq_true rfl) dX5_init_109 (fun H locs hP _ hS => ?_)
  have hP : va_P D vwCl ([(h0, .inr (5, [.int 0, .ref q_132, .ref q_133, .int 0, .ref q_134, .ref q_135, .ref q_136, .int 0, .null, .null, .int 0, .null, .null, .null])), (q_132, .inl (y 0, 8, .inl (upd (upd (upd (upd (upd (upd (upd (upd (fun _ => 0) 0 1) 1 1) 2 1) 3 1) 4 1) 5 1) 6 1) 7 1))), (q_133, .inl (y 0, 8, .inl (upd (upd (upd (upd (upd (upd (upd (upd (fun _ => 0) 0 3) 1 3) 2 3) 3 3) 4 3) 5 3) 6 3) 7 3))), (q_134, .inl (y 0, 6, .inl (fun _ => 0))), (q_135, .inl (y 0, 6, .inl (fun _ => 0))), (q_136, .inl (y 0, 6, .inl (fun _ => 0)))] : va_W) H := hP
  refine lv_aload_n hx hb dX5_init_112 rfl (lv_at hl 0 rfl) ?_
  refine lv_iconst (v := 3) hx hb dX5_init_113 (by decide) ?_
  refine va_newa (atype := .int) (ty := .int) (a0 := (3, .inl (fun _ => 0))) (N' := 3) hx hb (hts (.arrayClass .int) (by decide +kernel)) rfl hK hP (aD_D hD rfl) hS hA (fun _ => rfl) (by decide) (by decide) (by decide) (Nat.le_of_ble_eq_true rfl) (Nat.le_of_ble_eq_true rfl) dX5_init_114 (fun q_137 cA H hK9 hP hD9 hS => ?_)
  have eA := K_uniq hK9 (i := 5) (j := 0) rfl rfl
  subst eA
  have hP : va_P D vwCl ([(h0, .inr (5, [.int 0, .ref q_132, .ref q_133, .int 0, .ref q_134, .ref q_135, .ref q_136, .int 0, .null, .null, .int 0, .null, .null, .null])), (q_132, .inl (y 0, 8, .inl (upd (upd (upd (upd (upd (upd (upd (upd (fun _ => 0) 0 1) 1 1) 2 1) 3 1) 4 1) 5 1) 6 1) 7 1))), (q_133, .inl (y 0, 8, .inl (upd (upd (upd (upd (upd (upd (upd (upd (fun _ => 0) 0 3) 1 3) 2 3) 3 3) 4 3) 5 3) 6 3) 7 3))), (q_134, .inl (y 0, 6, .inl (fun _ => 0))), (q_135, .inl (y 0, 6, .inl (fun _ => 0))), (q_136, .inl (y 0, 6, .inl (fun _ => 0))), (q_137, .inl (y 0, 3, .inl (fun _ => 0)))] : va_W) H := hP
  have hD : aD A [h0, q_132, q_133, q_134, q_135, q_136, q_137] := aD_of hD9
  have hf25 := hts (.fieldLink RX5 25 "CoracleMakersModel" "first" "[I") (by decide +kernel)
  refine va_putF (D := D) (ci := 5) (v := .ref q_137) (ty := (.array .int)) (C := RX5) (T := TX5) (N := 14) hx hb hts hin5 tyX5 tyX5_ok nmX5 hown hK hP (aD_D hD rfl) hS 0 rfl rfl 8 (by decide) hf25 (fun _ h9 => h9) rfl hin rfl (by decide +kernel) rfl rfl (Nat.le_of_ble_eq_true rfl) dX5_init_116 (fun H locs hP _ hS => ?_)
  have hP : va_P D vwCl ([(h0, .inr (5, [.int 0, .ref q_132, .ref q_133, .int 0, .ref q_134, .ref q_135, .ref q_136, .int 0, .ref q_137, .null, .int 0, .null, .null, .null])), (q_132, .inl (y 0, 8, .inl (upd (upd (upd (upd (upd (upd (upd (upd (fun _ => 0) 0 1) 1 1) 2 1) 3 1) 4 1) 5 1) 6 1) 7 1))), (q_133, .inl (y 0, 8, .inl (upd (upd (upd (upd (upd (upd (upd (upd (fun _ => 0) 0 3) 1 3) 2 3) 3 3) 4 3) 5 3) 6 3) 7 3))), (q_134, .inl (y 0, 6, .inl (fun _ => 0))), (q_135, .inl (y 0, 6, .inl (fun _ => 0))), (q_136, .inl (y 0, 6, .inl (fun _ => 0))), (q_137, .inl (y 0, 3, .inl (fun _ => 0)))] : va_W) H := hP
  refine lv_aload_n hx hb dX5_init_119 rfl (lv_at hl 0 rfl) ?_
  refine lv_iconst (v := 3) hx hb dX5_init_120 (by decide) ?_
  refine va_newa (atype := .int) (ty := .int) (a0 := (3, .inl (fun _ => 0))) (N' := 3) hx hb (hts (.arrayClass .int) (by decide +kernel)) rfl hK hP (aD_D hD rfl) hS hA (fun _ => rfl) (by decide) (by decide) (by decide) (Nat.le_of_ble_eq_true rfl) (Nat.le_of_ble_eq_true rfl) dX5_init_121 (fun q_138 cA H hK9 hP hD9 hS => ?_)
  have eA := K_uniq hK9 (i := 5) (j := 0) rfl rfl
  subst eA
  have hP : va_P D vwCl ([(h0, .inr (5, [.int 0, .ref q_132, .ref q_133, .int 0, .ref q_134, .ref q_135, .ref q_136, .int 0, .ref q_137, .null, .int 0, .null, .null, .null])), (q_132, .inl (y 0, 8, .inl (upd (upd (upd (upd (upd (upd (upd (upd (fun _ => 0) 0 1) 1 1) 2 1) 3 1) 4 1) 5 1) 6 1) 7 1))), (q_133, .inl (y 0, 8, .inl (upd (upd (upd (upd (upd (upd (upd (upd (fun _ => 0) 0 3) 1 3) 2 3) 3 3) 4 3) 5 3) 6 3) 7 3))), (q_134, .inl (y 0, 6, .inl (fun _ => 0))), (q_135, .inl (y 0, 6, .inl (fun _ => 0))), (q_136, .inl (y 0, 6, .inl (fun _ => 0))), (q_137, .inl (y 0, 3, .inl (fun _ => 0))), (q_138, .inl (y 0, 3, .inl (fun _ => 0)))] : va_W) H := hP
  have hD : aD A [h0, q_132, q_133, q_134, q_135, q_136, q_137, q_138] := aD_of hD9
  have hf28 := hts (.fieldLink RX5 28 "CoracleMakersModel" "second" "[I") (by decide +kernel)
  refine va_putF (D := D) (ci := 5) (v := .ref q_138) (ty := (.array .int)) (C := RX5) (T := TX5) (N := 14) hx hb hts hin5 tyX5 tyX5_ok nmX5 hown hK hP (aD_D hD rfl) hS 0 rfl rfl 9 (by decide) hf28 (fun _ h9 => h9) rfl hin rfl (by decide +kernel) rfl rfl (Nat.le_of_ble_eq_true rfl) dX5_init_123 (fun H locs hP _ hS => ?_)
  have hP : va_P D vwCl ([(h0, .inr (5, [.int 0, .ref q_132, .ref q_133, .int 0, .ref q_134, .ref q_135, .ref q_136, .int 0, .ref q_137, .ref q_138, .int 0, .null, .null, .null])), (q_132, .inl (y 0, 8, .inl (upd (upd (upd (upd (upd (upd (upd (upd (fun _ => 0) 0 1) 1 1) 2 1) 3 1) 4 1) 5 1) 6 1) 7 1))), (q_133, .inl (y 0, 8, .inl (upd (upd (upd (upd (upd (upd (upd (upd (fun _ => 0) 0 3) 1 3) 2 3) 3 3) 4 3) 5 3) 6 3) 7 3))), (q_134, .inl (y 0, 6, .inl (fun _ => 0))), (q_135, .inl (y 0, 6, .inl (fun _ => 0))), (q_136, .inl (y 0, 6, .inl (fun _ => 0))), (q_137, .inl (y 0, 3, .inl (fun _ => 0))), (q_138, .inl (y 0, 3, .inl (fun _ => 0)))] : va_W) H := hP
  refine lv_aload_n hx hb dX5_init_126 rfl (lv_at hl 0 rfl) ?_
  refine lv_bipush (v := 50) hx hb dX5_init_127 (by decide) ?_
  have hf31 := hts (.fieldLink RX5 31 "CoracleMakersModel" "store" "I") (by decide +kernel)
  refine va_put (D := D) (ci := 5) (v := .int 50) (ty := .int) (C := RX5) (T := TX5) (N := 14) hx hb hts hin5 tyX5 tyX5_ok nmX5 hown hK hP (aD_D hD rfl) hS 0 rfl rfl 10 (by decide) hf31 (fun _ h9 => h9) rfl (by decide +kernel) rfl rfl (Nat.le_of_ble_eq_true rfl) dX5_init_129 (fun H locs hP _ hS => ?_)
  have hP : va_P D vwCl ([(h0, .inr (5, [.int 0, .ref q_132, .ref q_133, .int 0, .ref q_134, .ref q_135, .ref q_136, .int 0, .ref q_137, .ref q_138, .int 50, .null, .null, .null])), (q_132, .inl (y 0, 8, .inl (upd (upd (upd (upd (upd (upd (upd (upd (fun _ => 0) 0 1) 1 1) 2 1) 3 1) 4 1) 5 1) 6 1) 7 1))), (q_133, .inl (y 0, 8, .inl (upd (upd (upd (upd (upd (upd (upd (upd (fun _ => 0) 0 3) 1 3) 2 3) 3 3) 4 3) 5 3) 6 3) 7 3))), (q_134, .inl (y 0, 6, .inl (fun _ => 0))), (q_135, .inl (y 0, 6, .inl (fun _ => 0))), (q_136, .inl (y 0, 6, .inl (fun _ => 0))), (q_137, .inl (y 0, 3, .inl (fun _ => 0))), (q_138, .inl (y 0, 3, .inl (fun _ => 0)))] : va_W) H := hP
  refine lv_aload_n hx hb dX5_init_132 rfl (lv_at hl 0 rfl) ?_
  refine lv_iconst (v := 3) hx hb dX5_init_133 (by decide) ?_
  refine va_newa (atype := .int) (ty := .int) (a0 := (3, .inl (fun _ => 0))) (N' := 3) hx hb (hts (.arrayClass .int) (by decide +kernel)) rfl hK hP (aD_D hD rfl) hS hA (fun _ => rfl) (by decide) (by decide) (by decide) (Nat.le_of_ble_eq_true rfl) (Nat.le_of_ble_eq_true rfl) dX5_init_134 (fun q_139 cA H hK9 hP hD9 hS => ?_)
  have eA := K_uniq hK9 (i := 5) (j := 0) rfl rfl
  subst eA
  have hP : va_P D vwCl ([(h0, .inr (5, [.int 0, .ref q_132, .ref q_133, .int 0, .ref q_134, .ref q_135, .ref q_136, .int 0, .ref q_137, .ref q_138, .int 50, .null, .null, .null])), (q_132, .inl (y 0, 8, .inl (upd (upd (upd (upd (upd (upd (upd (upd (fun _ => 0) 0 1) 1 1) 2 1) 3 1) 4 1) 5 1) 6 1) 7 1))), (q_133, .inl (y 0, 8, .inl (upd (upd (upd (upd (upd (upd (upd (upd (fun _ => 0) 0 3) 1 3) 2 3) 3 3) 4 3) 5 3) 6 3) 7 3))), (q_134, .inl (y 0, 6, .inl (fun _ => 0))), (q_135, .inl (y 0, 6, .inl (fun _ => 0))), (q_136, .inl (y 0, 6, .inl (fun _ => 0))), (q_137, .inl (y 0, 3, .inl (fun _ => 0))), (q_138, .inl (y 0, 3, .inl (fun _ => 0))), (q_139, .inl (y 0, 3, .inl (fun _ => 0)))] : va_W) H := hP
  have hD : aD A [h0, q_132, q_133, q_134, q_135, q_136, q_137, q_138, q_139] := aD_of hD9
  refine lv_dup hx hb dX5_init_136 rfl ?_
  refine lv_iconst (v := 0) hx hb dX5_init_137 (by decide) ?_
  refine lv_iconst (v := 3) hx hb dX5_init_138 (by decide) ?_
  refine va_iast hx hb hK hP (aD_D hD rfl) hS 8 0 rfl rfl (show vp_in (0 : Int32) 3 from vp_in_nI (n := 0) (by decide) (by decide)) dX5_init_139 (fun H locs hP _ hS => ?_)
  have hP : va_P D vwCl ([(h0, .inr (5, [.int 0, .ref q_132, .ref q_133, .int 0, .ref q_134, .ref q_135, .ref q_136, .int 0, .ref q_137, .ref q_138, .int 50, .null, .null, .null])), (q_132, .inl (y 0, 8, .inl (upd (upd (upd (upd (upd (upd (upd (upd (fun _ => 0) 0 1) 1 1) 2 1) 3 1) 4 1) 5 1) 6 1) 7 1))), (q_133, .inl (y 0, 8, .inl (upd (upd (upd (upd (upd (upd (upd (upd (fun _ => 0) 0 3) 1 3) 2 3) 3 3) 4 3) 5 3) 6 3) 7 3))), (q_134, .inl (y 0, 6, .inl (fun _ => 0))), (q_135, .inl (y 0, 6, .inl (fun _ => 0))), (q_136, .inl (y 0, 6, .inl (fun _ => 0))), (q_137, .inl (y 0, 3, .inl (fun _ => 0))), (q_138, .inl (y 0, 3, .inl (fun _ => 0))), (q_139, .inl (y 0, 3, .inl (upd (fun _ => 0) 0 3)))] : va_W) H := hP
  refine lv_dup hx hb dX5_init_140 rfl ?_
  refine lv_iconst (v := 1) hx hb dX5_init_141 (by decide) ?_
  refine lv_iconst (v := 3) hx hb dX5_init_142 (by decide) ?_
  refine va_iast hx hb hK hP (aD_D hD rfl) hS 8 0 rfl rfl (show vp_in (1 : Int32) 3 from vp_in_nI (n := 1) (by decide) (by decide)) dX5_init_143 (fun H locs hP _ hS => ?_)
  have hP : va_P D vwCl ([(h0, .inr (5, [.int 0, .ref q_132, .ref q_133, .int 0, .ref q_134, .ref q_135, .ref q_136, .int 0, .ref q_137, .ref q_138, .int 50, .null, .null, .null])), (q_132, .inl (y 0, 8, .inl (upd (upd (upd (upd (upd (upd (upd (upd (fun _ => 0) 0 1) 1 1) 2 1) 3 1) 4 1) 5 1) 6 1) 7 1))), (q_133, .inl (y 0, 8, .inl (upd (upd (upd (upd (upd (upd (upd (upd (fun _ => 0) 0 3) 1 3) 2 3) 3 3) 4 3) 5 3) 6 3) 7 3))), (q_134, .inl (y 0, 6, .inl (fun _ => 0))), (q_135, .inl (y 0, 6, .inl (fun _ => 0))), (q_136, .inl (y 0, 6, .inl (fun _ => 0))), (q_137, .inl (y 0, 3, .inl (fun _ => 0))), (q_138, .inl (y 0, 3, .inl (fun _ => 0))), (q_139, .inl (y 0, 3, .inl (upd (upd (fun _ => 0) 0 3) 1 3)))] : va_W) H := hP
  refine lv_dup hx hb dX5_init_144 rfl ?_
  refine lv_iconst (v := 2) hx hb dX5_init_145 (by decide) ?_
  refine lv_iconst (v := 3) hx hb dX5_init_146 (by decide) ?_
  refine va_iast hx hb hK hP (aD_D hD rfl) hS 8 0 rfl rfl (show vp_in (2 : Int32) 3 from vp_in_nI (n := 2) (by decide) (by decide)) dX5_init_147 (fun H locs hP _ hS => ?_)
  have hP : va_P D vwCl ([(h0, .inr (5, [.int 0, .ref q_132, .ref q_133, .int 0, .ref q_134, .ref q_135, .ref q_136, .int 0, .ref q_137, .ref q_138, .int 50, .null, .null, .null])), (q_132, .inl (y 0, 8, .inl (upd (upd (upd (upd (upd (upd (upd (upd (fun _ => 0) 0 1) 1 1) 2 1) 3 1) 4 1) 5 1) 6 1) 7 1))), (q_133, .inl (y 0, 8, .inl (upd (upd (upd (upd (upd (upd (upd (upd (fun _ => 0) 0 3) 1 3) 2 3) 3 3) 4 3) 5 3) 6 3) 7 3))), (q_134, .inl (y 0, 6, .inl (fun _ => 0))), (q_135, .inl (y 0, 6, .inl (fun _ => 0))), (q_136, .inl (y 0, 6, .inl (fun _ => 0))), (q_137, .inl (y 0, 3, .inl (fun _ => 0))), (q_138, .inl (y 0, 3, .inl (fun _ => 0))), (q_139, .inl (y 0, 3, .inl (upd (upd (upd (fun _ => 0) 0 3) 1 3) 2 3)))] : va_W) H := hP
  have hf35 := hts (.fieldLink RX5 35 "CoracleMakersModel" "hides" "[I") (by decide +kernel)
  refine va_putF (D := D) (ci := 5) (v := .ref q_139) (ty := (.array .int)) (C := RX5) (T := TX5) (N := 14) hx hb hts hin5 tyX5 tyX5_ok nmX5 hown hK hP (aD_D hD rfl) hS 0 rfl rfl 11 (by decide) hf35 (fun _ h9 => h9) rfl hin rfl (by decide +kernel) rfl rfl (Nat.le_of_ble_eq_true rfl) dX5_init_148 (fun H locs hP _ hS => ?_)
  have hP : va_P D vwCl ([(h0, .inr (5, [.int 0, .ref q_132, .ref q_133, .int 0, .ref q_134, .ref q_135, .ref q_136, .int 0, .ref q_137, .ref q_138, .int 50, .ref q_139, .null, .null])), (q_132, .inl (y 0, 8, .inl (upd (upd (upd (upd (upd (upd (upd (upd (fun _ => 0) 0 1) 1 1) 2 1) 3 1) 4 1) 5 1) 6 1) 7 1))), (q_133, .inl (y 0, 8, .inl (upd (upd (upd (upd (upd (upd (upd (upd (fun _ => 0) 0 3) 1 3) 2 3) 3 3) 4 3) 5 3) 6 3) 7 3))), (q_134, .inl (y 0, 6, .inl (fun _ => 0))), (q_135, .inl (y 0, 6, .inl (fun _ => 0))), (q_136, .inl (y 0, 6, .inl (fun _ => 0))), (q_137, .inl (y 0, 3, .inl (fun _ => 0))), (q_138, .inl (y 0, 3, .inl (fun _ => 0))), (q_139, .inl (y 0, 3, .inl (upd (upd (upd (fun _ => 0) 0 3) 1 3) 2 3)))] : va_W) H := hP
  refine lv_aload_n hx hb dX5_init_151 rfl (lv_at hl 0 rfl) ?_
  have hin4 : ∀ w ∈ u_ws RX4 TX4 13, w ∈ wsX5_init := by decide +kernel
  refine va_new (ci := 4) (fs := [.int 0, .int 0, .int 0, .int 0, .null, .null, .null, .null, .null, .null, .null, .null, .null]) (C := RX4) (T := TX4) (N := 13) hx hb hts hin4 tyX4 tyX4_ok hown (hts (.classLink RX5 38 RX4) (by decide +kernel)) (hts (.instantiable RX4 13) (by decide +kernel)) (hts (.initialized RX4) (by decide +kernel)) hK hP (aD_D hD rfl) hS hA rfl (by decide) (Nat.le_of_ble_eq_true rfl) (Nat.le_of_ble_eq_true rfl) dX5_init_152 (fun q_140 H hP hD9 hS => ?_)
  have hD : aD A (List.map Prod.fst ([(h0, .inr (5, [.int 0, .ref q_132, .ref q_133, .int 0, .ref q_134, .ref q_135, .ref q_136, .int 0, .ref q_137, .ref q_138, .int 50, .ref q_139, .null, .null])), (q_132, .inl (y 0, 8, .inl (upd (upd (upd (upd (upd (upd (upd (upd (fun _ => 0) 0 1) 1 1) 2 1) 3 1) 4 1) 5 1) 6 1) 7 1))), (q_133, .inl (y 0, 8, .inl (upd (upd (upd (upd (upd (upd (upd (upd (fun _ => 0) 0 3) 1 3) 2 3) 3 3) 4 3) 5 3) 6 3) 7 3))), (q_134, .inl (y 0, 6, .inl (fun _ => 0))), (q_135, .inl (y 0, 6, .inl (fun _ => 0))), (q_136, .inl (y 0, 6, .inl (fun _ => 0))), (q_137, .inl (y 0, 3, .inl (fun _ => 0))), (q_138, .inl (y 0, 3, .inl (fun _ => 0))), (q_139, .inl (y 0, 3, .inl (upd (upd (upd (fun _ => 0) 0 3) 1 3) 2 3)))] : va_W) ++ [q_140]) := by have h9 := aD_of hD9; rw [List.map_append] at h9; exact h9
  refine lv_dup hx hb dX5_init_155 rfl ?_
  refine lv_aload_n hx hb dX5_init_156 rfl (lv_at hl 0 rfl) ?_
  refine cNw_IN (As := [.ref h0]) (rest := [.ref q_140, .ref h0]) ⟨hx, hb, hml, hown, hts⟩ (c_X4_init l D y _ q_140 h0) ⟨va_cnB 1 hts ggX5_init_X4_init rfl rfl rfl (hN.2.1 _ (List.mem_of_getElem? (i := 2) rfl)) (hts (.initialized RX4) (by decide +kernel)) (by decide +kernel) ⟨Nat.le_of_ble_eq_true rfl, Nat.le_of_ble_eq_true rfl⟩, rfl, hts (.instanceMethod yX4_init) (by decide +kernel)⟩ hK hN hP hD hS hA rfl hl.1 rfl (Nat.le_of_ble_eq_true rfl) dX5_init_157 ⟨Nat.le_of_ble_eq_true rfl, Nat.le_of_ble_eq_true rfl⟩ (fun bs H locs hbs hPn hDn hSn => ?_)
  subst hbs
  have hS := hSn
  have hP : va_P D vwCl (([(h0, .inr (5, [.int 0, .ref q_132, .ref q_133, .int 0, .ref q_134, .ref q_135, .ref q_136, .int 0, .ref q_137, .ref q_138, .int 50, .ref q_139, .null, .null])), (q_132, .inl (y 0, 8, .inl (upd (upd (upd (upd (upd (upd (upd (upd (fun _ => 0) 0 1) 1 1) 2 1) 3 1) 4 1) 5 1) 6 1) 7 1))), (q_133, .inl (y 0, 8, .inl (upd (upd (upd (upd (upd (upd (upd (upd (fun _ => 0) 0 3) 1 3) 2 3) 3 3) 4 3) 5 3) 6 3) 7 3))), (q_134, .inl (y 0, 6, .inl (fun _ => 0))), (q_135, .inl (y 0, 6, .inl (fun _ => 0))), (q_136, .inl (y 0, 6, .inl (fun _ => 0))), (q_137, .inl (y 0, 3, .inl (fun _ => 0))), (q_138, .inl (y 0, 3, .inl (fun _ => 0))), (q_139, .inl (y 0, 3, .inl (upd (upd (upd (fun _ => 0) 0 3) 1 3) 2 3)))] : va_W) ++ stW y bs h0 (stI 0)) H := hPn
  have hD : aD A ([h0, q_132, q_133, q_134, q_135, q_136, q_137, q_138, q_139] ++ wa 9 bs) := hDn
  have hf43 := hts (.fieldLink RX5 43 "CoracleMakersModel" "s" "LCoracleMakersModel$State;") (by decide +kernel)
  refine va_putF (D := D) (ci := 5) (v := .ref (bs 0)) (ty := (.object "CoracleMakersModel$State")) (C := RX5) (T := TX5) (N := 14) hx hb hts hin5 tyX5 tyX5_ok nmX5 hown hK hP (aD_D hD (show List.map Prod.fst (([(h0, .inr (5, [.int 0, .ref q_132, .ref q_133, .int 0, .ref q_134, .ref q_135, .ref q_136, .int 0, .ref q_137, .ref q_138, .int 50, .ref q_139, .null, .null])), (q_132, .inl (y 0, 8, .inl (upd (upd (upd (upd (upd (upd (upd (upd (fun _ => 0) 0 1) 1 1) 2 1) 3 1) 4 1) 5 1) 6 1) 7 1))), (q_133, .inl (y 0, 8, .inl (upd (upd (upd (upd (upd (upd (upd (upd (fun _ => 0) 0 3) 1 3) 2 3) 3 3) 4 3) 5 3) 6 3) 7 3))), (q_134, .inl (y 0, 6, .inl (fun _ => 0))), (q_135, .inl (y 0, 6, .inl (fun _ => 0))), (q_136, .inl (y 0, 6, .inl (fun _ => 0))), (q_137, .inl (y 0, 3, .inl (fun _ => 0))), (q_138, .inl (y 0, 3, .inl (fun _ => 0))), (q_139, .inl (y 0, 3, .inl (upd (upd (upd (fun _ => 0) 0 3) 1 3) 2 3)))] : va_W) ++ stW y bs h0 (stI 0)) = _ from by rw [List.map_append, st_fst]; rfl)) hS 0 (ap_l rfl) rfl 12 (by decide) hf43 (fun _ h9 => h9) rfl hin rfl (by decide +kernel) rfl rfl (Nat.le_of_ble_eq_true rfl) dX5_init_160 (fun H locs hP _ hS => ?_)
  have hP : va_P D vwCl (([(h0, .inr (5, [.int 0, .ref q_132, .ref q_133, .int 0, .ref q_134, .ref q_135, .ref q_136, .int 0, .ref q_137, .ref q_138, .int 50, .ref q_139, .ref (bs 0), .null])), (q_132, .inl (y 0, 8, .inl (upd (upd (upd (upd (upd (upd (upd (upd (fun _ => 0) 0 1) 1 1) 2 1) 3 1) 4 1) 5 1) 6 1) 7 1))), (q_133, .inl (y 0, 8, .inl (upd (upd (upd (upd (upd (upd (upd (upd (fun _ => 0) 0 3) 1 3) 2 3) 3 3) 4 3) 5 3) 6 3) 7 3))), (q_134, .inl (y 0, 6, .inl (fun _ => 0))), (q_135, .inl (y 0, 6, .inl (fun _ => 0))), (q_136, .inl (y 0, 6, .inl (fun _ => 0))), (q_137, .inl (y 0, 3, .inl (fun _ => 0))), (q_138, .inl (y 0, 3, .inl (fun _ => 0))), (q_139, .inl (y 0, 3, .inl (upd (upd (upd (fun _ => 0) 0 3) 1 3) 2 3)))] : va_W) ++ stW y bs h0 (stI 0)) H := (P_eq (ap_set_l (show 0 < List.length _ by simp) rfl) hP)
  refine lv_aload_n hx hb dX5_init_163 rfl (lv_at hl 0 rfl) ?_
  refine va_new (ci := 4) (fs := [.int 0, .int 0, .int 0, .int 0, .null, .null, .null, .null, .null, .null, .null, .null, .null]) (C := RX4) (T := TX4) (N := 13) hx hb hts hin4 tyX4 tyX4_ok hown (hts (.classLink RX5 38 RX4) (by decide +kernel)) (hts (.instantiable RX4 13) (by decide +kernel)) (hts (.initialized RX4) (by decide +kernel)) hK hP (aD_D hD (show List.map Prod.fst (([(h0, .inr (5, [.int 0, .ref q_132, .ref q_133, .int 0, .ref q_134, .ref q_135, .ref q_136, .int 0, .ref q_137, .ref q_138, .int 50, .ref q_139, .ref (bs 0), .null])), (q_132, .inl (y 0, 8, .inl (upd (upd (upd (upd (upd (upd (upd (upd (fun _ => 0) 0 1) 1 1) 2 1) 3 1) 4 1) 5 1) 6 1) 7 1))), (q_133, .inl (y 0, 8, .inl (upd (upd (upd (upd (upd (upd (upd (upd (fun _ => 0) 0 3) 1 3) 2 3) 3 3) 4 3) 5 3) 6 3) 7 3))), (q_134, .inl (y 0, 6, .inl (fun _ => 0))), (q_135, .inl (y 0, 6, .inl (fun _ => 0))), (q_136, .inl (y 0, 6, .inl (fun _ => 0))), (q_137, .inl (y 0, 3, .inl (fun _ => 0))), (q_138, .inl (y 0, 3, .inl (fun _ => 0))), (q_139, .inl (y 0, 3, .inl (upd (upd (upd (fun _ => 0) 0 3) 1 3) 2 3)))] : va_W) ++ stW y bs h0 (stI 0)) = _ from by rw [List.map_append, st_fst]; rfl)) hS hA rfl (by decide) (Nat.le_of_ble_eq_true rfl) (Nat.le_of_ble_eq_true rfl) dX5_init_164 (fun q_141 H hP hD9 hS => ?_)
  have hD : aD A (List.map Prod.fst (([(h0, .inr (5, [.int 0, .ref q_132, .ref q_133, .int 0, .ref q_134, .ref q_135, .ref q_136, .int 0, .ref q_137, .ref q_138, .int 50, .ref q_139, .ref (bs 0), .null])), (q_132, .inl (y 0, 8, .inl (upd (upd (upd (upd (upd (upd (upd (upd (fun _ => 0) 0 1) 1 1) 2 1) 3 1) 4 1) 5 1) 6 1) 7 1))), (q_133, .inl (y 0, 8, .inl (upd (upd (upd (upd (upd (upd (upd (upd (fun _ => 0) 0 3) 1 3) 2 3) 3 3) 4 3) 5 3) 6 3) 7 3))), (q_134, .inl (y 0, 6, .inl (fun _ => 0))), (q_135, .inl (y 0, 6, .inl (fun _ => 0))), (q_136, .inl (y 0, 6, .inl (fun _ => 0))), (q_137, .inl (y 0, 3, .inl (fun _ => 0))), (q_138, .inl (y 0, 3, .inl (fun _ => 0))), (q_139, .inl (y 0, 3, .inl (upd (upd (upd (fun _ => 0) 0 3) 1 3) 2 3)))] : va_W) ++ stW y bs h0 (stI 0)) ++ [q_141]) := by have h9 := aD_of hD9; rw [List.map_append] at h9; exact h9
  refine lv_dup hx hb dX5_init_167 rfl ?_
  refine lv_aload_n hx hb dX5_init_168 rfl (lv_at hl 0 rfl) ?_
  refine cNw_IN (As := [.ref h0]) (rest := [.ref q_141, .ref h0]) ⟨hx, hb, hml, hown, hts⟩ (c_X4_init l D y _ q_141 h0) ⟨va_cnB 1 hts ggX5_init_X4_init rfl rfl rfl (hN.2.1 _ (List.mem_of_getElem? (i := 2) rfl)) (hts (.initialized RX4) (by decide +kernel)) (by decide +kernel) ⟨Nat.le_of_ble_eq_true rfl, Nat.le_of_ble_eq_true rfl⟩, rfl, hts (.instanceMethod yX4_init) (by decide +kernel)⟩ hK hN hP hD hS hA rfl hl.1 rfl (Nat.le_of_ble_eq_true rfl) dX5_init_169 ⟨Nat.le_of_ble_eq_true rfl, Nat.le_of_ble_eq_true rfl⟩ (fun ba H locs hba hPn hDn hSn => ?_)
  subst hba
  have hS := hSn
  have hP : va_P D vwCl ((([(h0, .inr (5, [.int 0, .ref q_132, .ref q_133, .int 0, .ref q_134, .ref q_135, .ref q_136, .int 0, .ref q_137, .ref q_138, .int 50, .ref q_139, .ref (bs 0), .null])), (q_132, .inl (y 0, 8, .inl (upd (upd (upd (upd (upd (upd (upd (upd (fun _ => 0) 0 1) 1 1) 2 1) 3 1) 4 1) 5 1) 6 1) 7 1))), (q_133, .inl (y 0, 8, .inl (upd (upd (upd (upd (upd (upd (upd (upd (fun _ => 0) 0 3) 1 3) 2 3) 3 3) 4 3) 5 3) 6 3) 7 3))), (q_134, .inl (y 0, 6, .inl (fun _ => 0))), (q_135, .inl (y 0, 6, .inl (fun _ => 0))), (q_136, .inl (y 0, 6, .inl (fun _ => 0))), (q_137, .inl (y 0, 3, .inl (fun _ => 0))), (q_138, .inl (y 0, 3, .inl (fun _ => 0))), (q_139, .inl (y 0, 3, .inl (upd (upd (upd (fun _ => 0) 0 3) 1 3) 2 3)))] : va_W) ++ stW y bs h0 (stI 0)) ++ stW y ba h0 (stI 0)) H := hPn
  have hD : aD A (([h0, q_132, q_133, q_134, q_135, q_136, q_137, q_138, q_139] ++ wa 9 bs) ++ wa 9 ba) := by rw [List.map_append, st_fst] at hDn; exact hDn
  have hf47 := hts (.fieldLink RX5 47 "CoracleMakersModel" "ahead" "LCoracleMakersModel$State;") (by decide +kernel)
  refine va_putF (D := D) (ci := 5) (v := .ref (ba 0)) (ty := (.object "CoracleMakersModel$State")) (C := RX5) (T := TX5) (N := 14) hx hb hts hin5 tyX5 tyX5_ok nmX5 hown hK hP (aD_D hD (show List.map Prod.fst ((([(h0, .inr (5, [.int 0, .ref q_132, .ref q_133, .int 0, .ref q_134, .ref q_135, .ref q_136, .int 0, .ref q_137, .ref q_138, .int 50, .ref q_139, .ref (bs 0), .null])), (q_132, .inl (y 0, 8, .inl (upd (upd (upd (upd (upd (upd (upd (upd (fun _ => 0) 0 1) 1 1) 2 1) 3 1) 4 1) 5 1) 6 1) 7 1))), (q_133, .inl (y 0, 8, .inl (upd (upd (upd (upd (upd (upd (upd (upd (fun _ => 0) 0 3) 1 3) 2 3) 3 3) 4 3) 5 3) 6 3) 7 3))), (q_134, .inl (y 0, 6, .inl (fun _ => 0))), (q_135, .inl (y 0, 6, .inl (fun _ => 0))), (q_136, .inl (y 0, 6, .inl (fun _ => 0))), (q_137, .inl (y 0, 3, .inl (fun _ => 0))), (q_138, .inl (y 0, 3, .inl (fun _ => 0))), (q_139, .inl (y 0, 3, .inl (upd (upd (upd (fun _ => 0) 0 3) 1 3) 2 3)))] : va_W) ++ stW y bs h0 (stI 0)) ++ stW y ba h0 (stI 0)) = _ from by rw [List.map_append, List.map_append, st_fst, st_fst]; rfl)) hS 0 (ap_l (ap_l rfl)) rfl 13 (by decide) hf47 (fun _ h9 => h9) rfl hin rfl (by decide +kernel) rfl rfl (Nat.le_of_ble_eq_true rfl) dX5_init_172 (fun H locs hP _ hS => ?_)
  have hP : va_P D vwCl ((([(h0, .inr (5, [.int 0, .ref q_132, .ref q_133, .int 0, .ref q_134, .ref q_135, .ref q_136, .int 0, .ref q_137, .ref q_138, .int 50, .ref q_139, .ref (bs 0), .ref (ba 0)])), (q_132, .inl (y 0, 8, .inl (upd (upd (upd (upd (upd (upd (upd (upd (fun _ => 0) 0 1) 1 1) 2 1) 3 1) 4 1) 5 1) 6 1) 7 1))), (q_133, .inl (y 0, 8, .inl (upd (upd (upd (upd (upd (upd (upd (upd (fun _ => 0) 0 3) 1 3) 2 3) 3 3) 4 3) 5 3) 6 3) 7 3))), (q_134, .inl (y 0, 6, .inl (fun _ => 0))), (q_135, .inl (y 0, 6, .inl (fun _ => 0))), (q_136, .inl (y 0, 6, .inl (fun _ => 0))), (q_137, .inl (y 0, 3, .inl (fun _ => 0))), (q_138, .inl (y 0, 3, .inl (fun _ => 0))), (q_139, .inl (y 0, 3, .inl (upd (upd (upd (fun _ => 0) 0 3) 1 3) 2 3)))] : va_W) ++ stW y bs h0 (stI 0)) ++ stW y ba h0 (stI 0)) H := (P_eq (ap_set_l (show 0 < List.length _ by simp) (ap_set_l (show 0 < List.length _ by simp) rfl)) hP)
  refine lv_iconst (v := 0) hx hb dX5_init_175 (by decide) ?_
  refine lv_istore_n (lv' := [(1, .int 0), (0, .ref h0)]) hx hb dX5_init_176 rfl hl (by decide) rfl (fun ls hl => ?_)
  obtain ⟨am, ham⟩ : ∃ z : Nat → Nat, z = fun j => [h0, q_132, q_133, q_134, q_135, q_136, q_137, q_138, q_139].getD j 0 := ⟨_, rfl⟩
  have hP0 := P_l (P_l hP)
  have hPp : va_P D vwCl (moW y am (bs 0) (ba 0) mo0) H := by
    subst ham
    intro k q hk
    rw [wf_get] at hk
    match k, hk with
    | 0, hk => cases hk; exact hP0 0 _ rfl
    | 1, hk => cases hk; exact at_int (hP0 1 _ rfl) (fun i hi => by match i, hi with | 0, _ => rfl | 1, _ => rfl | 2, _ => rfl | 3, _ => rfl | 4, _ => rfl | 5, _ => rfl | 6, _ => rfl | 7, _ => rfl | i + 8, hi => omega)
    | 2, hk => cases hk; exact at_int (hP0 2 _ rfl) (fun i hi => by match i, hi with | 0, _ => rfl | 1, _ => rfl | 2, _ => rfl | 3, _ => rfl | 4, _ => rfl | 5, _ => rfl | 6, _ => rfl | 7, _ => rfl | i + 8, hi => omega)
    | 3, hk => cases hk; exact at_int (hP0 3 _ rfl) (fun i hi => by match i, hi with | 0, _ => rfl | 1, _ => rfl | 2, _ => rfl | 3, _ => rfl | 4, _ => rfl | 5, _ => rfl | i + 6, hi => omega)
    | 4, hk => cases hk; exact at_int (hP0 4 _ rfl) (fun i hi => by match i, hi with | 0, _ => rfl | 1, _ => rfl | 2, _ => rfl | 3, _ => rfl | 4, _ => rfl | 5, _ => rfl | i + 6, hi => omega)
    | 5, hk => cases hk; exact at_int (hP0 5 _ rfl) (fun i hi => by match i, hi with | 0, _ => rfl | 1, _ => rfl | 2, _ => rfl | 3, _ => rfl | 4, _ => rfl | 5, _ => rfl | i + 6, hi => omega)
    | 6, hk => cases hk; exact at_int (hP0 6 _ rfl) (fun i hi => by match i, hi with | 0, _ => rfl | 1, _ => rfl | 2, _ => rfl | i + 3, hi => omega)
    | 7, hk => cases hk; exact at_int (hP0 7 _ rfl) (fun i hi => by match i, hi with | 0, _ => rfl | 1, _ => rfl | 2, _ => rfl | i + 3, hi => omega)
    | 8, hk => cases hk; exact at_int (hP0 8 _ rfl) (fun i hi => by match i, hi with | 0, _ => rfl | 1, _ => rfl | 2, _ => rfl | i + 3, hi => omega)
    | k + 9, hk => rw [if_neg (by omega)] at hk; cases hk
  have h0am : am 0 = h0 := by rw [ham]; rfl
  have hP : va_P D vwCl (moA y am bs ba mo0 (stI 0) (stI 0)) H := va_P.app hPp (va_P.app (by rw [h0am]; exact P_r (P_l hP)) (by rw [h0am]; exact P_r hP))
  have hD : aD A (wa 9 am ++ (wa 9 bs ++ wa 9 ba)) := by rw [← List.append_assoc]; rw [ham]; exact hD
  rw [← h0am] at hl
  have hl : lv_has ls 2 [(1, .int (nI 0)), (0, .ref (am 0))] := hl
  refine W.widen (k := 26) (n := 179) (Nat.le_of_ble_eq_true rfl) (Nat.le_of_ble_eq_true rfl) ?_
  have lr23 : ∀ (n i : Nat) (H : Heap) (locs : List Loc) (ls : Array Slot), 16 - i < n → i ≤ 16 → va_P D vwCl (moW y am (bs 0) (ba 0) mo0 ++ (stW y bs (am 0) (stI i) ++ stW y ba (am 0) (stI 0))) H → va_S A s.heap H locs → lv_has ls 2 [(0, .ref (am 0)), (1, .int (nI i))] → W p l e rmX5_init s m a below meth c H locs 26 179 Q (F0 m 177 ls []) := by
    intro n
    induction n with
    | zero => intro i H locs ls hn; exact absurd hn (Nat.not_lt_zero _)
    | succ n ih =>
      intro i H locs ls hn hi hP hS hl
      rcases Nat.lt_or_ge i 16 with hiN | hiN
      · have ei : ix (nI i) = i := nI_clamp (by omega)
        refine lv_iload_n hx hb dX5_init_177 rfl (lv_at hl 1 rfl) ?_
        refine lv_bipush (v := 16) hx hb dX5_init_178 (by decide) ?_
        refine lv_icmp_ge (tgt := 199) hx hb dX5_init_180 (by decide) (fun c9 => absurd c9 (nI_ge hiN (by decide))) (fun _ => ?_)
        refine lv_aload_n hx hb dX5_init_183 rfl (lv_at hl 0 rfl) ?_
        refine va_get (D := D) (ci := 5) (v := .ref (bs 0)) (C := RX5) (T := TX5) (N := 14) hx hb hts hin5 hown hK hP 0 (ap_l (wf_at (by decide) rfl)) rfl 12 (by decide) hf43 (fun _ h9 => h9) rfl dX5_init_184 ?_
        have hf50 : (Cond.fieldLinkNest RX5 50 "CoracleMakersModel$State" "salmon" "[I" "CoracleMakersModel").before a s = true := va_Nw.use rfl (hN.1 _ (List.mem_of_getElem? (i := 2) rfl))
        refine va_getN (D := D) (ci := 4) (v := .ref (bs 1)) (C := RX4) (T := TX4) (N := 13) hx hb hts hin4 hown hK hP (9 + 0) (ap_r (wf_len 9 _ _) (ap_l (wf_at (by decide) rfl))) rfl 4 (by decide) hf50 (fun _ h9 => h9) rfl dX5_init_187 ?_
        refine lv_iload_n hx hb dX5_init_190 rfl (lv_at hl 1 rfl) ?_
        refine lv_iconst (v := 4) hx hb dX5_init_191 (by decide) ?_
        obtain ⟨U43, hU43⟩ : ∃ z, z = va_up (stI i) 1 (upd ((stI i) 1) (ix (nI i)) 4) := ⟨_, rfl⟩
        refine va_iast hx hb hK hP (aD_D hD (show List.map Prod.fst (moW y am (bs 0) (ba 0) mo0 ++ (stW y bs (am 0) (stI i) ++ stW y ba (am 0) (stI 0))) = _ from by rw [List.map_append, List.map_append, mo_fst y am _ _ _, st_fst y bs _ _, st_fst y ba _ _])) hS (9 + 1) 0 (ap_r (wf_len 9 _ _) (ap_l (wf_at (by decide) rfl))) rfl (vp_in_nI hiN (by decide)) dX5_init_192 (fun H locs hP _ hS => ?_)
        have hP : va_P D vwCl (moW y am (bs 0) (ba 0) mo0 ++ (stW y bs (am 0) U43 ++ stW y ba (am 0) (stI 0))) H := (by rw [hU43]; exact P_eq (ap_set_r (wf_len 9 _ _) (ap_set_l (show 1 < (wf _ _ _).length by rw [wf_len]; omega) (st_set (k := 1) (upd ((stI i) 1) (ix (nI i)) 4) (by decide) rfl))) hP)
        have e9 : U43 = stI (i + 1) := stI_s i (by rw [hU43, ei])
        rw [e9] at hP
        refine lv_iinc (v := nI (i + 1)) (lv' := [(1, .int (nI (i + 1))), (0, .ref (am 0))]) hx hb dX5_init_193 hl (k := 1) rfl (by first | rfl | exact (nI_1 i)) (by decide) rfl (fun ls hl => ?_)
        refine lv_goto (tgt := 177) hx hb dX5_init_196 (by decide) ?_
        exact ih (i + 1) _ _ _ (by omega) (by omega) hP hS (lv_sub hl [1, 0] rfl)
      · have e9i : 16 = i := by omega
        subst e9i
        refine lv_iload_n hx hb dX5_init_177 rfl (lv_at hl 1 rfl) ?_
        refine lv_bipush (v := 16) hx hb dX5_init_178 (by decide) ?_
        refine lv_icmp_ge (tgt := 199) hx hb dX5_init_180 (by decide) (fun _ => ?_) (fun c9 => absurd (show (16 : Int32) ≤ nI 16 by decide) c9)
        subst hQ
        refine W.widen (k := 26) (n := 179) (Nat.le_of_ble_eq_true rfl) (Nat.le_of_ble_eq_true rfl) ?_
        exact W.vret hx hb hr (fun t ht hW => ⟨⟨(am, bs, ba), rfl, h0am, bp_at hK hN hP t ht hW, hD⟩, hS.F ht⟩) hS.2.2 dX5_init_199
  exact lr23 (16 + 1) 0 _ _ ls (by omega) (by omega) hP hS (lv_sub hl [1, 0] rfl)
