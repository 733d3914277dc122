/-! ===== contracts in few words, their beginnings and their calls ===== -/
/-- a method that only reads and answers an int (a long, a double, a cell's address, nothing) -/
abbrev RdI (l : Launch) (D : va_G) (y : Nat → ClassId) (yM : MethodName) (ws : List Cond) (rm : Room) (av : List Value) (W0 : va_W) (F : Int32) : Prop := Met l yM ws rm (va_Pc av (Bp D y W0)) (vp_Si (fun r => r = F)) 0 0 noA
abbrev RdL (l : Launch) (D : va_G) (y : Nat → ClassId) (yM : MethodName) (ws : List Cond) (rm : Room) (av : List Value) (W0 : va_W) (F : Int64) : Prop := Met l yM ws rm (va_Pc av (Bp D y W0)) (vp_Sl (fun r => r = F)) 0 0 noA
abbrev RdD (l : Launch) (D : va_G) (y : Nat → ClassId) (yM : MethodName) (ws : List Cond) (rm : Room) (av : List Value) (W0 : va_W) (F : UInt64) : Prop := Met l yM ws rm (va_Pc av (Bp D y W0)) (vp_Sd (fun r => r = F)) 0 0 noA
abbrev RdR (l : Launch) (D : va_G) (y : Nat → ClassId) (yM : MethodName) (ws : List Cond) (rm : Room) (av : List Value) (W0 : va_W) (F : Nat) : Prop := Met l yM ws rm (va_Pc av (Bp D y W0)) (va_Sr (fun j => j = F) (fun j => Value.ref j)) 0 0 noA
/-- a method that writes: its world becomes W1 -/
abbrev WrI (l : Launch) (D : va_G) (y : Nat → ClassId) (yM : MethodName) (ws : List Cond) (rm : Room) (av : List Value) (W0 : va_W) (sz : Nat) (F : Int32) (W1 : va_W) : Prop := Met l yM ws rm (va_Pc av (Bw D y W0 sz)) (va_Qi (fun r (_ : Unit) => r = F) (fun _ t => Bp D y W1 t) (aW W0 sz)) 0 0 (aW W0 sz)
abbrev WrV (l : Launch) (D : va_G) (y : Nat → ClassId) (yM : MethodName) (ws : List Cond) (rm : Room) (av : List Value) (W0 : va_W) (sz : Nat) (W1 : va_W) : Prop := Met l yM ws rm (va_Pc av (Bw D y W0 sz)) (va_Qv (fun (_ : Unit) => True) (fun _ t => Bp D y W1 t) (aW W0 sz)) 0 0 (aW W0 sz)
theorem mR {l : Launch} {D : va_G} {y : Nat → ClassId} {yM : MethodName} {ws ws' : List Cond} {rm : Room} {av : List Value} {W0 : va_W} {Qc : Array Value → State → Outcome → State → Prop} {cc : ByteArray} {maxL : Nat} {ret : Option FieldType} {C : String} (hy : plainName yM.cls = true) (hC : yM.cls = C) (hw : ws = Cond.code yM cc maxL ret :: ws') (hlen : (lg_sl av).length ≤ maxL)
    (body : ∀ (p : Program) (e : Env) (s : State) (m : MethodId) (a : Array Value) (below : List Frame) (meth : Method) (c : Code) (ls : Array Slot) (Q : State → Prop), Q = MQ below Qc a s 0 0 noA → p.tables.exec = Jvm.exec → c.code = cc → meth.sig.returnType = ret → (∀ w ∈ ws, w.before a s = true) → s.vm.findClass C = some m.cls → meth.locks = false → c.maxLocals = maxL → va_P D vwCl W0 s.heap → va_K D vwCl (tyL y) s → NW s → lv_has ls maxL (lv_args 0 av) →
      W p l e rm s m a below meth c s.heap [] 0 0 Q (F0 m 0 ls [])) : Met l yM ws rm (va_Pc av (Bp D y W0)) Qc 0 0 noA := by
  refine Met.ofW (cc := cc) (maxL := maxL) (ret := ret) hy hw ?_
  intro p e s m args below meth c s₁ B hml hv
  obtain ⟨ha, hP, hK, hN⟩ := hv
  have hl := lv_entry av (n := maxL) hlen
  have hb := body p e s m args below meth c ((lg_sl av ++ List.replicate (maxL - (lg_sl av).length) Slot.unset).toArray) _ rfl B.exec B.bytes B.returns (atoms_spec (ws := ws) B.pre) (by rw [← hC]; exact findClass_of_methodNamed B.named) B.notSynchronized hml hP hK hN hl
  subst ha
  rw [lg_entry_eq]
  exact hb
theorem mW {l : Launch} {D : va_G} {y : Nat → ClassId} {yM : MethodName} {ws ws' : List Cond} {rm : Room} {av : List Value} {W0 : va_W} {sz mc ms : Nat} (Qf : (Nat → Prop) → Array Value → State → Outcome → State → Prop) {cc : ByteArray} {maxL : Nat} {ret : Option FieldType} {C : String} (hy : plainName yM.cls = true) (hC : yM.cls = C) (hw : ws = Cond.code yM cc maxL ret :: ws') (hlen : (lg_sl av).length ≤ maxL)
    (body : ∀ (p : Program) (e : Env) (s : State) (m : MethodId) (a : Array Value) (below : List Frame) (meth : Method) (c : Code) (ls : Array Slot) (A : Nat → Prop) (Q : State → Prop), Q = MQ below (Qf A) a s mc ms A → s.heap.size = sz → p.tables.exec = Jvm.exec → c.code = cc → meth.sig.returnType = ret → (∀ w ∈ ws, w.before a s = true) → s.vm.findClass C = some m.cls → meth.locks = false → meth.name = yM.name → c.maxLocals = maxL → va_P D vwCl W0 s.heap → va_K D vwCl (tyL y) s → NW s → aD A (W0.map Prod.fst) → (∀ q : Nat, s.heap.size ≤ q → A q) → va_S A s.heap s.heap [] → lv_has ls maxL (lv_args 0 av) →
      W p l e rm s m a below meth c s.heap [] 0 0 Q (F0 m 0 ls [])) : Met l yM ws rm (va_Pc av (Bw D y W0 sz)) (Qf (aW W0 sz)) mc ms (aW W0 sz) := by
  refine Met.ofW (cc := cc) (maxL := maxL) (ret := ret) hy hw ?_
  intro p e s m args below meth c s₁ B hml hv
  obtain ⟨ha, hsz, ⟨hP, hK, hN⟩, hD⟩ := hv
  have hl := lv_entry av (n := maxL) hlen
  have hb := body p e s m args below meth c ((lg_sl av ++ List.replicate (maxL - (lg_sl av).length) Slot.unset).toArray) (aW W0 sz) _ rfl hsz B.exec B.bytes B.returns (atoms_spec (ws := ws) B.pre) (by rw [← hC]; exact findClass_of_methodNamed B.named) B.notSynchronized (name_of_methodNamed B.named B.method).1 hml hP hK hN (aD_self sz hD) (fun q h => Or.inr (by rw [← hsz]; exact h)) va_S.rf hl
  subst ha
  rw [lg_entry_eq]
  exact hb
theorem P_eq {D : va_G} {cl : List vw_C} {x x' : va_W} {H : Heap} (h : x = x') (hP : va_P D cl x H) : va_P D cl x' H := h ▸ hP
section CALLS
variable {p : Program} {l : Launch} {e : Env} {R : Room} {s : State} {m : MethodId} {args : Array Value} {below : List Frame} {meth : Method} {c : Code} {H : Heap} {locs : List Loc} {cells slots : Nat} {Q : State → Prop}
variable {pc : Nat} {ls : Array Slot} {rest st0 As : List Value} {cc : ByteArray} {nL index maxL n : Nat} {ret : Option FieldType} {own C : String} {Ts ws : List Cond} {yM : MethodName} {bytes : ByteArray} {rm : Room} {b : Nat}
variable {D : va_G} {y : Nat → ClassId} {wc w1 : va_W} {A : Nat → Prop} {H0 : Heap}
theorem bp_at (hK : va_K D vwCl (tyL y) s) (hN : NW s) (hP : va_P D vwCl wc H) (U : State) (hU : U.heap = H) (hW : s.WarmedH U.vm) : Bp D y wc U := ⟨by rw [hU]; exact hP, va_K.moved hW.alike hK, hN.warm hW⟩
theorem cRI_V {F : Int32} (S : CallFix p m c cc nL s args Ts own) (hM : RdI l D y yM ws rm (.ref b :: As) wc F) (cw : CallW R s args own C index yM bytes maxL ret ws rm 0 0 n) (hK : va_K D vwCl (tyL y) s) (hN : NW s) (hP : va_P D vwCl wc H) (hrecv : ∃ cell : Cell, H[b]? = some cell ∧ cell.vm.isStatics = false ∧ s.vm.findClass C = some cell.cls)
    (hn : As.length = n) (hsize : ls.size = nL) (hstack : st0 = As.reverse ++ .ref b :: rest) (hW : (rest.map fun v => v.category).sum ≤ 8) (hdg : decode cc pc = .ok (.invokevirtual index, 3)) (hf : cells + 0 ≤ R.cells ∧ slots + 0 ≤ R.slots)
    (kk : W p l e R s m args below meth c H locs cells slots Q (F0 m (pc + 3) ls (.int F :: rest))) : W p l e R s m args below meth c H locs cells slots Q (F0 m pc ls st0) :=
  vp_callSi (W.runV S hM cw ⟨Bp.blind, hrecv, fun U hU hW => ⟨rfl, bp_at hK hN hP U hU hW⟩⟩ rfl hn hsize hstack (lv_room hW) hdg hf) (fun r hr => by rw [hr]; exact kk)
theorem cRL_V {F : Int64} (S : CallFix p m c cc nL s args Ts own) (hM : RdL l D y yM ws rm (.ref b :: As) wc F) (cw : CallW R s args own C index yM bytes maxL ret ws rm 0 0 n) (hK : va_K D vwCl (tyL y) s) (hN : NW s) (hP : va_P D vwCl wc H) (hrecv : ∃ cell : Cell, H[b]? = some cell ∧ cell.vm.isStatics = false ∧ s.vm.findClass C = some cell.cls)
    (hn : As.length = n) (hsize : ls.size = nL) (hstack : st0 = As.reverse ++ .ref b :: rest) (hW : (rest.map fun v => v.category).sum ≤ 8) (hdg : decode cc pc = .ok (.invokevirtual index, 3)) (hf : cells + 0 ≤ R.cells ∧ slots + 0 ≤ R.slots)
    (kk : W p l e R s m args below meth c H locs cells slots Q (F0 m (pc + 3) ls (.long F :: rest))) : W p l e R s m args below meth c H locs cells slots Q (F0 m pc ls st0) :=
  vp_callSl (W.runV S hM cw ⟨Bp.blind, hrecv, fun U hU hW => ⟨rfl, bp_at hK hN hP U hU hW⟩⟩ rfl hn hsize hstack (lv_room hW) hdg hf) (fun r hr => by rw [hr]; exact kk)
theorem cRD_V {F : UInt64} (S : CallFix p m c cc nL s args Ts own) (hM : RdD l D y yM ws rm (.ref b :: As) wc F) (cw : CallW R s args own C index yM bytes maxL ret ws rm 0 0 n) (hK : va_K D vwCl (tyL y) s) (hN : NW s) (hP : va_P D vwCl wc H) (hrecv : ∃ cell : Cell, H[b]? = some cell ∧ cell.vm.isStatics = false ∧ s.vm.findClass C = some cell.cls)
    (hn : As.length = n) (hsize : ls.size = nL) (hstack : st0 = As.reverse ++ .ref b :: rest) (hW : (rest.map fun v => v.category).sum ≤ 8) (hdg : decode cc pc = .ok (.invokevirtual index, 3)) (hf : cells + 0 ≤ R.cells ∧ slots + 0 ≤ R.slots)
    (kk : W p l e R s m args below meth c H locs cells slots Q (F0 m (pc + 3) ls (.double F :: rest))) : W p l e R s m args below meth c H locs cells slots Q (F0 m pc ls st0) :=
  vp_callSd (W.runV S hM cw ⟨Bp.blind, hrecv, fun U hU hW => ⟨rfl, bp_at hK hN hP U hU hW⟩⟩ rfl hn hsize hstack (lv_room hW) hdg hf) (fun r hr => by rw [hr]; exact kk)
theorem cRR_V {F : Nat} (S : CallFix p m c cc nL s args Ts own) (hM : RdR l D y yM ws rm (.ref b :: As) wc F) (cw : CallW R s args own C index yM bytes maxL ret ws rm 0 0 n) (hK : va_K D vwCl (tyL y) s) (hN : NW s) (hP : va_P D vwCl wc H) (hrecv : ∃ cell : Cell, H[b]? = some cell ∧ cell.vm.isStatics = false ∧ s.vm.findClass C = some cell.cls)
    (hn : As.length = n) (hsize : ls.size = nL) (hstack : st0 = As.reverse ++ .ref b :: rest) (hW : (rest.map fun v => v.category).sum ≤ 8) (hdg : decode cc pc = .ok (.invokevirtual index, 3)) (hf : cells + 0 ≤ R.cells ∧ slots + 0 ≤ R.slots)
    (kk : W p l e R s m args below meth c H locs cells slots Q (F0 m (pc + 3) ls (.ref F :: rest))) : W p l e R s m args below meth c H locs cells slots Q (F0 m pc ls st0) :=
  va_csr (W.runV S hM cw ⟨Bp.blind, hrecv, fun U hU hW => ⟨rfl, bp_at hK hN hP U hU hW⟩⟩ rfl hn hsize hstack (lv_room hW) hdg hf) (fun r hr => by rw [hr]; exact kk)
theorem cRI_S {F : Int32} (S : CallFix p m c cc nL s args Ts own) (hM : RdI l D y yM ws rm As wc F) (cw : CallB R s args own index yM bytes maxL ret ws rm 0 0 n ∧ (Cond.static yM).before args s = true) (hK : va_K D vwCl (tyL y) s) (hN : NW s) (hP : va_P D vwCl wc H)
    (hn : As.length = n) (hsize : ls.size = nL) (hstack : st0 = As.reverse ++ rest) (hW : (rest.map fun v => v.category).sum ≤ 8) (hdg : decode cc pc = .ok (.invokestatic index, 3)) (hf : cells + 0 ≤ R.cells ∧ slots + 0 ≤ R.slots)
    (kk : W p l e R s m args below meth c H locs cells slots Q (F0 m (pc + 3) ls (.int F :: rest))) : W p l e R s m args below meth c H locs cells slots Q (F0 m pc ls st0) :=
  vp_callSi (W.runS S hM cw ⟨Bp.blind, fun U hU hW => ⟨rfl, bp_at hK hN hP U hU hW⟩⟩ rfl hn hsize hstack (lv_room hW) hdg hf) (fun r hr => by rw [hr]; exact kk)
theorem cRL_S {F : Int64} (S : CallFix p m c cc nL s args Ts own) (hM : RdL l D y yM ws rm As wc F) (cw : CallB R s args own index yM bytes maxL ret ws rm 0 0 n ∧ (Cond.static yM).before args s = true) (hK : va_K D vwCl (tyL y) s) (hN : NW s) (hP : va_P D vwCl wc H)
    (hn : As.length = n) (hsize : ls.size = nL) (hstack : st0 = As.reverse ++ rest) (hW : (rest.map fun v => v.category).sum ≤ 8) (hdg : decode cc pc = .ok (.invokestatic index, 3)) (hf : cells + 0 ≤ R.cells ∧ slots + 0 ≤ R.slots)
    (kk : W p l e R s m args below meth c H locs cells slots Q (F0 m (pc + 3) ls (.long F :: rest))) : W p l e R s m args below meth c H locs cells slots Q (F0 m pc ls st0) :=
  vp_callSl (W.runS S hM cw ⟨Bp.blind, fun U hU hW => ⟨rfl, bp_at hK hN hP U hU hW⟩⟩ rfl hn hsize hstack (lv_room hW) hdg hf) (fun r hr => by rw [hr]; exact kk)
/-- the callee's part of what the caller may change -/
theorem aW_sub {lx lc : List Nat} (hDx : aD A lx) (hS : va_S A H0 H locs) (hA : ∀ q, H0.size ≤ q → A q) (hs : ∀ q, q ∈ lc → q ∈ lx) : ∀ q, aA lc H.size q → A q := by
  intro q h
  rcases h with h | h
  · obtain ⟨i, hi⟩ := List.getElem?_of_mem (hs q h)
    exact hDx.2 i q hi
  · exact hA q (Nat.le_trans hS.1 h)
theorem cWI_V {F : Int32} (S : CallFix p m c cc nL s args Ts own) (hM : WrI l D y yM ws rm (.ref b :: As) wc H.size F w1) (cw : CallW R s args own C index yM bytes maxL ret ws rm 0 0 n) (hK : va_K D vwCl (tyL y) s) (hN : NW s) (hP : va_P D vwCl wc H) (hDc : aD A (wc.map Prod.fst)) (hS : va_S A H0 H locs) (hA : ∀ q, H0.size ≤ q → A q) (hrecv : ∃ cell : Cell, H[b]? = some cell ∧ cell.vm.isStatics = false ∧ s.vm.findClass C = some cell.cls)
    (hn : As.length = n) (hsize : ls.size = nL) (hstack : st0 = As.reverse ++ .ref b :: rest) (hW : (rest.map fun v => v.category).sum ≤ 8) (hdg : decode cc pc = .ok (.invokevirtual index, 3)) (hf : cells + 0 ≤ R.cells ∧ slots + 0 ≤ R.slots)
    (kk : ∀ (H1 : Heap) (locs1 : List Loc), va_P D vwCl w1 H1 → (∀ q : Nat, q < H.size → ¬ aW wc H.size q → H1[q]? = H[q]?) → va_S A H0 H1 locs1 → W p l e R s m args below meth c H1 locs1 cells slots Q (F0 m (pc + 3) ls (.int F :: rest))) : W p l e R s m args below meth c H locs cells slots Q (F0 m pc ls st0) :=
  va_calli (va_runV S hM cw ⟨Bw.blind, hrecv, fun U hU hW => ⟨rfl, by rw [hU], bp_at hK hN hP U hU hW, aD_mono hDc (fun _ _ _ => trivial)⟩⟩ rfl hn hsize hstack (lv_room hW) hdg hf) hS (fun q _ h => aW_sub hDc hS hA (fun _ h => h) q h) (aW_sub hDc hS hA (fun _ h => h)) (fun r u t H1 locs1 ht hvm hw hB hz hk hS1 => by
    rw [hw]
    exact kk H1 locs1 (by rw [← ht]; exact hB.1) hk hS1)
theorem cWV_V (S : CallFix p m c cc nL s args Ts own) (hM : WrV l D y yM ws rm (.ref b :: As) wc H.size w1) (cw : CallW R s args own C index yM bytes maxL ret ws rm 0 0 n) (hK : va_K D vwCl (tyL y) s) (hN : NW s) (hP : va_P D vwCl wc H) (hDc : aD A (wc.map Prod.fst)) (hS : va_S A H0 H locs) (hA : ∀ q, H0.size ≤ q → A q) (hrecv : ∃ cell : Cell, H[b]? = some cell ∧ cell.vm.isStatics = false ∧ s.vm.findClass C = some cell.cls)
    (hn : As.length = n) (hsize : ls.size = nL) (hstack : st0 = As.reverse ++ .ref b :: rest) (hW : (rest.map fun v => v.category).sum ≤ 8) (hdg : decode cc pc = .ok (.invokevirtual index, 3)) (hf : cells + 0 ≤ R.cells ∧ slots + 0 ≤ R.slots)
    (kk : ∀ (H1 : Heap) (locs1 : List Loc), va_P D vwCl w1 H1 → (∀ q : Nat, q < H.size → ¬ aW wc H.size q → H1[q]? = H[q]?) → va_S A H0 H1 locs1 → W p l e R s m args below meth c H1 locs1 cells slots Q (F0 m (pc + 3) ls rest)) : W p l e R s m args below meth c H locs cells slots Q (F0 m pc ls st0) :=
  va_callv (va_runV S hM cw ⟨Bw.blind, hrecv, fun U hU hW => ⟨rfl, by rw [hU], bp_at hK hN hP U hU hW, aD_mono hDc (fun _ _ _ => trivial)⟩⟩ rfl hn hsize hstack (lv_room hW) hdg hf) hS (fun q _ h => aW_sub hDc hS hA (fun _ h => h) q h) (aW_sub hDc hS hA (fun _ h => h)) (fun u t H1 locs1 ht hvm hw hB hz hk hS1 => kk H1 locs1 (by rw [← ht]; exact hB.1) hk hS1)
end CALLS
