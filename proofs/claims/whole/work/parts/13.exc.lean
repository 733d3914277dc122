/-! ===== methods that throw ===== -/
def xIO : String := "java/lang/IndexOutOfBoundsException"
def xIA : String := "java/lang/IllegalArgumentException"
def xIS : String := "java/lang/IllegalStateException"
/-- the exceptions by number -/
def xnm (k : Nat) : String := if k = 1 then xIO else if k = 2 then xIA else xIS
def EXW (U : State) : Prop := (∀ q ∈ ["java/lang/RuntimeException", "java/lang/Exception", "java/lang/Throwable"], va_Nw (.declares (Bundle.init0 q)) U) ∧ (∀ q ∈ [xIO, xIA, xIS], va_Nw (.castable q q) U) ∧ ∀ q ∈ [(xIO, xIA), (xIO, xIS), (xIA, xIO), (xIA, xIS), (xIS, xIO), (xIS, xIA)], va_Nc q.1 q.2 U
theorem EXW.same {u U : State} (h : u.vm = U.vm) (hN : EXW u) : EXW U := ⟨fun q hq => va_Nw.same rfl h (hN.1 q hq), fun q hq => va_Nw.same rfl h (hN.2.1 q hq), fun q hq => (hN.2.2 q hq).moved (h ▸ Vm.Alike.refl u.vm)⟩
theorem EXW.warm {s U : State} (hW : s.WarmedH U.vm) (hN : EXW s) : EXW U := ⟨fun q hq => va_Nw.warmD hW (hN.1 q hq), fun q hq => va_Nw.warmC hW (hN.2.1 q hq), fun q hq => (hN.2.2 q hq).moved hW.alike⟩
def prc (j : Nat) : Int32 := if j = 0 then 4 else if j = 1 then 3 else 1
/-- the statics that are read -/
def SX (A : Nat → Prop) (U : State) (H : Heap) : Prop := (vx_Zq Bundle.tN "UNASSIGNED_STACK" Bundle.steD A U H ∧ vx_Zq Bundle.tN "SUPPRESSED_SENTINEL" Bundle.listD A U H) ∧ ∃ t : Nat, va_Z "CoracleMakers" "PRICES" "[I" (.ref t) A U H ∧ va_T .int t 4 (fun j => .int (prc j)) A U H
theorem SX.moved {A : Nat → Prop} {u U : State} {H : Heap} (hvm : u.vm.Alike U.vm) (h : SX A u H) : SX A U H := ⟨⟨h.1.1.moved hvm, h.1.2.moved hvm⟩, h.2.elim fun t ht => ⟨t, ht.1.moved hvm, ht.2.moved hvm⟩⟩
theorem SX.kept {A : Nat → Prop} {U : State} {H H1 : Heap} (h : SX A U H) (hq : ∀ a : Nat, a < H.size → ¬ A a → H1[a]? = H[a]?) : SX A U H1 := ⟨⟨h.1.1.kept hq, h.1.2.kept hq⟩, h.2.elim fun t ht => ⟨t, ht.1.kept hq, ht.2.kept hq⟩⟩
theorem SX.narrow {A B : Nat → Prop} {U : State} {H : Heap} (h : SX A U H) (hAB : ∀ q, B q → A q) : SX B U H := ⟨⟨h.1.1.narrow hAB, h.1.2.narrow hAB⟩, h.2.elim fun t ht => ⟨t, ht.1.narrow hAB, ht.2.narrow hAB⟩⟩
def Bx (D : va_G) (y : Nat → ClassId) (W0 : va_W) (sz : Nat) (U : State) : Prop := Bw D y W0 sz U ∧ EXW U ∧ SX (aW W0 sz) U U.heap
theorem Bx.blind {D : va_G} {y : Nat → ClassId} {W0 : va_W} {sz : Nat} {av : List Value} : FrameBlind (va_Pc av (Bx D y W0 sz)) := fun a U g mk h => ⟨h.1, (Bw.blind (av := av) a U g mk ⟨h.1, h.2.1⟩).2, EXW.same (u := U) (U := U.calling g mk a) rfl h.2.2.1, SX.moved (u := U) (U := U.calling g mk a) (Vm.Alike.refl U.vm) h.2.2.2⟩
/-- a check: it throws the exception k where P holds, else nothing happens -/
abbrev XV (l : Launch) (D : va_G) (y : Nat → ClassId) (yM : MethodName) (ws : List Cond) (rm : Room) (av : List Value) (sz : Nat) (P : Prop) (k : Nat) : Prop := vx_Met l yM ws rm (va_Pc av (Bx D y [] sz)) (va_Qv (fun (_ : Unit) => ¬ P) (fun _ t => Bp D y [] t) (aW [] sz)) (vx_X (fun (_ : Unit) => P) (fun E _ _ => E = xnm k) (aW [] sz)) 1 6 (aW [] sz)
/-- a call of the face: where cd is 0 it answers F and its world becomes W1 u for some u, else it throws the exception cd and its world stays -/
abbrev XI {S : Type} (l : Launch) (D : va_G) (y : Nat → ClassId) (yM : MethodName) (ws : List Cond) (rm : Room) (mc ms : Nat) (av : List Value) (W0 : va_W) (sz : Nat) (cd : Nat) (F : Int32) (W1 : S → va_W) : Prop := vx_Met l yM ws rm (va_Pc av (Bx D y W0 sz)) (va_Qi (fun r (_ : S) => cd = 0 ∧ r = F) (fun u t => Bp D y (W1 u) t) (aW W0 sz)) (vx_X (fun (_ : Unit) => ¬ cd = 0) (fun E _ t => E = xnm cd ∧ va_P D vwCl W0 t.heap) (aW W0 sz)) mc ms (aW W0 sz)
theorem mX {l : Launch} {D : va_G} {y : Nat → ClassId} {yM : MethodName} {ws ws' : List Cond} {rm : Room} {av : List Value} {W0 : va_W} {sz mc ms : Nat} (Qf : (Nat → Prop) → Array Value → State → Outcome → State → Prop) (Xf : (Nat → Prop) → String → State → State → Prop) {cc : ByteArray} {maxL : Nat} {ret : Option FieldType} {C : String} (hy : plainName yM.cls = true) (hC : yM.cls = C) (hw : ws = Cond.code yM cc maxL ret :: ws') (hlen : (lg_sl av).length ≤ maxL)
    (body : ∀ (p : Program) (e : Env) (s : State) (m : MethodId) (a : Array Value) (below : List Frame) (meth : Method) (c : Code) (ls : Array Slot) (A : Nat → Prop) (Q : State → Prop), Q = vx_MQ below (Qf A) (Xf A) a s mc ms A → s.heap.size = sz → p.tables.exec = Jvm.exec → c.code = cc → meth.sig.returnType = ret → (∀ w ∈ ws, w.before a s = true) → s.vm.findClass C = some m.cls → meth.locks = false → (∀ x ∈ c.exceptionTable.toList, False) → c.maxLocals = maxL → va_P D vwCl W0 s.heap → va_K D vwCl (tyL y) s → NW s → EXW s → SX A s s.heap → aD A (W0.map Prod.fst) → (∀ q : Nat, s.heap.size ≤ q → A q) → va_S A s.heap s.heap [] → lv_has ls maxL (lv_args 0 av) →
      W p l e rm s m a below meth c s.heap [] 0 0 Q (F0 m 0 ls [])) : vx_Met l yM ws rm (va_Pc av (Bx D y W0 sz)) (Qf (aW W0 sz)) (Xf (aW W0 sz)) mc ms (aW W0 sz) := by
  refine vx_ofW (cc := cc) (maxL := maxL) (ret := ret) hy hw ?_
  intro p e s m args below meth c s₁ B hml htab hv
  obtain ⟨ha, ⟨hsz, ⟨hP, hK, hN⟩, hD⟩, hE, hX⟩ := hv
  have hl := lv_entry av (n := maxL) hlen
  have hb := body p e s m args below meth c ((lg_sl av ++ List.replicate (maxL - (lg_sl av).length) Slot.unset).toArray) (aW W0 sz) _ rfl hsz B.exec B.bytes B.returns (atoms_spec (ws := ws) B.pre) (by rw [← hC]; exact findClass_of_methodNamed B.named) B.notSynchronized htab hml hP hK hN hE hX (aD_self sz hD) (fun q h => Or.inr (by rw [← hsz]; exact h)) va_S.rf hl
  subst ha
  rw [lg_entry_eq]
  exact hb
theorem P_keep {D : va_G} {cl : List vw_C} {W0 : va_W} {H H1 : Heap} (hP : va_P D cl W0 H) (hk : ∀ q : Nat, q < H.size → ¬ aA [] H.size q → H1[q]? = H[q]?) : va_P D cl W0 H1 := fr_P (lc := []) hP hk (P_nil D cl H1) (fun _ h => Or.inr ⟨h, List.not_mem_nil⟩)
section XCALLS
variable {p : Program} {l : Launch} {e : Env} {R : Room} {s : State} {m : MethodId} {args : Array Value} {below : List Frame} {meth : Method} {c : Code} {H : Heap} {locs : List Loc} {cells slots : Nat} {Q : State → Prop}
variable {pc : Nat} {ls : Array Slot} {rest st0 As : List Value} {cc : ByteArray} {nL index maxL n : Nat} {ret : Option FieldType} {own C : String} {Ts ws : List Cond} {yM : MethodName} {bytes : ByteArray} {rm : Room} {b : Nat}
variable {D : va_G} {y : Nat → ClassId} {wc W0 : va_W} {A : Nat → Prop}
theorem bx_at {lc : List Nat} (hwc : wc.map Prod.fst = lc) (hK : va_K D vwCl (tyL y) s) (hN : NW s) (hE : EXW s) (hX : SX A s s.heap) (hS : va_S A s.heap H locs) (hP : va_P D vwCl wc H) (hD : aD A lc) (hs : ∀ q, aA lc H.size q → A q) (U : State) (hU : U.heap = H) (hW : s.WarmedH U.vm) : Bx D y wc H.size U :=
  ⟨⟨by rw [hU], bp_at hK hN hP U hU hW, by rw [hwc]; exact aD_mono hD (fun _ _ _ => trivial)⟩, hE.warm hW, by rw [hU]; exact ((hX.kept hS.2.1).narrow (by subst hwc; exact hs)).moved hW.alike⟩
theorem cX_S {P : Prop} {k : Nat} (S : CallFix p m c cc nL s args Ts own) (hM : XV l D y yM ws rm As H.size P k) (cw : CallB R s args own index yM bytes maxL ret ws rm 1 6 n ∧ (Cond.static yM).before args s = true) (hK : va_K D vwCl (tyL y) s) (hN : NW s) (hE : EXW s) (hX : SX A s s.heap) (hP : va_P D vwCl W0 H) (hS : va_S A s.heap H locs) (hA : ∀ q, s.heap.size ≤ q → A q)
    (hn : As.length = n) (hsize : ls.size = nL) (hstack : st0 = As.reverse ++ rest) (hW : (rest.map fun v => v.category).sum ≤ 8) (hdg : decode cc pc = .ok (.invokestatic index, 3)) (hf : cells + 1 ≤ R.cells ∧ slots + 6 ≤ R.slots)
    (kx : P → ∀ (ce : Cell) (q9 : Addr) (H1 : Heap) (locs1 : List Loc), va_P D vwCl W0 H1 → va_S A s.heap H1 locs1 → H1[q9]? = some ce → ce.vm = .none → s.vm.findClass (xnm k) = some ce.cls → vx_W p l e R s m args below meth c H1 locs1 (cells + 1) (slots + 6) Q (F0 m pc ls rest) q9)
    (kk : ¬ P → ∀ (H1 : Heap) (locs1 : List Loc), va_P D vwCl W0 H1 → va_S A s.heap H1 locs1 → W p l e R s m args below meth c H1 locs1 (cells + 1) (slots + 6) Q (F0 m (pc + 3) ls rest)) : W p l e R s m args below meth c H locs cells slots Q (F0 m pc ls st0) := by
  have hs : ∀ q, aA [] H.size q → A q := fun q h => h.elim (fun h => by cases h) (fun h => hA q (Nat.le_trans hS.1 h))
  have hDn : aD A [] := ⟨fun i j a h => by simp at h, fun k a h => by simp at h⟩
  exact vx_callv (vx_runS S hM cw ⟨Bx.blind, fun U hU hW => ⟨rfl, bx_at (wc := []) rfl hK hN hE hX hS (P_nil D vwCl H) hDn hs U hU hW⟩⟩ rfl hn hsize hstack (lv_room hW) hdg hf) hS (fun q _ h => hs q h) hs (fun q _ h => hs q h)
    (fun E ce q9 u t H1 locs1 ht hvm hp hB hz hk hS1 h1 h2 h3 => kx hp ce q9 H1 locs1 (P_keep hP hk) hS1 h1 h2 (by rw [← hB]; exact h3))
    (fun u t H1 locs1 ht hvm hp hB hz hk hS1 => kk hp H1 locs1 (P_keep hP hk) hS1)
theorem cX_V {S : Type} {cd mc ms : Nat} {F : Int32} {W1 : S → va_W} (S0 : CallFix p m c cc nL s args Ts own) (hM : XI l D y yM ws rm mc ms (.ref b :: As) wc H.size cd F W1) (cw : CallW R s args own C index yM bytes maxL ret ws rm mc ms n) (hK : va_K D vwCl (tyL y) s) (hN : NW s) (hE : EXW s) (hX : SX A s s.heap) (hP : va_P D vwCl wc H) (hDc : aD A (wc.map Prod.fst)) (hS : va_S A s.heap H locs) (hA : ∀ q, s.heap.size ≤ q → A q) (hrecv : ∃ cell : Cell, H[b]? = some cell ∧ cell.vm.isStatics = false ∧ s.vm.findClass C = some cell.cls)
    (hn : As.length = n) (hsize : ls.size = nL) (hstack : st0 = As.reverse ++ .ref b :: rest) (hW : (rest.map fun v => v.category).sum ≤ 8) (hdg : decode cc pc = .ok (.invokevirtual index, 3)) (hf : cells + mc ≤ R.cells ∧ slots + ms ≤ R.slots)
    (kx : ¬ cd = 0 → ∀ (ce : Cell) (q9 : Addr) (H1 : Heap) (locs1 : List Loc), va_P D vwCl wc H1 → (∀ q : Nat, q < H.size → ¬ aW wc H.size q → H1[q]? = H[q]?) → va_S A s.heap H1 locs1 → H1[q9]? = some ce → ce.vm = .none → s.vm.findClass (xnm cd) = some ce.cls → vx_W p l e R s m args below meth c H1 locs1 (cells + mc) (slots + ms) Q (F0 m pc ls rest) q9)
    (kk : cd = 0 → ∀ (u : S) (H1 : Heap) (locs1 : List Loc), va_P D vwCl (W1 u) H1 → (∀ q : Nat, q < H.size → ¬ aW wc H.size q → H1[q]? = H[q]?) → va_S A s.heap H1 locs1 → W p l e R s m args below meth c H1 locs1 (cells + mc) (slots + ms) Q (F0 m (pc + 3) ls (.int F :: rest))) : W p l e R s m args below meth c H locs cells slots Q (F0 m pc ls st0) := by
  have hs : ∀ q, aW wc H.size q → A q := aW_sub hDc hS hA (fun _ h => h)
  exact vx_calli (vx_runV S0 hM cw ⟨Bx.blind, hrecv, fun U hU hW => ⟨rfl, bx_at rfl hK hN hE hX hS hP hDc hs U hU hW⟩⟩ rfl hn hsize hstack (lv_room hW) hdg hf) hS (fun q _ h => hs q h) hs (fun q _ h => hs q h)
    (fun E ce q9 u t H1 locs1 ht hvm hp hB hz hk hS1 h1 h2 h3 => kx hp ce q9 H1 locs1 (by rw [← ht]; exact hB.2) hk hS1 h1 h2 (by rw [← hB.1]; exact h3))
    (fun r u t H1 locs1 ht hvm hp hB hz hk hS1 => by rw [hp.2]; exact kk hp.1 u H1 locs1 (by rw [← ht]; exact hB.1) hk hS1)
end XCALLS
/-- what the three checks refuse -/
abbrev ciP (v n : Int32) : Prop := v < 0 ∨ n ≤ v
abbrev caP (v a b : Int32) : Prop := v < a ∨ b < v
/-! ===== CoracleMakers: its world ===== -/
/-- the object and its two tables -/
def cmE (y : Nat → ClassId) (ac : Nat → Nat) (n0 r0 : Nat) (K : Nat → Nat → Int32) : Nat → va_E := fun j => match j with
  | 0 => .inr (3, [.ref (ac 1), .ref (ac 2), .ref n0, .ref r0])
  | 1 => .inl (y 0, 8, .inl (K 1))
  | _ => .inl (y 0, 8, .inl (K 2))
abbrev cmW (y : Nat → ClassId) (ac : Nat → Nat) (n0 r0 : Nat) (K : Nat → Nat → Int32) : va_W := wf 3 ac (cmE y ac n0 r0 K)
abbrev cmA (y : Nat → ClassId) (ac an ar : Nat → Nat) (K V U : Nat → Nat → Int32) : va_W := cmW y ac (an 0) (ar 0) K ++ (rvW y an V ++ rvW y ar U)
theorem cm_set {y : Nat → ClassId} {ac : Nat → Nat} {n0 r0 : Nat} {K : Nat → Nat → Int32} {k : Nat} (w : Nat → Int32) {e : va_E} (hk : k = 1 ∨ k = 2) (he : cmE y ac n0 r0 (va_up K k w) k = e) : (cmW y ac n0 r0 K).set k (ac k, e) = cmW y ac n0 r0 (va_up K k w) := wf_set (fun j hj => by
  by_cases h : j = k
  · subst h; rw [if_pos rfl, he]
  · rw [if_neg h]
    rcases (show j = 0 ∨ j = 1 ∨ j = 2 by omega) with h1 | h1 | h1 <;> subst h1
    · rfl
    · show (Sum.inl (y 0, 8, Sum.inl (va_up K k w 1)) : va_E) = Sum.inl (y 0, 8, Sum.inl (K 1))
      rw [va_up_ne K w h]
    · show (Sum.inl (y 0, 8, Sum.inl (va_up K k w 2)) : va_E) = Sum.inl (y 0, 8, Sum.inl (K 2))
      rw [va_up_ne K w h])
theorem cm_fst (y : Nat → ClassId) (ac : Nat → Nat) (n0 r0 : Nat) (K : Nat → Nat → Int32) : (cmW y ac n0 r0 K).map Prod.fst = wa 3 ac := wf_fst 3 ac _
theorem cm2_fst (y : Nat → ClassId) (ac ad : Nat → Nat) (n0 r0 : Nat) (K V : Nat → Nat → Int32) : (cmW y ac n0 r0 K ++ rvW y ad V).map Prod.fst = wa 3 ac ++ wa 14 ad := by rw [List.map_append, cm_fst, rv_fst]
theorem cmA_fst (y : Nat → ClassId) (ac an ar : Nat → Nat) (K V U : Nat → Nat → Int32) : (cmA y ac an ar K V U).map Prod.fst = wa 3 ac ++ (wa 14 an ++ wa 14 ar) := by rw [List.map_append, List.map_append, cm_fst, rv_fst, rv_fst]
theorem P_xz {D : va_G} {cl : List vw_C} {x w z : va_W} {H : Heap} (h : va_P D cl (x ++ (w ++ z)) H) : va_P D cl (x ++ z) H := va_P.app (P_l h) (P_r (P_r h))
theorem P_xw {D : va_G} {cl : List vw_C} {x w z : va_W} {H : Heap} (h : va_P D cl (x ++ (w ++ z)) H) : va_P D cl (x ++ w) H := va_P.app (P_l h) (P_l (P_r h))
theorem aD_xw {A : Nat → Prop} {x w z : List Nat} (h : aD A (x ++ (w ++ z))) : aD A (x ++ w) := aD_l (y := z) (by rw [List.append_assoc]; exact h)
/-- the callee had one or two of three parts -/
theorem fr_xyz {D : va_G} {cl : List vw_C} {x w z x' w' z' : va_W} {lc : List Nat} {H H1 : Heap} (hP : va_P D cl (x ++ (w ++ z)) H) (hk : ∀ q : Nat, q < H.size → ¬ aA lc H.size q → H1[q]? = H[q]?) (hx : va_P D cl x' H1 ∨ (x' = x ∧ ∀ q, q ∈ x → q.1 ∉ lc)) (hw : va_P D cl w' H1 ∨ (w' = w ∧ ∀ q, q ∈ w → q.1 ∉ lc)) (hz : va_P D cl z' H1 ∨ (z' = z ∧ ∀ q, q ∈ z → q.1 ∉ lc)) : va_P D cl (x' ++ (w' ++ z')) H1 := by
  have key : ∀ {a a' : va_W}, va_P D cl a H → (va_P D cl a' H1 ∨ (a' = a ∧ ∀ q, q ∈ a → q.1 ∉ lc)) → va_P D cl a' H1 := fun ha h => h.elim id (fun h => by
    obtain ⟨rfl, h2⟩ := h
    exact fr_P ha hk (P_nil D cl H1) (fun q hq => Or.inr ⟨hq, h2 q hq⟩))
  exact va_P.app (key (P_l hP) hx) (va_P.app (key (P_l (P_r hP)) hw) (key (P_r (P_r hP)) hz))
theorem fr_w {D : va_G} {cl : List vw_C} {x w z w' : va_W} {A : Nat → Prop} {H H1 : Heap} (hP : va_P D cl (x ++ (w ++ z)) H) (hD : aD A (x.map Prod.fst ++ (w.map Prod.fst ++ z.map Prod.fst))) (hk : ∀ q : Nat, q < H.size → ¬ aA (w.map Prod.fst) H.size q → H1[q]? = H[q]?) (hP1 : va_P D cl w' H1) : va_P D cl (x ++ (w' ++ z)) H1 :=
  fr_xyz hP hk (Or.inr ⟨rfl, fun q hq z => aD_ne hD (in_fst hq) (List.mem_append_left _ z) rfl⟩) (Or.inl hP1) (Or.inr ⟨rfl, fun q hq z => aD_ne (aD_r hD) z (in_fst hq) rfl⟩)
theorem fr_xw {D : va_G} {cl : List vw_C} {x w z x' w' : va_W} {A : Nat → Prop} {H H1 : Heap} (hP : va_P D cl (x ++ (w ++ z)) H) (hD : aD A (x.map Prod.fst ++ (w.map Prod.fst ++ z.map Prod.fst))) (hk : ∀ q : Nat, q < H.size → ¬ aA (x.map Prod.fst ++ w.map Prod.fst) H.size q → H1[q]? = H[q]?) (hP1 : va_P D cl (x' ++ w') H1) : va_P D cl (x' ++ (w' ++ z)) H1 :=
  fr_xyz hP hk (Or.inl (P_l hP1)) (Or.inl (P_r hP1)) (Or.inr ⟨rfl, fun q hq z => (List.mem_append.mp z).elim (fun z => aD_ne hD z (List.mem_append_right _ (in_fst hq)) rfl) (fun z => aD_ne (aD_r hD) z (in_fst hq) rfl)⟩)
theorem fr_xz {D : va_G} {cl : List vw_C} {x w z x' z' : va_W} {A : Nat → Prop} {H H1 : Heap} (hP : va_P D cl (x ++ (w ++ z)) H) (hD : aD A (x.map Prod.fst ++ (w.map Prod.fst ++ z.map Prod.fst))) (hk : ∀ q : Nat, q < H.size → ¬ aA (x.map Prod.fst ++ z.map Prod.fst) H.size q → H1[q]? = H[q]?) (hP1 : va_P D cl (x' ++ z') H1) : va_P D cl (x' ++ (w ++ z')) H1 :=
  fr_xyz hP hk (Or.inl (P_l hP1)) (Or.inr ⟨rfl, fun q hq z => (List.mem_append.mp z).elim (fun z => aD_ne hD z (List.mem_append_left _ (in_fst hq)) rfl) (fun z => aD_ne (aD_r hD) (in_fst hq) z rfl)⟩) (Or.inl (P_r hP1))
theorem F_of {A : Nat → Prop} {s t : State} {H : Heap} {locs : List Loc} (h : va_S A s.heap H locs) (h1 : H.size ≤ t.heap.size) (h2 : ∀ q : Nat, q < H.size → t.heap[q]? = H[q]?) : va_F A s t := ⟨Nat.le_trans h.1 h1, fun q hq hA => by rw [h2 q (Nat.lt_of_lt_of_le hq h.1)]; exact h.2.1 q hq hA⟩
