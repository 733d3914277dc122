/-! ===== the law's own methods: their worlds, heads and calls ===== -/
/-- the row of longs into which the law's methods put an answer -/
def ouE (y : Nat → ClassId) (v : Nat → Int64) : Nat → va_E := fun _ => .inl (y 2, 1, .inr (.inl v))
abbrev ouW (y : Nat → ClassId) (ao : Nat → Nat) (v : Nat → Int64) : va_W := wf 1 ao (ouE y v)
theorem ou_fst (y : Nat → ClassId) (ao : Nat → Nat) (v : Nat → Int64) : (ouW y ao v).map Prod.fst = wa 1 ao := wf_fst 1 ao _
theorem ou_set (y : Nat → ClassId) (ao : Nat → Nat) (v w : Nat → Int64) : (ouW y ao v).set 0 (ao 0, .inl (y 2, 1, .inr (.inl w))) = ouW y ao w := wf_set (fun j hj => by rw [if_pos (show j = 0 by omega)]; rfl)
abbrev FO : Type := Nat → Int64
abbrev lwW (y : Nat → ClassId) (ao ac an ar : Nat → Nat) (v : FO) (K V U : FV) : va_W := ouW y ao v ++ cmA y ac an ar K V U
theorem lwW_fst (y : Nat → ClassId) (ao ac an ar : Nat → Nat) (v : FO) (K V U : FV) : (lwW y ao ac an ar v K V U).map Prod.fst = wa 1 ao ++ (wa 3 ac ++ (wa 14 an ++ wa 14 ar)) := by rw [List.map_append, ou_fst, cmA_fst]
/-- a method of the law: it answers k; where cd is 0 the answer F lies in the row, and the class's value is K1, V1; else nothing has changed -/
abbrev LW (l : Launch) (D : va_G) (y : Nat → ClassId) (yM : MethodName) (ws : List Cond) (rm : Room) (mc ms : Nat) (av : List Value) (ao ac an ar : Nat → Nat) (v : FO) (K V U : FV) (sz cd k : Nat) (F : Int32) (K1 V1 : FV) : Prop :=
  vx_Met l yM ws rm (va_Pc av (Bx D y (lwW y ao ac an ar v K V U) sz)) (va_Qi (fun r (u : FO × FV × FV × FV) => r = nI k ∧ (cd = 0 → u.1 0 = F.toInt64 ∧ u.2.1 = K1 ∧ u.2.2.1 = V1) ∧ (¬ cd = 0 → u.2.1 = K ∧ u.2.2.1 = V)) (fun u t => Bp D y (lwW y ao ac an ar u.1 u.2.1 u.2.2.1 u.2.2.2) t) (aW (lwW y ao ac an ar v K V U) sz)) (vx_X (fun (_ : Unit) => False) (fun _ _ _ => True) (aW (lwW y ao ac an ar v K V U) sz)) mc ms (aW (lwW y ao ac an ar v K V U) sz)
theorem mXH {l : Launch} {D : va_G} {y : Nat → ClassId} {yM : MethodName} {ws ws' : List Cond} {rm : Room} {av : List Value} {W0 : va_W} {sz mc ms : Nat} (Qf : (Nat → Prop) → Array Value → State → Outcome → State → Prop) (Xf : (Nat → Prop) → String → State → State → Prop) {cc : ByteArray} {maxL : Nat} {ret : Option FieldType} {hh : List (Nat × Nat × Nat × Nat)} {C : String} (hy : plainName yM.cls = true) (hC : yM.cls = C) (hw : ws = Cond.codeWith yM cc maxL ret hh :: ws') (hlen : (lg_sl av).length ≤ maxL)
    (body : ∀ (p : Program) (e : Env) (s : State) (m : MethodId) (a : Array Value) (below : List Frame) (meth : Method) (c : Code) (ls : Array Slot) (A : Nat → Prop) (Q : State → Prop), Q = vx_MQ below (Qf A) (Xf A) a s mc ms A → s.heap.size = sz → p.tables.exec = Jvm.exec → c.code = cc → meth.sig.returnType = ret → (∀ w ∈ ws, w.before a s = true) → s.vm.findClass C = some m.cls → meth.locks = false → c.exceptionTable.toList = tableOf hh → c.maxLocals = maxL → va_P D vwCl W0 s.heap → va_K D vwCl (tyL y) s → NW s → EXW s → SX A s s.heap → aD A (W0.map Prod.fst) → (∀ q : Nat, s.heap.size ≤ q → A q) → va_S A s.heap s.heap [] → lv_has ls maxL (lv_args 0 av) →
      W p l e rm s m a below meth c s.heap [] 0 0 Q (F0 m 0 ls [])) : vx_Met l yM ws rm (va_Pc av (Bx D y W0 sz)) (Qf (aW W0 sz)) (Xf (aW W0 sz)) mc ms (aW W0 sz) := by
  refine vx_ofWH (cc := cc) (maxL := maxL) (ret := ret) (hh := hh) hy hw ?_
  intro p e s m args below meth c s₁ B hml hv
  obtain ⟨ha, ⟨hsz, ⟨hP, hK, hN⟩, hD⟩, hE, hX⟩ := hv
  have htab : c.exceptionTable.toList = tableOf hh := vx_table (x := yM) B (atoms_spec (ws := ws) B.pre _ (by rw [hw]; exact List.mem_cons_self))
  have hl := lv_entry av (n := maxL) hlen
  have hb := body p e s m args below meth c ((lg_sl av ++ List.replicate (maxL - (lg_sl av).length) Slot.unset).toArray) (aW W0 sz) _ rfl hsz B.exec B.bytes B.returns (atoms_spec (ws := ws) B.pre) (by rw [← hC]; exact findClass_of_methodNamed B.named) B.notSynchronized htab hml hP hK hN hE hX (aD_self sz hD) (fun q h => Or.inr (by rw [← hsz]; exact h)) va_S.rf hl
  subst ha
  rw [lg_entry_eq]
  exact hb
section LCALLS
variable {p : Program} {l : Launch} {e : Env} {R : Room} {s : State} {m : MethodId} {args : Array Value} {below : List Frame} {meth : Method} {c : Code} {H : Heap} {locs : List Loc} {cells slots : Nat} {Q : State → Prop}
variable {pc : Nat} {ls : Array Slot} {rest st0 As : List Value} {cc : ByteArray} {nL index maxL n : Nat} {ret : Option FieldType} {hh : List (Nat × Nat × Nat × Nat)} {own : String} {Ts ws : List Cond} {yM : MethodName} {bytes : ByteArray} {rm : Room}
variable {D : va_G} {y : Nat → ClassId} {A : Nat → Prop}
theorem cLW {ao ac an ar : Nat → Nat} {v : FO} {K V U K1 V1 : FV} {cd k mc ms : Nat} {F : Int32} (S0 : CallFix p m c cc nL s args Ts own) (hM : LW l D y yM ws rm mc ms As ao ac an ar v K V U H.size cd k F K1 V1) (cw : vx_CSW R s args own index yM bytes maxL ret hh ws rm mc ms n) (hK : va_K D vwCl (tyL y) s) (hN : NW s) (hE : EXW s) (hX : SX A s s.heap) (hP : va_P D vwCl (lwW y ao ac an ar v K V U) H) (hDc : aD A ((lwW y ao ac an ar v K V U).map Prod.fst)) (hS : va_S A s.heap H locs) (hA : ∀ q, s.heap.size ≤ q → A q)
    (hn : As.length = n) (hsize : ls.size = nL) (hstack : st0 = As.reverse ++ rest) (hW : (rest.map fun v => v.category).sum ≤ 8) (hdg : decode cc pc = .ok (.invokestatic index, 3)) (hf : cells + mc ≤ R.cells ∧ slots + ms ≤ R.slots)
    (kk : ∀ (v2 : FO) (K2 V2 U2 : FV) (H1 : Heap) (locs1 : List Loc), (cd = 0 → v2 0 = F.toInt64 ∧ K2 = K1 ∧ V2 = V1) → (¬ cd = 0 → K2 = K ∧ V2 = V) → va_P D vwCl (lwW y ao ac an ar v2 K2 V2 U2) H1 → (∀ q : Nat, q < H.size → ¬ aW (lwW y ao ac an ar v K V U) H.size q → H1[q]? = H[q]?) → va_S A s.heap H1 locs1 → W p l e R s m args below meth c H1 locs1 (cells + mc) (slots + ms) Q (F0 m (pc + 3) ls (.int (nI k) :: rest))) : W p l e R s m args below meth c H locs cells slots Q (F0 m pc ls st0) := by
  have hs : ∀ q, aW (lwW y ao ac an ar v K V U) H.size q → A q := aW_sub hDc hS hA (fun _ h => h)
  exact vx_calli (vx_runSX S0 hM cw ⟨Bx.blind, fun U9 hU hW => ⟨rfl, bx_at rfl hK hN hE hX hS hP hDc hs U9 hU hW⟩⟩ rfl hn hsize hstack (lv_room hW) hdg hf) hS (fun q _ h => hs q h) hs (fun q _ h => hs q h)
    (fun E ce q9 u t H1 locs1 ht hvm hp hB hz hk hS1 h1 h2 h3 => hp.elim)
    (fun r u t H1 locs1 ht hvm hp hB hz hk hS1 => by
      rw [hp.1]
      exact kk u.1 u.2.1 u.2.2.1 u.2.2.2 H1 locs1 hp.2.1 hp.2.2 (by rw [← ht]; exact hB.1) hk hS1)
end LCALLS
theorem nI_k0 : (0 : Int32) = nI 0 := by decide +kernel
theorem nI_k1 : (1 : Int32) = nI 1 := by decide +kernel
theorem nI_k2 : (2 : Int32) = nI 2 := by decide +kernel
theorem nI_k3 : (3 : Int32) = nI 3 := by decide +kernel
theorem vl_0 (v : FO) (x : Int64) : vp_updL v (Int32.toNatClampNeg 0) x 0 = x := if_pos rfl
