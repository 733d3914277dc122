/-! ===== the law's calls, one after another ===== -/
abbrev lawW (y : Nat → ClassId) (ao ac an ar am bs ba : Nat → Nat) (v : FO) (K V U F S X : FV) : va_W := lwW y ao ac an ar v K V U ++ moA y am bs ba F S X
abbrev lawL (ao ac an ar am bs ba : Nat → Nat) : List Nat := (wa 1 ao ++ (wa 3 ac ++ (wa 14 an ++ wa 14 ar))) ++ (wa 9 am ++ (wa 9 bs ++ wa 9 ba))
theorem lawW_fst (y : Nat → ClassId) (ao ac an ar am bs ba : Nat → Nat) (v : FO) (K V U F S X : FV) : (lawW y ao ac an ar am bs ba v K V U F S X).map Prod.fst = lawL ao ac an ar am bs ba := by rw [List.map_append, lwW_fst, moA_fst]
def LCx (p : Program) (l : Launch) (s : State) (m : MethodId) (meth : Method) (c : Code) (b L : Nat) (xs : Nat → Int32) (D : va_G) (y : Nat → ClassId) (ao ac an ar am bs ba : Nat → Nat) : Prop :=
  p.tables.exec = Jvm.exec ∧ c.code = code ∧ meth.sig.returnType = ret ∧ c.maxLocals = 9 ∧ s.vm.findClass RL = some m.cls ∧ (∀ w ∈ wsL_law, w.before #[Value.ref b] s = true) ∧ va_X b L xs s s.heap ∧ b < s.heap.size ∧ meth.locks = false ∧ va_K D vwCl (tyL y) s ∧ NW s ∧ EXW s ∧ SX (lwA s) s s.heap ∧ aD (lwA s) (lawL ao ac an ar am bs ba) ∧ l.stackTraces = false
def LGo (p : Program) (l : Launch) (e : Env) (s : State) (m : MethodId) (below : List Frame) (meth : Method) (c : Code) (b : Nat) (Q : State → Prop) (D : va_G) (y : Nat → ClassId) (ao ac an ar am bs ba : Nat → Nat) (pc i B cells slots : Nat) : Prop :=
  ∀ (v : FO) (K V U F S X : FV) (H : Heap) (locs : List Loc) (ls : Array Slot), RI B K V (th F) S → va_P D vwCl (lawW y ao ac an ar am bs ba v K V U F S X) H → va_S (lwA s) s.heap H locs → lv_has ls 9 [(0, .ref b), (1, .ref (ac 0)), (2, .ref (am 0)), (3, .ref (ao 0)), (4, .int (nI i))] →
    W p l e room_1 s m #[Value.ref b] below meth c H locs cells slots Q (F0 m pc ls [])
theorem md_u {D : va_G} {y : Nat → ClassId} {am bs ba : Nat → Nat} {F S X F1 S1 u : FV} {cm : Nat} {H : Heap} (w2 : cm = 0 → va_P D vwCl (moA y am bs ba F1 S1 u) H) (w3 : ¬ cm = 0 → va_P D vwCl (moA y am bs ba (vU (th F) 0 0 (nI cm)) S X) H) (h0 : cm = 0 → F1 0 0 = 0) : ∃ F2 S2 X2 : FV, va_P D vwCl (moA y am bs ba F2 S2 X2) H ∧ F2 0 0 = nI cm ∧ (cm = 0 → F2 = F1 ∧ S2 = S1) ∧ (¬ cm = 0 → F2 = vU (th F) 0 0 (nI cm) ∧ S2 = S) := by
  by_cases z : cm = 0
  · exact ⟨F1, S1, u, w2 z, by rw [z, nI_0]; exact h0 z, fun _ => ⟨rfl, rfl⟩, fun h => absurd z h⟩
  · exact ⟨_, S, X, w3 z, vU_eq _ _ _ _, fun h => absurd h z, fun _ => ⟨rfl, rfl⟩⟩
theorem cl_fin {B k cd cm : Nat} {a b : Int32} {K V K1 V1 F S F1 S1 K2 V2 F2 S2 : FV} (R : RI B K V (th F) S) (h : Cl k cd cm a b (RI (B + 40) K1 V1 F1 S1 ∧ F1 0 0 = 0)) (q1 : cd = 0 → K2 = K1 ∧ V2 = V1) (q2 : ¬ cd = 0 → K2 = K ∧ V2 = V) (f1 : cm = 0 → F2 = F1 ∧ S2 = S1) (f2 : ¬ cm = 0 → F2 = vU (th F) 0 0 (nI cm) ∧ S2 = S) : RI (B + 40) K2 V2 (th F2) S2 := by
  by_cases z : cd = 0
  · obtain ⟨e1, e2⟩ := q1 z
    obtain ⟨e3, e4⟩ := f1 (h.2.1.mp z)
    rw [e1, e2, e3, e4]
    exact RI_th (h.2.2 z).2.1
  · obtain ⟨e1, e2⟩ := q2 z
    obtain ⟨e3, e4⟩ := f2 (fun y => z (h.2.1.mpr y))
    rw [e1, e2, e3, e4, th_fail]
    exact RI_up R (by omega)
theorem cl_z {k cd cm : Nat} {a b : Int32} {P : Prop} (h : Cl k cd cm a b P) (h3 : cm ≤ 3) (z : nI k = 0) : cd = 0 ∧ cm = 0 := by
  have e : cm = 0 := by
    rw [h.1, ← nI_0] at z
    exact (nI_eq (by omega) (by decide)).mp z
  exact ⟨h.2.1.mpr e, e⟩
theorem lg_s (x : Int64) : lg_cmp x x = 0 := by simp [lg_cmp]
theorem nI_p1 (i : Nat) : nI i + 1 = nI (i + 1) := nI_1 i
theorem nI_p2 (i : Nat) : nI i + 2 = nI (i + 2) := by rw [← nI_l2, nI_add]
theorem nI_p3 (i : Nat) : nI i + 3 = nI (i + 3) := by rw [← nI_l3, nI_add]
