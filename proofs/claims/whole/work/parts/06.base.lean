/-! ===== worlds by number; what a call leaves as it was ===== -/
def wf (n : Nat) (ad : Nat → Nat) (f : Nat → va_E) : va_W := (List.range n).map (fun j => (ad j, f j))
def wa (n : Nat) (ad : Nat → Nat) : List Nat := (List.range n).map ad
theorem wf_get (n : Nat) (ad : Nat → Nat) (f : Nat → va_E) (k : Nat) : (wf n ad f)[k]? = if k < n then some (ad k, f k) else none := by
  by_cases h : k < n <;> simp [wf, h]
theorem wf_at {n : Nat} {ad : Nat → Nat} {f : Nat → va_E} {k : Nat} {e : va_E} (h : k < n) (he : f k = e) : (wf n ad f)[k]? = some (ad k, e) := by
  rw [wf_get, if_pos h, he]
theorem wf_len (n : Nat) (ad : Nat → Nat) (f : Nat → va_E) : (wf n ad f).length = n := by simp [wf]
theorem wf_fst (n : Nat) (ad : Nat → Nat) (f : Nat → va_E) : (wf n ad f).map Prod.fst = wa n ad := by simp [wf, wa, Function.comp_def]
theorem wf_set {n : Nat} {ad : Nat → Nat} {f g : Nat → va_E} {k : Nat} {e : va_E} (h : ∀ j, j < n → g j = if j = k then e else f j) : (wf n ad f).set k (ad k, e) = wf n ad g := by
  apply List.ext_getElem?
  intro i
  rw [List.getElem?_set, wf_get, wf_get, wf_len]
  by_cases hi : i < n
  · rw [if_pos hi, if_pos hi, h i hi]
    by_cases hk : k = i
    · subst hk; simp [hi]
    · have hk2 : ¬ i = k := fun z => hk z.symm
      simp [hk, hk2]
  · rw [if_neg hi, if_neg hi]
    by_cases hk : k = i
    · subst hk; simp [hi]
    · simp [hk]
theorem wf_cong {n : Nat} {ad ad' : Nat → Nat} {f g : Nat → va_E} (ha : ∀ j, j < n → ad j = ad' j) (h : ∀ j, j < n → f j = g j) : wf n ad f = wf n ad' g := by
  apply List.ext_getElem?
  intro i
  rw [wf_get, wf_get]
  by_cases hi : i < n
  · rw [if_pos hi, if_pos hi, ha i hi, h i hi]
  · rw [if_neg hi, if_neg hi]
/-- a list of addresses: apart, and of a kind -/
def aD (A : Nat → Prop) (l : List Nat) : Prop := (∀ (i j a : Nat), l[i]? = some a → l[j]? = some a → i = j) ∧ ∀ (k a : Nat), l[k]? = some a → A a
theorem aD_D {A : Nat → Prop} {l : List Nat} {ws : va_W} (h : aD A l) (hw : ws.map Prod.fst = l) : va_D A ws := by
  have key : ∀ (k : Nat) (q : Nat × va_E), ws[k]? = some q → l[k]? = some q.1 := fun k q hk => by rw [← hw, List.getElem?_map, hk]; rfl
  exact ⟨fun i j p q hi hj hpq => h.1 i j q.1 (by rw [← hpq]; exact key i p hi) (key j q hj), fun k q hk => h.2 k q.1 (key k q hk)⟩
theorem aD_of {A : Nat → Prop} {ws : va_W} (h : va_D A ws) : aD A (ws.map Prod.fst) := by
  have key : ∀ (k a : Nat), (ws.map Prod.fst)[k]? = some a → ∃ q, ws[k]? = some q ∧ q.1 = a := fun k a hk => by
    rw [List.getElem?_map] at hk
    cases hq : ws[k]? with
    | none => rw [hq] at hk; cases hk
    | some q => rw [hq] at hk; exact ⟨q, rfl, Option.some.inj hk⟩
  refine ⟨fun i j a hi hj => ?_, fun k a hk => ?_⟩
  · obtain ⟨p, h1, h2⟩ := key i a hi
    obtain ⟨q, h3, h4⟩ := key j a hj
    exact h.1 i j p q h1 h3 (h2.trans h4.symm)
  · obtain ⟨q, h1, h2⟩ := key k a hk
    rw [← h2]; exact h.2 k q h1
theorem aD_mono {A B : Nat → Prop} {l : List Nat} (h : aD A l) (hAB : ∀ q, q ∈ l → A q → B q) : aD B l := ⟨h.1, fun k a hk => hAB a (List.mem_of_getElem? hk) (h.2 k a hk)⟩
/-- a part of the list, by an index map -/
theorem aD_by {A : Nat → Prop} {l l' : List Nat} (h : aD A l) (g : Nat → Nat) (hg : ∀ k a, l'[k]? = some a → l[g k]? = some a) (hi : ∀ i j, i < l'.length → j < l'.length → g i = g j → i = j) : aD A l' := by
  refine ⟨fun i j a h1 h2 => hi i j (List.getElem?_eq_some_iff.mp h1).1 (List.getElem?_eq_some_iff.mp h2).1 (h.1 _ _ a (hg i a h1) (hg j a h2)), fun k a hk => h.2 _ a (hg k a hk)⟩
theorem aD_l {A : Nat → Prop} {x y : List Nat} (h : aD A (x ++ y)) : aD A x := by
  refine aD_by h id (fun k a hk => ?_) (fun i j _ _ h => h)
  have hl := (List.getElem?_eq_some_iff.mp hk).1
  show (x ++ y)[k]? = some a
  rw [List.getElem?_append_left hl]; exact hk
theorem aD_r {A : Nat → Prop} {x y : List Nat} (h : aD A (x ++ y)) : aD A y := by
  refine aD_by h (fun k => x.length + k) (fun k a hk => ?_) (fun i j _ _ h => by omega)
  show (x ++ y)[x.length + k]? = some a
  rw [List.getElem?_append_right (by omega)]
  rw [Nat.add_sub_cancel_left]; exact hk
theorem aD_ne {A : Nat → Prop} {x y : List Nat} (h : aD A (x ++ y)) {a b : Nat} (ha : a ∈ x) (hb : b ∈ y) : a ≠ b := by
  intro e
  subst e
  obtain ⟨i, hi⟩ := List.getElem?_of_mem ha
  obtain ⟨j, hj⟩ := List.getElem?_of_mem hb
  have hl := (List.getElem?_eq_some_iff.mp hi).1
  have h1 : (x ++ y)[i]? = some a := by rw [List.getElem?_append_left hl]; exact hi
  have h2 : (x ++ y)[x.length + j]? = some a := by rw [List.getElem?_append_right (by omega), Nat.add_sub_cancel_left]; exact hj
  have := h.1 _ _ a h1 h2
  omega
theorem aD_swap {A : Nat → Prop} {x y z : List Nat} (h : aD A (x ++ (y ++ z))) : aD A (x ++ z) := by
  refine aD_by h (fun k => if k < x.length then k else k + y.length) (fun k a hk => ?_) (fun i j _ _ h => ?_)
  · by_cases hl : k < x.length
    · rw [if_pos hl, List.getElem?_append_left hl]
      rw [List.getElem?_append_left hl] at hk
      exact hk
    · rw [if_neg hl, List.getElem?_append_right (by omega), List.getElem?_append_right (by omega)]
      rw [List.getElem?_append_right (by omega)] at hk
      rw [show k + y.length - x.length - y.length = k - x.length by omega]
      exact hk
  · split at h <;> split at h <;> omega
theorem aD_app {A : Nat → Prop} {x y : List Nat} (hx : aD A x) (hy : aD A y) (h : ∀ a b, a ∈ x → b ∈ y → a ≠ b) : aD A (x ++ y) := by
  have key : ∀ (k a : Nat), (x ++ y)[k]? = some a → (k < x.length ∧ x[k]? = some a) ∨ (x.length ≤ k ∧ y[k - x.length]? = some a) := by
    intro k a hk
    by_cases hl : k < x.length
    · rw [List.getElem?_append_left hl] at hk; exact Or.inl ⟨hl, hk⟩
    · rw [List.getElem?_append_right (by omega)] at hk; exact Or.inr ⟨by omega, hk⟩
  refine ⟨fun i j a hi hj => ?_, fun k a hk => ?_⟩
  · rcases key i a hi with ⟨l1, a1⟩ | ⟨l1, a1⟩ <;> rcases key j a hj with ⟨l2, a2⟩ | ⟨l2, a2⟩
    · exact hx.1 i j a a1 a2
    · exact absurd rfl (h a a (List.mem_of_getElem? a1) (List.mem_of_getElem? a2))
    · exact absurd rfl (h a a (List.mem_of_getElem? a2) (List.mem_of_getElem? a1))
    · have := hy.1 _ _ a a1 a2; omega
  · rcases key k a hk with ⟨-, a1⟩ | ⟨-, a1⟩
    · exact hx.2 _ a a1
    · exact hy.2 _ a a1
/-- what a method may change: its own world's addresses, and what is new -/
def aA (l : List Nat) (sz : Nat) : Nat → Prop := fun q => q ∈ l ∨ sz ≤ q
theorem aD_self {A : Nat → Prop} {l : List Nat} (sz : Nat) (h : aD A l) : aD (aA l sz) l := ⟨h.1, fun k a hk => Or.inl (List.mem_of_getElem? hk)⟩
/-- behind a call: each cell of the new world is the callee's, or none of its addresses -/
theorem fr_P {D : va_G} {cl : List vw_C} {ws w1 ws' : va_W} {lc : List Nat} {H H1 : Heap} (hP : va_P D cl ws H) (hk : ∀ q : Nat, q < H.size → ¬ aA lc H.size q → H1[q]? = H[q]?) (hP1 : va_P D cl w1 H1)
    (hb : ∀ q : Nat × va_E, q ∈ ws' → q ∈ w1 ∨ (q ∈ ws ∧ q.1 ∉ lc)) : va_P D cl ws' H1 := by
  intro k q hq
  rcases hb q (List.mem_of_getElem? hq) with h | ⟨h, hn⟩
  · obtain ⟨j, hj⟩ := List.getElem?_of_mem h
    exact hP1 j q hj
  · obtain ⟨i, hi⟩ := List.getElem?_of_mem h
    have hl := (hP i q hi).lt
    refine (hP i q hi).kept (hk q.1 hl (fun z => z.elim hn (fun z => ?_)))
    omega
theorem P_l {D : va_G} {cl : List vw_C} {x y : va_W} {H : Heap} (h : va_P D cl (x ++ y) H) : va_P D cl x H := by
  intro k q hk
  have hl := (List.getElem?_eq_some_iff.mp hk).1
  exact h k q (by rw [List.getElem?_append_left hl]; exact hk)
theorem P_r {D : va_G} {cl : List vw_C} {x y : va_W} {H : Heap} (h : va_P D cl (x ++ y) H) : va_P D cl y H := by
  intro k q hk
  exact h (x.length + k) q (by rw [List.getElem?_append_right (by omega), Nat.add_sub_cancel_left]; exact hk)
theorem P_m {D : va_G} {cl : List vw_C} {x : va_W} {q : Nat × va_E} {k : Nat} {H : Heap} (h : va_P D cl x H) (hk : x[k]? = some q) : va_P D cl [q] H := by
  intro j r hj
  match j, hj with
  | 0, hj => cases hj; exact h k q hk
  | j + 1, hj => simp at hj
theorem P_mem {D : va_G} {cl : List vw_C} {x y : va_W} {H : Heap} (h : va_P D cl x H) (hs : ∀ q, q ∈ y → q ∈ x) : va_P D cl y H := by
  intro k q hk
  obtain ⟨i, hi⟩ := List.getElem?_of_mem (hs q (List.mem_of_getElem? hk))
  exact h i q hi
theorem in_fst {x : va_W} {q : Nat × va_E} (h : q ∈ x) : q.1 ∈ x.map Prod.fst := List.mem_map.mpr ⟨q, h, rfl⟩
/-- the callee had the left part -/
theorem fr_l {D : va_G} {cl : List vw_C} {x y x' : va_W} {A : Nat → Prop} {H H1 : Heap} (hP : va_P D cl (x ++ y) H) (hD : aD A (x.map Prod.fst ++ y.map Prod.fst)) (hk : ∀ q : Nat, q < H.size → ¬ aA (x.map Prod.fst) H.size q → H1[q]? = H[q]?) (hP1 : va_P D cl x' H1) : va_P D cl (x' ++ y) H1 :=
  fr_P hP hk hP1 (fun q hq => (List.mem_append.mp hq).elim Or.inl (fun h => Or.inr ⟨List.mem_append_right _ h, fun z => aD_ne hD z (in_fst h) rfl⟩))
theorem fr_r {D : va_G} {cl : List vw_C} {x y y' : va_W} {A : Nat → Prop} {H H1 : Heap} (hP : va_P D cl (x ++ y) H) (hD : aD A (x.map Prod.fst ++ y.map Prod.fst)) (hk : ∀ q : Nat, q < H.size → ¬ aA (y.map Prod.fst) H.size q → H1[q]? = H[q]?) (hP1 : va_P D cl y' H1) : va_P D cl (x ++ y') H1 :=
  fr_P hP hk hP1 (fun q hq => (List.mem_append.mp hq).elim (fun h => Or.inr ⟨List.mem_append_left _ h, fun z => aD_ne hD (in_fst h) z rfl⟩) Or.inl)
/-- the callee had one cell, at the place k -/
theorem fr_1 {D : va_G} {cl : List vw_C} {x : va_W} {A : Nat → Prop} {H H1 : Heap} {k a : Nat} {e e' : va_E} (hP : va_P D cl x H) (hD : aD A (x.map Prod.fst)) (hx : x[k]? = some (a, e)) (hk : ∀ q : Nat, q < H.size → ¬ aA [a] H.size q → H1[q]? = H[q]?) (hP1 : va_P D cl [(a, e')] H1) : va_P D cl (x.set k (a, e')) H1 := by
  refine fr_P hP hk hP1 (fun q hq => ?_)
  obtain ⟨i, hi⟩ := List.getElem?_of_mem hq
  rw [List.getElem?_set] at hi
  by_cases hki : k = i
  · rw [if_pos hki] at hi
    by_cases hl : k < x.length
    · rw [if_pos (by omega)] at hi; cases hi; exact Or.inl (List.mem_singleton.mpr rfl)
    · rw [if_neg (by omega)] at hi; cases hi
  · rw [if_neg hki] at hi
    refine Or.inr ⟨List.mem_of_getElem? hi, fun z => ?_⟩
    have e1 : q.1 = a := List.mem_singleton.mp z
    exact hki (hD.1 k i a (by rw [List.getElem?_map, hx]; rfl) (by rw [List.getElem?_map, hi]; exact congrArg some e1))
theorem aD_1 {A : Nat → Prop} {l : List Nat} {k a : Nat} (h : aD A l) (hk : l[k]? = some a) : aD A [a] := by
  refine ⟨fun i j b hi hj => ?_, fun i b hi => ?_⟩
  · have h1 := (List.getElem?_eq_some_iff.mp hi).1
    have h2 := (List.getElem?_eq_some_iff.mp hj).1
    simp at h1 h2; omega
  · have := List.mem_of_getElem? hi
    rw [List.mem_singleton.mp this]; exact h.2 k a hk
/-! the words of nest mates, and which classes arrays have: of the tables alone -/
def nwF : List (String × Nat × String × String × String × String) := [("CoracleMakersModel", 74, "CoracleMakersModel$State", "coins", "I", "CoracleMakersModel"), ("CoracleMakersModel", 106, "CoracleMakersModel$State", "sold", "I", "CoracleMakersModel"), ("CoracleMakersModel", 50, "CoracleMakersModel$State", "salmon", "[I", "CoracleMakersModel"), ("CoracleMakersModel", 94, "CoracleMakersModel$State", "at", "[I", "CoracleMakersModel"), ("CoracleMakersModel", 87, "CoracleMakersModel$State", "goal", "[I", "CoracleMakersModel"), ("CoracleMakersModel", 77, "CoracleMakersModel$State", "tar", "[I", "CoracleMakersModel"), ("CoracleMakersModel", 100, "CoracleMakersModel$State", "water", "[I", "CoracleMakersModel"), ("CoracleMakersModel", 103, "CoracleMakersModel$State", "load", "[I", "CoracleMakersModel"), ("CoracleMakersModel", 90, "CoracleMakersModel$State", "hasSunk", "[Z", "CoracleMakersModel"), ("CoracleMakersModel", 116, "CoracleMakersModel$State", "caught", "[I", "CoracleMakersModel"), ("CoracleMakersModel$State", 86, "CoracleMakersModel", "drift", "[I", "CoracleMakersModel"), ("CoracleMakersModel$State", 123, "CoracleMakersModel", "run", "[I", "CoracleMakersModel"), ("CoracleMakersModel$State", 104, "CoracleMakersModel", "coracles", "I", "CoracleMakersModel"), ("CoracleMakersModel$State", 60, "CoracleMakersModel", "laths", "[I", "CoracleMakersModel"), ("CoracleMakersModel$State", 98, "CoracleMakersModel", "hide", "[I", "CoracleMakersModel"), ("CoracleMakersModel$State", 73, "CoracleMakersModel", "skill", "[I", "CoracleMakersModel"), ("CoracleMakersModel$State", 111, "CoracleMakersModel", "nets", "I", "CoracleMakersModel"), ("CoracleMakersModel$State", 63, "CoracleMakersModel", "first", "[I", "CoracleMakersModel"), ("CoracleMakersModel$State", 66, "CoracleMakersModel", "second", "[I", "CoracleMakersModel"), ("CoracleMakersModel$State", 129, "CoracleMakersModel", "store", "I", "CoracleMakersModel"), ("CoracleMakersModel$State", 140, "CoracleMakersModel", "hides", "[I", "CoracleMakersModel")]
def nwM : List (String × Nat × MethodName × String) := [("CoracleMakers$River", 34, yX0_init, "CoracleMakers"), ("CoracleMakers$River", 35, yX1_init, "CoracleMakers"), ("CoracleMakersModel", 40, yX4_init, "CoracleMakersModel")]
def NW (U : State) : Prop := (∀ q ∈ nwF, va_Nw (.fieldLinkNest q.1 q.2.1 q.2.2.1 q.2.2.2.1 q.2.2.2.2.1 q.2.2.2.2.2) U) ∧ (∀ q ∈ nwM, va_Nw (.methodLinkNest q.1 q.2.1 q.2.2.1 q.2.2.2) U) ∧ va_AO RX0 U ∧ va_AO RX1 U
theorem NW.same {u U : State} (h : u.vm = U.vm) (hN : NW u) : NW U := ⟨fun q hq => va_Nw.same rfl h (hN.1 q hq), fun q hq => va_Nw.same rfl h (hN.2.1 q hq), va_AO.moved (h ▸ Vm.Alike.refl u.vm) hN.2.2.1, va_AO.moved (h ▸ Vm.Alike.refl u.vm) hN.2.2.2⟩
theorem NW.warm {s U : State} (hW : s.WarmedH U.vm) (hN : NW s) : NW U := ⟨fun q hq => va_Nw.warmF hW (hN.1 q hq), fun q hq => va_Nw.warmM hW (hN.2.1 q hq), va_AO.moved hW.alike hN.2.2.1, va_AO.moved hW.alike hN.2.2.2⟩
/-- the array classes: int[], boolean[], long[], Coracle[], Net[] -/
abbrev tyL (y : Nat → ClassId) : List (ClassId × FieldType) := [(y 0, .int), (y 1, .boolean), (y 2, .long), (y 3, .object RX0), (y 4, .object RX1)]
/-- a world in a state -/
def Bp (D : va_G) (y : Nat → ClassId) (W : va_W) (U : State) : Prop := va_P D vwCl W U.heap ∧ va_K D vwCl (tyL y) U ∧ NW U
theorem Bp.call {D : va_G} {y : Nat → ClassId} {W : va_W} {U : State} (g : JFrame) (mk : MethodId) (a : Array Value) (h : Bp D y W U) : Bp D y W (U.calling g mk a) := ⟨h.1, va_K.moved (u := U) (U := U.calling g mk a) (Vm.Alike.refl U.vm) h.2.1, NW.same (u := U) (U := U.calling g mk a) rfl h.2.2⟩
theorem Bp.blind {D : va_G} {y : Nat → ClassId} {W : va_W} {av : List Value} : FrameBlind (va_Pc av (Bp D y W)) := fun a U g mk h => ⟨h.1, h.2.call g mk a⟩
/-- a writer's world at its start: sz the heap's size, the addresses apart -/
def Bw (D : va_G) (y : Nat → ClassId) (W : va_W) (sz : Nat) (U : State) : Prop := U.heap.size = sz ∧ Bp D y W U ∧ aD (fun _ => True) (W.map Prod.fst)
theorem Bw.blind {D : va_G} {y : Nat → ClassId} {W : va_W} {sz : Nat} {av : List Value} : FrameBlind (va_Pc av (Bw D y W sz)) := fun a U g mk h => ⟨h.1, h.2.1, h.2.2.1.call g mk a, h.2.2.2⟩
abbrev aW (W : va_W) (sz : Nat) : Nat → Prop := aA (W.map Prod.fst) sz
abbrev noA : Addr → Prop := fun _ => False
