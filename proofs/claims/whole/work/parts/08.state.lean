/-! ===== what a state is ===== -/
abbrev ix (x : Int32) : Nat := x.toNatClampNeg
abbrev mn (x y : Int32) : Int32 := if y < x then y else x
abbrev mx (x y : Int32) : Int32 := if x < y then y else x
abbrev ab (x : Int32) : Int32 := if 0 ≤ x then x else 0 - x
/-- a boolean as an int -/
def isB (x : Int32) : Prop := x = 0 ∨ x = 1
theorem nb_z {x : Int32} (h : isB x) : narrow .boolean (.int x) = .int x := by rcases h with h | h <;> subst h <;> rfl
theorem fb_z {x : Int32} (h : isB x) : fits .boolean (.int x) = true := by rcases h with h | h <;> subst h <;> rfl
theorem in_lt {x : Int32} {n : Nat} (h : vp_in x n) : ¬ x < 0 := fun z => h (Or.inl z)
theorem in_ix {x : Int32} {n : Nat} (h : vp_in x n) : ix x < n := Nat.lt_of_not_le (fun z => h (Or.inr z))
theorem in_nI {x : Int32} {n : Nat} (h : vp_in x n) (hn : n < 2 ^ 31) : x = nI (ix x) := by
  obtain ⟨j, hj, e⟩ := vp_in_of h hn
  rw [e, ix, nI_clamp (by omega)]
/-- the row of a Coracle: laths hide skill reach goal tar water load afloat partner -/
abbrev coE (w : Nat → Int32) : va_E := .inr (0, [.int (w 0), .int (w 1), .int (w 2), .int (w 3), .int (w 4), .int (w 5), .int (w 6), .int (w 7), .int (w 8), .int (w 9)])
/-- the row of a Net: first second caught -/
abbrev neE (w : Nat → Int32) : va_E := .inr (1, [.int (w 0), .int (w 1), .int (w 2)])
/-- a River's 14 cells: itself (hour coins made tied sold spawned), its arrays, 6 coracles from 5 on, 3 nets from 11 on -/
def rvE (y : Nat → ClassId) (ad : Nat → Nat) (V : Nat → Nat → Int32) : Nat → va_E := fun j => match j with
  | 0 => .inr (2, [.ref (ad 1), .ref (ad 2), .ref (ad 3), .ref (ad 4), .int (V 0 0), .int (V 0 1), .int (V 0 2), .int (V 0 3), .int (V 0 4), .int (V 0 5)])
  | 1 => .inl (y 3, 6, .inr (.inr (.inr (.inr (fun k => some (ad (k + 5)))))))
  | 2 => .inl (y 4, 3, .inr (.inr (.inr (.inr (fun k => some (ad (k + 11)))))))
  | 3 => .inl (y 0, 16, .inl (V 3))
  | 4 => .inl (y 0, 4, .inl (V 4))
  | j + 5 => if j < 6 then coE (V (j + 5)) else neE (V (j + 5))
abbrev rvW (y : Nat → ClassId) (ad : Nat → Nat) (V : Nat → Nat → Int32) : va_W := wf 14 ad (rvE y ad V)
theorem rvE_co (y : Nat → ClassId) (ad : Nat → Nat) (V : Nat → Nat → Int32) {k : Nat} (h : k < 6) : rvE y ad V (k + 5) = coE (V (k + 5)) := if_pos h
theorem rvE_ne (y : Nat → ClassId) (ad : Nat → Nat) (V : Nat → Nat → Int32) {k : Nat} : rvE y ad V (k + 11) = neE (V (k + 11)) := if_neg (by omega)
theorem rv_co (y : Nat → ClassId) (ad : Nat → Nat) (V : Nat → Nat → Int32) {k : Nat} (h : k < 6) : (rvW y ad V)[k + 5]? = some (ad (k + 5), coE (V (k + 5))) := wf_at (by omega) (rvE_co y ad V h)
theorem rv_ne (y : Nat → ClassId) (ad : Nat → Nat) (V : Nat → Nat → Int32) {k : Nat} (h : k < 3) : (rvW y ad V)[k + 11]? = some (ad (k + 11), neE (V (k + 11))) := wf_at (by omega) (rvE_ne y ad V)
/-- the cells of a River after one row has changed -/
theorem rvE_up (y : Nat → ClassId) (ad : Nat → Nat) (V : Nat → Nat → Int32) (k : Nat) (w : Nat → Int32) (j : Nat) : rvE y ad (va_up V k w) j = if j = k then rvE y ad (va_up V k w) k else rvE y ad V j := by
  by_cases h : j = k
  · subst h; rw [if_pos rfl]
  · rw [if_neg h]
    unfold rvE
    split
    · simp only [va_up_ne V w h]
    · rfl
    · rfl
    · simp only [va_up_ne V w h]
    · simp only [va_up_ne V w h]
    · simp only [va_up_ne V w h]
theorem rv_set {y : Nat → ClassId} {ad : Nat → Nat} {V : Nat → Nat → Int32} {k : Nat} (w : Nat → Int32) {e : va_E} (he : rvE y ad (va_up V k w) k = e) : (rvW y ad V).set k (ad k, e) = rvW y ad (va_up V k w) := wf_set (fun j _ => by rw [rvE_up, he])
theorem rv_setC {y : Nat → ClassId} {ad : Nat → Nat} {V : Nat → Nat → Int32} {k : Nat} (w : Nat → Int32) (h : k < 6) : (rvW y ad V).set (k + 5) (ad (k + 5), coE w) = rvW y ad (va_up V (k + 5) w) := rv_set w (by rw [rvE_co y ad _ h, va_up_self])
theorem rv_setN {y : Nat → ClassId} {ad : Nat → Nat} {V : Nat → Nat → Int32} {k : Nat} (w : Nat → Int32) : (rvW y ad V).set (k + 11) (ad (k + 11), neE w) = rvW y ad (va_up V (k + 11) w) := rv_set w (by rw [rvE_ne y ad, va_up_self])
theorem rv_fst (y : Nat → ClassId) (ad : Nat → Nat) (V : Nat → Nat → Int32) : (rvW y ad V).map Prod.fst = wa 14 ad := wf_fst 14 ad _
