/-! ===== what a state is ===== -/
abbrev ix (x : Int32) : Nat := x.toNatClampNeg
abbrev mn (x y : Int32) : Int32 := if y < x then y else x
abbrev mx (x y : Int32) : Int32 := if x < y then y else x
abbrev ab (x : Int32) : Int32 := if 0 ≤ x then x else 0 - x
/-- a boolean as an int -/
def isB (x : Int32) : Prop := x = 0 ∨ x = 1
theorem nb_z {x : Int32} (h : isB x) : narrow .boolean (.int x) = .int x := by rcases h with h | h <;> subst h <;> rfl
theorem fb_z {x : Int32} (h : isB x) : fits .boolean (.int x) = true := by rcases h with h | h <;> subst h <;> rfl
theorem in_lt {x : Int32} {n : Nat} (h : vp_in x n) : ¬ x < 0 := fun z => h (Or.inl z)
theorem in_ix {x : Int32} {n : Nat} (h : vp_in x n) : ix x < n := Nat.lt_of_not_le (fun z => h (Or.inr z))
theorem in_nI {x : Int32} {n : Nat} (h : vp_in x n) (hn : n < 2 ^ 31) : x = nI (ix x) := by
  obtain ⟨j, hj, e⟩ := vp_in_of h hn
  rw [e, ix, nI_clamp (by omega)]
/-- the row of a Coracle: laths hide skill reach goal tar water load afloat partner -/
abbrev coE (w : Nat → Int32) : va_E := .inr (0, [.int (w 0), .int (w 1), .int (w 2), .int (w 3), .int (w 4), .int (w 5), .int (w 6), .int (w 7), .int (w 8), .int (w 9)])
/-- the row of a Net: first second caught -/
abbrev neE (w : Nat → Int32) : va_E := .inr (1, [.int (w 0), .int (w 1), .int (w 2)])
/-- a River's 14 cells: itself (hour coins made tied sold spawned), its arrays, 6 coracles from 5 on, 3 nets from 11 on -/
def rvE (y : Nat → ClassId) (ad : Nat → Nat) (V : Nat → Nat → Int32) : Nat → va_E := fun j => match j with
  | 0 => .inr (2, [.ref (ad 1), .ref (ad 2), .ref (ad 3), .ref (ad 4), .int (V 0 0), .int (V 0 1), .int (V 0 2), .int (V 0 3), .int (V 0 4), .int (V 0 5)])
  | 1 => .inl (y 3, 6, .inr (.inr (.inr (.inr (fun k => some (ad (k + 5)))))))
  | 2 => .inl (y 4, 3, .inr (.inr (.inr (.inr (fun k => some (ad (k + 11)))))))
  | 3 => .inl (y 0, 16, .inl (V 3))
  | 4 => .inl (y 0, 4, .inl (V 4))
  | j + 5 => if j < 6 then coE (V (j + 5)) else neE (V (j + 5))
abbrev rvW (y : Nat → ClassId) (ad : Nat → Nat) (V : Nat → Nat → Int32) : va_W := wf 14 ad (rvE y ad V)
theorem rvE_co (y : Nat → ClassId) (ad : Nat → Nat) (V : Nat → Nat → Int32) {k : Nat} (h : k < 6) : rvE y ad V (k + 5) = coE (V (k + 5)) := if_pos h
theorem rvE_ne (y : Nat → ClassId) (ad : Nat → Nat) (V : Nat → Nat → Int32) {k : Nat} : rvE y ad V (k + 11) = neE (V (k + 11)) := by
  show (if k + 6 < 6 then coE (V (k + 6 + 5)) else neE (V (k + 6 + 5))) = neE (V (k + 11))
  rw [if_neg (by omega)]
theorem rv_co (y : Nat → ClassId) (ad : Nat → Nat) (V : Nat → Nat → Int32) {k : Nat} (h : k < 6) : (rvW y ad V)[k + 5]? = some (ad (k + 5), coE (V (k + 5))) := wf_at (by omega) (rvE_co y ad V h)
theorem rv_ne (y : Nat → ClassId) (ad : Nat → Nat) (V : Nat → Nat → Int32) {k : Nat} (h : k < 3) : (rvW y ad V)[k + 11]? = some (ad (k + 11), neE (V (k + 11))) := wf_at (by omega) (rvE_ne y ad V)
/-- the cells of a River after one row has changed -/
theorem rvE_up (y : Nat → ClassId) (ad : Nat → Nat) (V : Nat → Nat → Int32) (k : Nat) (w : Nat → Int32) (j : Nat) : rvE y ad (va_up V k w) j = if j = k then rvE y ad (va_up V k w) k else rvE y ad V j := by
  by_cases h : j = k
  · subst h; rw [if_pos rfl]
  · rw [if_neg h]
    unfold rvE
    split
    · simp only [va_up_ne V w h]
    · rfl
    · rfl
    · simp only [va_up_ne V w h]
    · simp only [va_up_ne V w h]
    · simp only [va_up_ne V w h]
theorem rv_set {y : Nat → ClassId} {ad : Nat → Nat} {V : Nat → Nat → Int32} {k : Nat} (w : Nat → Int32) {e : va_E} (he : rvE y ad (va_up V k w) k = e) : (rvW y ad V).set k (ad k, e) = rvW y ad (va_up V k w) := wf_set (fun j _ => by rw [rvE_up, he])
theorem rv_setC {y : Nat → ClassId} {ad : Nat → Nat} {V : Nat → Nat → Int32} {k : Nat} (w : Nat → Int32) (h : k < 6) : (rvW y ad V).set (k + 5) (ad (k + 5), coE w) = rvW y ad (va_up V (k + 5) w) := rv_set w (by rw [rvE_co y ad _ h, va_up_self])
theorem rv_setN {y : Nat → ClassId} {ad : Nat → Nat} {V : Nat → Nat → Int32} {k : Nat} (w : Nat → Int32) : (rvW y ad V).set (k + 11) (ad (k + 11), neE w) = rvW y ad (va_up V (k + 11) w) := rv_set w (by rw [rvE_ne y ad, va_up_self])
theorem rv_fst (y : Nat → ClassId) (ad : Nat → Nat) (V : Nat → Nat → Int32) : (rvW y ad V).map Prod.fst = wa 14 ad := wf_fst 14 ad _
theorem sw_out (x : Int32) {n : Nat} {hi : Int} (hn : n < 2 ^ 31) (hh : hi = (n : Int) - 1) (h : ∀ j : Nat, j < n → x = nI j → False) : x.toInt < 0 ∨ hi < x.toInt := by
  rcases pk_ix x hn with h1 | h1 | ⟨j, hj, e⟩
  · exact Or.inl (by have := (Int32.lt_iff_toInt_lt).mp h1; simpa using this)
  · right
    have h2 := (Int32.le_iff_toInt_le).mp h1
    rw [nI_toInt hn] at h2
    omega
  · exact absurd e (fun e => h j hj e)
theorem wa_at {n : Nat} {ad : Nat → Nat} {k : Nat} (h : k < n) : (wa n ad)[k]? = some (ad k) := by simp [wa, h]
/-- one number of a value changes -/
abbrev vU (V : Nat → Nat → Int32) (r i : Nat) (x : Int32) : Nat → Nat → Int32 := va_up V r (upd (V r) i x)
theorem vU_at (V : Nat → Nat → Int32) (r i : Nat) (x : Int32) (j k : Nat) : vU V r i x j k = if j = r ∧ k = i then x else V j k := by
  unfold vU va_up upd
  by_cases h : j = r
  · subst h; by_cases h2 : k = i <;> simp [h2]
  · simp [h]
/-- the coracles' rows, all but the last of them changed by g -/
def mpI (g : (Nat → Int32) → (Nat → Int32)) (i : Nat) (V : Nat → Nat → Int32) : Nat → Nat → Int32 := fun j => if 5 ≤ j ∧ j < i + 5 then g (V j) else V j
theorem mpI_0 (g : (Nat → Int32) → (Nat → Int32)) (V : Nat → Nat → Int32) : mpI g 0 V = V := by
  funext j; unfold mpI; rw [if_neg (by omega)]
theorem mpI_at (g : (Nat → Int32) → (Nat → Int32)) (i : Nat) (V : Nat → Nat → Int32) : mpI g i V (i + 5) = V (i + 5) := by
  unfold mpI; rw [if_neg (by omega)]
theorem mpI_in (g : (Nat → Int32) → (Nat → Int32)) (i : Nat) (V : Nat → Nat → Int32) {k : Nat} (h : k < i) : mpI g i V (k + 5) = g (V (k + 5)) := by
  unfold mpI; rw [if_pos (by omega)]
theorem mpI_out (g : (Nat → Int32) → (Nat → Int32)) (i : Nat) (V : Nat → Nat → Int32) {j : Nat} (h : j < 5 ∨ i + 5 ≤ j) : mpI g i V j = V j := by
  unfold mpI; rw [if_neg (by omega)]
theorem mpI_s (g : (Nat → Int32) → (Nat → Int32)) (i : Nat) (V : Nat → Nat → Int32) {w : Nat → Int32} (h : w = g (V (i + 5))) : va_up (mpI g i V) (i + 5) w = mpI g (i + 1) V := by
  funext j; unfold mpI va_up
  by_cases h1 : j = i + 5
  · subst h1; rw [if_pos rfl, if_pos (by omega), h]
  · rw [if_neg h1]
    dsimp only
    by_cases h2 : 5 ≤ j ∧ j < i + 5
    · rw [if_pos h2, if_pos (by omega)]
    · rw [if_neg h2, if_neg (by omega)]
theorem mpI_k (g : (Nat → Int32) → (Nat → Int32)) (i : Nat) (V : Nat → Nat → Int32) (h : g (V (i + 5)) = V (i + 5)) : mpI g i V = mpI g (i + 1) V := by
  funext j; unfold mpI
  by_cases h1 : j = i + 5
  · subst h1; rw [if_neg (by omega), if_pos (by omega), h]
  · by_cases h2 : 5 ≤ j ∧ j < i + 5
    · rw [if_pos h2, if_pos (by omega)]
    · rw [if_neg h2, if_neg (by omega)]
/-- an int that counts down to -1 -/
def dk : Nat → Int32 | 0 => -1 | j + 1 => nI j
theorem dk_m1 (j : Nat) : nI j + (-1) = dk j := by
  cases j with
  | zero => decide
  | succ j => exact pk_m1 j
/-- an array's contents matter below its length alone -/
theorem arrV_cong {cA : ClassId} {n : Nat} {f g : Nat → Value} (h : ∀ i, i < n → f i = g i) : arrV cA n f = arrV cA n g := by
  unfold arrV
  congr 1
  apply Array.ext
  · simp
  · intro i h1 h2
    simp at h1
    simp [h i h1]
theorem P_cong {D : va_G} {cl : List vw_C} {n : Nat} {ad : Nat → Nat} {f g : Nat → va_E} {H : Heap} (hP : va_P D cl (wf n ad f) H) (h : ∀ j, j < n → va_at D cl (ad j, f j) H → va_at D cl (ad j, g j) H) : va_P D cl (wf n ad g) H := by
  intro k q hk
  rw [wf_get] at hk
  by_cases hkn : k < n
  · rw [if_pos hkn] at hk; cases hk
    exact h k hkn (hP k _ (by rw [wf_get, if_pos hkn]))
  · rw [if_neg hkn] at hk; cases hk
theorem at_int {D : va_G} {cl : List vw_C} {a n : Nat} {cA : ClassId} {f g : Nat → Int32} {H : Heap} (h : va_at D cl (a, .inl (cA, n, .inl f)) H) (hfg : ∀ i, i < n → f i = g i) : va_at D cl (a, .inl (cA, n, .inl g)) H := by
  show H[a]? = some (arrV cA n fun j => .int (g j))
  rw [← arrV_cong (f := fun j => .int (f j)) (fun i hi => by rw [hfg i hi])]
  exact h
theorem at_ref {D : va_G} {cl : List vw_C} {a n : Nat} {cA : ClassId} {f g : Nat → Option Nat} {H : Heap} (h : va_at D cl (a, .inl (cA, n, .inr (.inr (.inr (.inr f))))) H) (hfg : ∀ i, i < n → f i = g i) : va_at D cl (a, .inl (cA, n, .inr (.inr (.inr (.inr g))))) H := by
  show H[a]? = some (arrV cA n fun j => va_rf (g j))
  rw [← arrV_cong (f := fun j => va_rf (f j)) (fun i hi => by rw [hfg i hi])]
  exact h
/-- a River's value matters below its rows' lengths alone -/
def rvQ (V X : Nat → Nat → Int32) : Prop := (∀ i, i < 6 → V 0 i = X 0 i) ∧ (∀ i, i < 16 → V 3 i = X 3 i) ∧ (∀ i, i < 4 → V 4 i = X 4 i) ∧ (∀ k, k < 6 → ∀ i, i < 10 → V (k + 5) i = X (k + 5) i) ∧ ∀ k, k < 3 → ∀ i, i < 3 → V (k + 11) i = X (k + 11) i
theorem rv_cong {D : va_G} {y : Nat → ClassId} {ad : Nat → Nat} {V X : Nat → Nat → Int32} {H : Heap} (h : rvQ V X) (hP : va_P D vwCl (rvW y ad V) H) : va_P D vwCl (rvW y ad X) H := by
  obtain ⟨h0, h3, h4, hc, hn⟩ := h
  refine P_cong hP (fun j hj hat => ?_)
  match j, hj, hat with
  | 0, _, hat =>
    have e : rvE y ad V 0 = rvE y ad X 0 := by
      show (Sum.inr _ : va_E) = Sum.inr _
      rw [h0 0 (by omega), h0 1 (by omega), h0 2 (by omega), h0 3 (by omega), h0 4 (by omega), h0 5 (by omega)]
    rw [← e]; exact hat
  | 1, _, hat => exact hat
  | 2, _, hat => exact hat
  | 3, _, hat => exact at_int (f := V 3) hat h3
  | 4, _, hat => exact at_int (f := V 4) hat h4
  | k + 5, hj, hat =>
    by_cases hk : k < 6
    · have e : rvE y ad V (k + 5) = rvE y ad X (k + 5) := by
        rw [rvE_co y ad V hk, rvE_co y ad X hk]
        show (Sum.inr _ : va_E) = Sum.inr _
        rw [hc k hk 0 (by omega), hc k hk 1 (by omega), hc k hk 2 (by omega), hc k hk 3 (by omega), hc k hk 4 (by omega), hc k hk 5 (by omega), hc k hk 6 (by omega), hc k hk 7 (by omega), hc k hk 8 (by omega), hc k hk 9 (by omega)]
      rw [← e]; exact hat
    · obtain ⟨n, rfl⟩ : ∃ n, k = n + 6 := ⟨k - 6, by omega⟩
      have e : rvE y ad V (n + 11) = rvE y ad X (n + 11) := by
        rw [rvE_ne y ad V, rvE_ne y ad X]
        show (Sum.inr _ : va_E) = Sum.inr _
        rw [hn n (by omega) 0 (by omega), hn n (by omega) 1 (by omega), hn n (by omega) 2 (by omega)]
      show va_at D vwCl (ad (n + 11), rvE y ad X (n + 11)) H
      rw [← e]; exact hat
theorem in_mono {x : Int32} {n k : Nat} (h : vp_in x n) (hk : n ≤ k) : vp_in x k := fun z => h (z.elim Or.inl (fun z => Or.inr (Nat.le_trans hk z)))
theorem gt_in {x : Int32} {n : Nat} (h : vp_in x n) {N : Int32} (hN : (n : Int) ≤ N.toInt + 1) : ¬ N < x := by
  have h1 := vp_in_iff.mp h
  intro z
  have h2 := Int32.lt_iff_toInt_lt.mp z
  omega
theorem P_nil (D : va_G) (cl : List vw_C) (H : Heap) : va_P D cl [] H := fun k q h => by simp at h
