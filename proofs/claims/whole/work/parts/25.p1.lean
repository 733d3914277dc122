/-! ===== numbers ===== -/
theorem nI_sub {a b : Nat} (h : b ≤ a) : nI a - nI b = nI (a - b) := by
  have e : nI a = nI (a - b) + nI b := by rw [nI_add, Nat.sub_add_cancel h]
  rw [e, Int32.add_sub_cancel]
theorem nI_mn {a b : Nat} (ha : a < 2 ^ 31) (hb : b < 2 ^ 31) : mn (nI a) (nI b) = nI (min a b) := by
  show (if nI b < nI a then nI b else nI a) = _
  by_cases h : b < a
  · rw [if_pos ((nI_ltI hb ha).mpr h), Nat.min_eq_right (by omega)]
  · rw [if_neg (fun z => h ((nI_ltI hb ha).mp z)), Nat.min_eq_left (by omega)]
theorem nI_mx {a b : Nat} (ha : a < 2 ^ 31) (hb : b < 2 ^ 31) : mx (nI a) (nI b) = nI (max a b) := by
  show (if nI a < nI b then nI b else nI a) = _
  by_cases h : a < b
  · rw [if_pos ((nI_ltI ha hb).mpr h), Nat.max_eq_right (by omega)]
  · rw [if_neg (fun z => h ((nI_ltI ha hb).mp z)), Nat.max_eq_left (by omega)]
theorem ix_nI {n : Nat} (h : n < 2 ^ 31) : ix (nI n) = n := nI_clamp h
theorem in_ex {x : Int32} {n : Nat} (h : vp_in x n) (hn : n < 2 ^ 31) : ∃ j, j < n ∧ x = nI j := vp_in_of h hn
/-- moving towards the goal -/
theorem mv_ok : ∀ a, a < 16 → ∀ g, g < 16 → ∀ s, s < 7 → (if nI g ≤ nI a then mx (nI g) (nI a - nI s) else mn (nI g) (nI a + nI s)) = nI a + (if nI g ≤ nI a then -(mn (nI s) (ab (nI g - nI a))) else mn (nI s) (ab (nI g - nI a))) ∧ ¬ ((if nI g ≤ nI a then mx (nI g) (nI a - nI s) else mn (nI g) (nI a + nI s)) < 0 ∨ 16 ≤ (if nI g ≤ nI a then mx (nI g) (nI a - nI s) else mn (nI g) (nI a + nI s)).toNatClampNeg) := by decide +kernel
theorem dr_ok : ∀ a, a < 16 → ∀ d, d < 6 → ¬ (mn 15 (nI a + nI d) < 0 ∨ 16 ≤ (mn 15 (nI a + nI d)).toNatClampNeg) := by decide +kernel
theorem half_ok : ∀ c, c < 61 → nI c - nI c / 2 = nI (c - c / 2) ∧ (nI c + 1) / 2 = nI (c - c / 2) := by decide +kernel
theorem mxs_ok : ∀ c, c < 61 → ∀ b, b < 13 → mx (nI (c - c / 2)) (nI c - nI b) = nI (max (c - c / 2) (c - b)) := by decide +kernel
theorem tar_ok : ∀ t, t < 31 → mx 0 (nI t - 1) = nI (t - 1) := by decide +kernel
theorem cl_ok : ∀ a, a < 61 → ∀ b, b < 61 → ¬ (mn 60 (nI a - nI a / 2 + nI b / 2) < 0 ∨ 61 ≤ (mn 60 (nI a - nI a / 2 + nI b / 2)).toNatClampNeg) := by decide +kernel
theorem cl_ok0 : ∀ a, a < 61 → ¬ (mn 60 (nI a - nI a / 2 + 0) < 0 ∨ 61 ≤ (mn 60 (nI a - nI a / 2 + 0)).toNatClampNeg) := by decide +kernel
theorem ru_ok : ∀ a, a < 61 → ∀ b, b < 10 → ¬ (mn 60 (nI a + nI b) < 0 ∨ 61 ≤ (mn 60 (nI a + nI b)).toNatClampNeg) := by decide +kernel
def lk1 (h t : Int32) : Int32 := if h = 0 then (if t = 0 then 1 else 0) else if h = 1 then (if 8 ≤ t then 0 else 1) else if t = 0 then 3 else if 8 ≤ t then 0 else 2
def lk2 (h t : Int32) : Int32 := if h = 2 then (if t = 0 then 3 else if 8 ≤ t then 0 else 2) else if h = 1 then (if 8 ≤ t then 0 else 1) else if 1 ≤ t then 0 else 1
theorem lk_ok : ∀ h, h < 3 → ∀ t, t < 31 → lk1 (nI h) (nI t) = lk2 (nI h) (nI t) := by decide +kernel
/-- an hour's place in the tables -/
theorem rm_nI {h k : Nat} (hh : h < 2 ^ 31) (hk : 0 < k) (hk2 : k < 2 ^ 31) : nI h - nI h / nI k * nI k = nI (h % k) := by
  have hd : nI h / nI k = nI (h / k) := by
    apply Int32.toInt_inj.mp
    have h2 : h / k ≤ h := Nat.div_le_self h k
    have h3 := Int.natCast_ediv h k
    have h4 : (0 : Int) ≤ (h : Int) / (k : Int) := by rw [← h3]; exact Int.natCast_nonneg _
    have h5 : (h : Int) / (k : Int) ≤ (h : Int) := by rw [← h3]; exact Int.ofNat_le.mpr h2
    rw [Int32.toInt_div, nI_toInt hh, nI_toInt hk2, nI_toInt (by omega), Int.tdiv_eq_ediv_of_nonneg (by omega), Int.bmod_eq_of_le]
    · exact (Int.natCast_ediv h k).symm
    · omega
    · omega
  have hm : nI (h / k) * nI k = nI (h / k * k) := (Int32.ofNat_mul (h / k) k).symm
  rw [hd, hm, nI_sub (Nat.div_mul_le_self h k)]
  congr 1
  have := Nat.div_add_mod h k
  rw [Nat.mul_comm] at this
  omega
theorem msb_I {x : Int32} (h : 0 ≤ x) : x.toBitVec.msb = false := by
  rw [Int32.le_iff_toInt_le] at h
  have h1 : (0 : Int) ≤ x.toBitVec.toInt := h
  cases hm : x.toBitVec.msb with
  | false => rfl
  | true =>
    have h2 := BitVec.toInt_neg_of_msb_true hm
    omega
theorem xor_pos {x z : Int32} (hx : 0 ≤ x) (hz : 0 ≤ z) : 0 ≤ x ^^^ z := by
  have h1 := msb_I hx
  have h2 := msb_I hz
  have h3 : (x ^^^ z).toBitVec.msb = false := by
    rw [Int32.toBitVec_xor, BitVec.msb_xor, h1, h2]; rfl
  rw [Int32.le_iff_toInt_le]
  show (0 : Int) ≤ (x ^^^ z).toBitVec.toInt
  exact BitVec.toInt_nonneg_of_msb_false h3
theorem fm_nI {h k : Nat} (hh : h < 2 ^ 31) (hk : 0 < k) (hk2 : k < 2 ^ 31) : fmF (nI h) (nI k) = nI (h % k) := by
  unfold fmF
  rw [if_pos (xor_pos (nI_pos' hh) (nI_pos' hk2)), rm_nI hh hk hk2]
