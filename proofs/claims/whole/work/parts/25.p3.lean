/-! ===== drawing the nets ===== -/
theorem vU_eq (V : FV) (r i : Nat) (x : Int32) : vU V r i x r i = x := (vU_at V r i x r i).trans (if_pos ⟨rfl, rfl⟩)
theorem vU_ne (V : FV) (r i : Nat) (x : Int32) {j k : Nat} (h : ¬ (j = r ∧ k = i)) : vU V r i x j k = V j k := (vU_at V r i x j k).trans (if_neg h)
theorem nAB {B : Nat} {K V G U : FV} (R : RI B K V G U) {n : Nat} (hn : n < ix (V 0 3)) : n < 3 ∧ nA V n < 6 ∧ nB V n < 6 ∧ ¬ nA V n = nB V n ∧ mA G n = nA V n ∧ mB G n = nB V n ∧ nA V n < ix (V 0 2) ∧ nB V n < ix (V 0 2) := by
  obtain ⟨h0, hK, hS, hH, hc, hnn, hp⟩ := R
  have hT4 := in_ix h0.2.2.2.2.2.2.2.2.1
  have hM7 := in_ix h0.2.2.2.2.2.2.2.1
  obtain ⟨q1, q2, q3, -, -⟩ := hp.1 n hn
  obtain ⟨e6, e7, -⟩ := hnn n (by omega)
  refine ⟨by omega, by omega, by omega, q3, ?_, ?_, q1, q2⟩
  · show ix (G 6 n) = ix (V (n + 11) 0)
    rw [e6]
  · show ix (G 7 n) = ix (V (n + 11) 1)
    rw [e7]
theorem st_ok {mk : Prop} {w : Nat → Int32} {G U : FV} {k : Nat} (h : rC mk w G U k) (hm : mk) : (w 8 = 1 ∧ U 7 k = 0) ∨ (w 8 = 0 ∧ U 7 k = 1) := by
  rcases h.2.2 with ⟨-, h⟩ | h
  · exact h
  · exact absurd hm h.1
theorem tg_mt {B : Nat} {K V G U : FV} (R : RI B K V G U) {n : Nat} (hn : n < ix (V 0 3)) : tgF V n = mtM G U n := by
  obtain ⟨n3, a6, b6, -, eA, eB, aM, bM⟩ := nAB R hn
  have ha := R.2.2.2.2.1 _ a6
  have hb := R.2.2.2.2.1 _ b6
  have sa := st_ok ha aM
  have sb := st_ok hb bM
  have e3 := ha.1.2.2.2.1
  have f3 := hb.1.2.2.2.1
  unfold tgF mtM
  rw [eA, eB]
  generalize nA V n = a at *
  generalize nB V n = b at *
  rcases sa with ⟨a8, a7⟩ | ⟨a8, a7⟩
  · rw [if_neg (show ¬ V (a + 5) 8 = 0 by rw [a8]; decide), if_neg (show ¬ ¬ U 7 a = 0 from fun z => z a7)]
    rcases sb with ⟨b8, b7⟩ | ⟨b8, b7⟩
    · rw [if_neg (show ¬ ¬ U 7 b = 0 from fun z => z b7)]
      have e : atF (V (b + 5)) (V (a + 5) 3) = if U 2 a = U 2 b then 1 else 0 := by
        unfold atF
        rw [if_neg (show ¬ V (b + 5) 8 = 0 by rw [b8]; decide), e3, f3]
        by_cases h : V (b + 5) 3 = V (a + 5) 3
        · rw [if_pos h, if_pos h.symm]
        · rw [if_neg h, if_neg (fun z => h z.symm)]
      rw [e]
      by_cases h : U 2 a = U 2 b
      · rw [if_pos h, if_neg (by decide)]
      · rw [if_neg h, if_pos rfl]
    · rw [if_pos (show ¬ U 7 b = 0 by rw [b7]; decide)]
      have e : atF (V (b + 5)) (V (a + 5) 3) = 0 := if_pos b8
      rw [if_pos e]
  · rw [if_pos a8, if_pos (show ¬ U 7 a = 0 by rw [a7]; decide)]
theorem wc_ca {B : Nat} {K V G U : FV} (R : RI B K V G U) {n : Nat} (hn : n < ix (V 0 3)) : wcF V n = caM G U n := by
  obtain ⟨n3, a6, b6, -, eA, eB, aM, bM⟩ := nAB R hn
  have ha := R.2.2.2.2.1 _ a6
  have hb := R.2.2.2.2.1 _ b6
  have hS := R.2.2.1
  have hx := in_ix ha.2.1.2.2.1
  unfold wcF caM
  rw [tg_mt R hn, eA, eB]
  by_cases h : mtM G U n = 0
  · rw [if_neg (fun z => z h), if_pos h]
  · rw [if_pos h, if_neg h]
    show _ = mn (U 1 (ix (U 2 (nA V n)))) (mn (mn (G 5 (nA V n)) (G 5 (nB V n)) + 2) ((G 3 (nA V n) - U 6 (nA V n)) + (G 3 (nB V n) - U 6 (nB V n))))
    rw [ha.1.2.2.2.1, (hS _ hx).1, ha.1.2.2.1, hb.1.2.2.1, ha.1.1, hb.1.1, ha.1.2.2.2.2.2.2.2, hb.1.2.2.2.2.2.2.2, Int32.add_comm 2 _]
theorem wc_b {B : Nat} {K V G U : FV} (R : RI B K V G U) {n : Nat} (hn : n < ix (V 0 3)) : ∃ ha la hb lb s c : Nat, ha ≤ 12 ∧ la ≤ ha ∧ hb ≤ 12 ∧ lb ≤ hb ∧ s ≤ 60 ∧ V (nA V n + 5) 0 = nI ha ∧ V (nA V n + 5) 7 = nI la ∧ V (nB V n + 5) 0 = nI hb ∧ V (nB V n + 5) 7 = nI lb ∧ V 3 (ix (V (nA V n + 5) 3)) = nI s ∧ wcF V n = nI c ∧ c ≤ s ∧ c ≤ (ha - la) + (hb - lb) := by
  obtain ⟨n3, a6, b6, -, eA, eB, aM, bM⟩ := nAB R hn
  have ra := R.2.2.2.2.1 _ a6
  have rb := R.2.2.2.2.1 _ b6
  have hS := R.2.2.1
  have hx := in_ix ra.2.1.2.2.1
  obtain ⟨ha, la, h1, h2, e1, e2⟩ := ra.2.1.2.2.2.2.2
  obtain ⟨hb, lb, h3, h4, e3, e4⟩ := rb.2.1.2.2.2.2.2
  obtain ⟨s, h5, e5⟩ := in_ex (hS _ hx).2 (by decide)
  obtain ⟨p, h6, e6⟩ := in_ex ra.2.1.2.1 (by decide)
  obtain ⟨q, h7, e7⟩ := in_ex rb.2.1.2.1 (by decide)
  by_cases h : tgF V n = 0
  · exact ⟨ha, la, hb, lb, s, 0, h1, h2, h3, h4, by omega, e1, e2, e3, e4, e5, by unfold wcF; rw [if_neg (fun z => z h), nI_0], by omega, by omega⟩
  · refine ⟨ha, la, hb, lb, s, min s (min (2 + min p q) ((ha - la) + (hb - lb))), h1, h2, h3, h4, by omega, e1, e2, e3, e4, e5, ?_, Nat.min_le_left _ _, Nat.le_trans (Nat.min_le_right _ _) (Nat.min_le_right _ _)⟩
    have m1 : min p q < 7 := Nat.lt_of_le_of_lt (Nat.min_le_left _ _) h6
    have m2 : min (2 + min p q) ((ha - la) + (hb - lb)) < 9 := Nat.lt_of_le_of_lt (Nat.min_le_left _ _) (by omega)
    unfold wcF
    rw [if_pos h, e1, e2, e3, e4, e5, e6, e7, nI_sub h2, nI_sub h4, nI_add, nI_mn (by omega) (by omega), ← nI_l2, nI_add, nI_mn (by omega) (by omega), nI_mn (by omega) (by omega)]
theorem sh_k (ra rb c : Nat) (h : c ≤ ra + rb) : min ra (max (c - c / 2) (c - rb)) ≤ ra ∧ min ra (max (c - c / 2) (c - rb)) ≤ c ∧ c - min ra (max (c - c / 2) (c - rb)) ≤ rb := by
  have m1 := Nat.le_max_left (c - c / 2) (c - rb)
  have m2 := Nat.le_max_right (c - c / 2) (c - rb)
  have m3 : max (c - c / 2) (c - rb) ≤ c := Nat.max_le.mpr ⟨by omega, by omega⟩
  generalize max (c - c / 2) (c - rb) = z at *
  rcases Nat.le_total ra z with h1 | h1
  · rw [Nat.min_eq_left h1]; exact ⟨by omega, by omega, by omega⟩
  · rw [Nat.min_eq_right h1]; exact ⟨by omega, by omega, by omega⟩
theorem dr_b {B : Nat} {K V G U : FV} (R : RI B K V G U) {n : Nat} (hn : n < ix (V 0 3)) : ∃ ha la hb lb s c d : Nat, ha ≤ 12 ∧ la ≤ ha ∧ hb ≤ 12 ∧ lb ≤ hb ∧ s ≤ 60 ∧ V (nA V n + 5) 0 = nI ha ∧ V (nA V n + 5) 7 = nI la ∧ V (nB V n + 5) 0 = nI hb ∧ V (nB V n + 5) 7 = nI lb ∧ V 3 (ix (V (nA V n + 5) 3)) = nI s ∧ wcF V n = nI c ∧ c ≤ s ∧ drS V n = nI d ∧ dsM G U n = nI d ∧ d ≤ ha - la ∧ d ≤ c ∧ c - d ≤ hb - lb := by
  obtain ⟨ha, la, hb, lb, s, c, h1, h2, h3, h4, h5, e1, e2, e3, e4, e5, ec, k1, k2⟩ := wc_b R hn
  obtain ⟨n3, a6, b6, -, eA, eB, aM, bM⟩ := nAB R hn
  have ra := R.2.2.2.2.1 _ a6
  have rb := R.2.2.2.2.1 _ b6
  obtain ⟨s1, s2, s3⟩ := sh_k (ha - la) (hb - lb) c k2
  have m3 : max (c - c / 2) (c - (hb - lb)) < 61 := Nat.lt_of_le_of_lt (Nat.max_le.mpr ⟨Nat.sub_le _ _, Nat.sub_le _ _⟩) (show c < 61 by omega)
  refine ⟨ha, la, hb, lb, s, c, min (ha - la) (max (c - c / 2) (c - (hb - lb))), h1, h2, h3, h4, h5, e1, e2, e3, e4, e5, ec, k1, ?_, ?_, s1, s2, s3⟩
  · unfold drS
    rw [e1, e2, e3, e4, ec, nI_sub h2, nI_sub h4, (half_ok c (by omega)).1, mxs_ok c (by omega) (hb - lb) (by omega), nI_mn (by omega) (by omega)]
  · unfold dsM
    have f1 : roM G U (mA G n) = nI (ha - la) := by
      rw [eA]
      show G 3 (nA V n) - U 6 (nA V n) = _
      rw [ra.1.1, ra.1.2.2.2.2.2.2.2, e1, e2, nI_sub h2]
    have f2 : roM G U (mB G n) = nI (hb - lb) := by
      rw [eB]
      show G 3 (nB V n) - U 6 (nB V n) = _
      rw [rb.1.1, rb.1.2.2.2.2.2.2.2, e3, e4, nI_sub h4]
    rw [f1, f2, ← wc_ca R hn, ec, (half_ok c (by omega)).2, mxs_ok c (by omega) (hb - lb) (by omega), nI_mn (by omega) (by omega)]
theorem drV_at (V : FV) (n a b j k x : Nat) (c d : Int32) (ea : nA V n = a) (eb : nB V n = b) (ec : wcF V n = c) (ed : drS V n = d) (ex : ix (V (a + 5) 3) = x) (hab : ¬ a = b) : drV V n j k = if j = n + 11 ∧ k = 2 then V j k + c else if j = b + 5 ∧ k = 7 then V j k + (c - d) else if j = a + 5 ∧ k = 7 then V j k + d else if j = 3 ∧ k = x then V j k - c else V j k := by
  unfold drV tkF
  try dsimp only
  rw [ec, ed, ea, eb, ex, vU_at]
  by_cases h1 : j = n + 11 ∧ k = 2
  · rw [if_pos h1, if_pos h1, vU_ne _ _ _ _ (by omega), vU_ne _ _ _ _ (by omega), vU_ne _ _ _ _ (by omega), h1.1, h1.2]
  · rw [if_neg h1, if_neg h1, vU_at]
    by_cases h2 : j = b + 5 ∧ k = 7
    · rw [if_pos h2, if_pos h2, vU_ne _ _ _ _ (by omega), vU_ne _ _ _ _ (by omega), h2.1, h2.2]
    · rw [if_neg h2, if_neg h2, vU_at]
      by_cases h3 : j = a + 5 ∧ k = 7
      · rw [if_pos h3, if_pos h3, vU_ne _ _ _ _ (by omega), h3.1, h3.2]
      · rw [if_neg h3, if_neg h3, vU_at]
        by_cases h4 : j = 3 ∧ k = x
        · rw [if_pos h4, if_pos h4, h4.1, h4.2]
        · rw [if_neg h4, if_neg h4]
theorem drM_at (G U : FV) (n a b j k x : Nat) (c d : Int32) (ea : mA G n = a) (eb : mB G n = b) (ec : caM G U n = c) (ed : dsM G U n = d) (ex : ix (U 2 a) = x) (hab : ¬ a = b) : drM G U n j k = if j = 8 ∧ k = n then U j k + c else if j = 6 ∧ k = b then U j k + (c - d) else if j = 6 ∧ k = a then U j k + d else if j = 1 ∧ k = x then U j k - c else U j k := by
  unfold drM
  try dsimp only
  rw [ec, ed, ea, eb, ex, vU_at]
  by_cases h1 : j = 8 ∧ k = n
  · rw [if_pos h1, if_pos h1, vU_ne _ _ _ _ (by omega), vU_ne _ _ _ _ (by omega), vU_ne _ _ _ _ (by omega), h1.1, h1.2]
  · rw [if_neg h1, if_neg h1, vU_at]
    by_cases h2 : j = 6 ∧ k = b
    · rw [if_pos h2, if_pos h2, vU_ne _ _ _ _ (by omega), vU_ne _ _ _ _ (by omega), h2.1, h2.2]
    · rw [if_neg h2, if_neg h2, vU_at]
      by_cases h3 : j = 6 ∧ k = a
      · rw [if_pos h3, if_pos h3, vU_ne _ _ _ _ (by omega), h3.1, h3.2]
      · rw [if_neg h3, if_neg h3, vU_at]
        by_cases h4 : j = 1 ∧ k = x
        · rw [if_pos h4, if_pos h4, h4.1, h4.2]
        · rw [if_neg h4, if_neg h4]
theorem rC_ld {mk : Prop} {w w' : Nat → Int32} {G U U' : FV} {k : Nat} (h : rC mk w G U k) (hm : mk) (hw : ∀ j, ¬ j = 7 → w' j = w j) (hU : ∀ r, 2 ≤ r → r ≤ 7 → ¬ r = 6 → U' r k = U r k) (h67 : U' 6 k = w' 7) (hl : ∃ h l : Nat, h ≤ 12 ∧ l ≤ h ∧ w 0 = nI h ∧ w' 7 = nI l) : rC mk w' G U' k := by
  obtain ⟨⟨a0, a1, a2, a3, a4, a5, a6, a7⟩, ⟨b1, b2, b3, b4, b5, b6⟩, h3⟩ := h
  unfold rC
  rw [hw 0 (by omega), hw 1 (by omega), hw 2 (by omega), hw 3 (by omega), hw 4 (by omega), hw 5 (by omega), hw 6 (by omega), hw 8 (by omega), hU 2 (by omega) (by omega) (by omega), hU 3 (by omega) (by omega) (by omega), hU 4 (by omega) (by omega) (by omega), hU 5 (by omega) (by omega) (by omega), hU 7 (by omega) (by omega) (by omega)]
  refine ⟨⟨a0, a1, a2, a3, a4, a5, a6, h67⟩, ⟨b1, b2, b3, b4, b5, hl⟩, Or.inl ⟨hm, ?_⟩⟩
  rcases h3 with ⟨-, h⟩ | h
  · exact h
  · exact absurd hm h.1
theorem ri_draw {B : Nat} {K V G U : FV} (R : RI B K V G U) {n : Nat} (hn : n < ix (V 0 3)) : RI B K (drV V n) G (drM G U n) := by
  obtain ⟨n3, a6, b6, hab, eA, eB, aM, bM⟩ := nAB R hn
  obtain ⟨ha, la, hb, lb, s, c, d, h1, h2, h3, h4, h5, e1, e2, e3, e4, e5, ec, k1, ed, ed2, k3, k4, k5⟩ := dr_b R hn
  have ecM := (wc_ca R hn).symm.trans ec
  have ex := (R.2.2.2.2.1 _ a6).1.2.2.2.1
  obtain ⟨x, hx⟩ : ∃ x, ix (V (nA V n + 5) 3) = x := ⟨_, rfl⟩
  have eV := fun j k => drV_at V n (nA V n) (nB V n) j k x (nI c) (nI d) rfl rfl ec ed hx hab
  have eU := fun j k => drM_at G U n (nA V n) (nB V n) j k x (nI c) (nI d) eA eB ecM ed2 (by rw [ex]; exact hx) hab
  rw [hx] at e5
  generalize nA V n = a at *
  generalize nB V n = b at *
  obtain ⟨h0, hK, hS, hH, hc, hnn, hp⟩ := R
  have z : ∀ j, drV V n 0 j = V 0 j := fun j => by rw [eV, if_neg (by omega), if_neg (by omega), if_neg (by omega), if_neg (by omega)]
  have z4 : ∀ j, drV V n 4 j = V 4 j := fun j => by rw [eV, if_neg (by omega), if_neg (by omega), if_neg (by omega), if_neg (by omega)]
  have zU : ∀ j, drM G U n 0 j = U 0 j := fun j => by rw [eU, if_neg (by omega), if_neg (by omega), if_neg (by omega), if_neg (by omega)]
  have u : ∀ r k, 2 ≤ r → r ≤ 7 → ¬ r = 6 → drM G U n r k = U r k := fun r k g1 g2 g3 => by rw [eU, if_neg (by omega), if_neg (by omega), if_neg (by omega), if_neg (by omega)]
  have w : ∀ k, k < 6 → ∀ i, ¬ i = 7 → drV V n (k + 5) i = V (k + 5) i := fun k hk i hi => by rw [eV, if_neg (by omega), if_neg (by omega), if_neg (by omega), if_neg (by omega)]
  have nn : ∀ m, ∀ i, ¬ i = 2 → drV V n (m + 11) i = V (m + 11) i := fun m i hi => by rw [eV, if_neg (by omega), if_neg (by omega), if_neg (by omega), if_neg (by omega)]
  refine ⟨?_, hK, ?_, ?_, fun k hk => ?_, fun m hm => ?_, ?_⟩
  · unfold r0
    simp only [z, z4, zU]
    exact h0
  · intro i hi
    obtain ⟨f1, f2⟩ := hS i hi
    by_cases hix : i = x
    · have p1 : drV V n 3 i = V 3 i - nI c := by rw [eV, if_neg (by omega), if_neg (by omega), if_neg (by omega), if_pos ⟨rfl, hix⟩]
      have p2 : drM G U n 1 i = U 1 i - nI c := by rw [eU, if_neg (by omega), if_neg (by omega), if_neg (by omega), if_pos ⟨rfl, hix⟩]
      rw [p1, p2, f1, hix, e5, nI_sub k1]
      exact ⟨rfl, vp_in_nI (by omega) (by decide)⟩
    · have p1 : drV V n 3 i = V 3 i := by rw [eV, if_neg (by omega), if_neg (by omega), if_neg (by omega), if_neg (by omega)]
      have p2 : drM G U n 1 i = U 1 i := by rw [eU, if_neg (by omega), if_neg (by omega), if_neg (by omega), if_neg (by omega)]
      rw [p1, p2]
      exact ⟨f1, f2⟩
  · exact ⟨fun i hi => by rw [z4]; exact hH.1 i hi, fun i hi => by rw [z4]; exact hH.2 i hi⟩
  · rw [z]
    have h := hc k hk
    by_cases hkb : k = b
    · subst hkb
      have q7 : drV V n (k + 5) 7 = V (k + 5) 7 + (nI c - nI d) := by rw [eV, if_neg (by omega), if_pos ⟨rfl, rfl⟩]
      have q6 : drM G U n 6 k = U 6 k + (nI c - nI d) := by rw [eU, if_neg (by omega), if_pos ⟨rfl, rfl⟩]
      refine rC_ld h bM (fun i hi => w k hk i hi) (fun r g1 g2 g3 => u r k g1 g2 g3) (by rw [q6, q7, h.1.2.2.2.2.2.2.2]) ⟨hb, lb + (c - d), h3, by omega, e3, ?_⟩
      rw [q7, e4, nI_sub k4, nI_add]
    · by_cases hka : k = a
      · subst hka
        have q7 : drV V n (k + 5) 7 = V (k + 5) 7 + nI d := by rw [eV, if_neg (by omega), if_neg (by omega), if_pos ⟨rfl, rfl⟩]
        have q6 : drM G U n 6 k = U 6 k + nI d := by rw [eU, if_neg (by omega), if_neg (by omega), if_pos ⟨rfl, rfl⟩]
        refine rC_ld h aM (fun i hi => w k hk i hi) (fun r g1 g2 g3 => u r k g1 g2 g3) (by rw [q6, q7, h.1.2.2.2.2.2.2.2]) ⟨ha, la + d, h1, by omega, e1, ?_⟩
        rw [q7, e2, nI_add]
      · have q7 : drV V n (k + 5) 7 = V (k + 5) 7 := by rw [eV, if_neg (by omega), if_neg (by omega), if_neg (by omega), if_neg (by omega)]
        have q6 : drM G U n 6 k = U 6 k := by rw [eU, if_neg (by omega), if_neg (by omega), if_neg (by omega), if_neg (by omega)]
        refine rC_of h (fun i _ => ?_) (fun r g1 g2 => ?_) (fun _ _ _ => rfl) Iff.rfl
        · by_cases hi : i = 7
          · subst hi; exact q7
          · exact w k hk i hi
        · by_cases hr : r = 6
          · subst hr; exact q6
          · exact u r k g1 g2 hr
  · obtain ⟨f1, f2, f3, f4, f5⟩ := hnn m hm
    unfold rN
    rw [nn m 0 (by omega), nn m 1 (by omega)]
    refine ⟨f1, f2, ?_, f4, f5⟩
    rw [eV, eU]
    by_cases hmn : m = n
    · subst hmn
      rw [if_pos ⟨rfl, rfl⟩, if_pos ⟨rfl, rfl⟩, f3]
    · rw [if_neg (by omega), if_neg (by omega), if_neg (by omega), if_neg (by omega), if_neg (by omega), if_neg (by omega), if_neg (by omega), if_neg (by omega)]
      exact f3
  · exact rP_of hp h0.2.2.2.2.2.2.2.2.1 (z 2) (z 3) (fun k hk => w k hk 9 (by omega)) h0.2.2.2.2.2.2.2.1 (fun m _ => ⟨nn m 0 (by omega), nn m 1 (by omega)⟩)
theorem al3 (x y z c : Int32) : x + c + y + z = x + y + z + c := by rw [Int32.add_assoc x c y, Int32.add_comm c y, ← Int32.add_assoc x y c, Int32.add_assoc (x + y) c z, Int32.add_comm c z, ← Int32.add_assoc (x + y) z c]
theorem al_dr (G U : FV) {n : Nat} (hn : n < 3) : alM (drM G U n) = alM U + caM G U n := by
  have z : ∀ k, drM G U n 8 k = if k = n then U 8 k + caM G U n else U 8 k := fun k => by
    unfold drM
    try dsimp only
    rw [vU_at]
    by_cases h : k = n
    · subst h
      rw [if_pos ⟨rfl, rfl⟩, if_pos rfl, vU_ne _ _ _ _ (by omega), vU_ne _ _ _ _ (by omega), vU_ne _ _ _ _ (by omega)]
    · rw [if_neg (by omega), if_neg h, vU_ne _ _ _ _ (by omega), vU_ne _ _ _ _ (by omega), vU_ne _ _ _ _ (by omega)]
  unfold alM
  rw [z 0, z 1, z 2]
  rcases (show n = 0 ∨ n = 1 ∨ n = 2 by omega) with h | h | h
  · rw [if_pos h.symm, if_neg (by omega), if_neg (by omega)]
    exact al3 _ _ _ _
  · rw [if_neg (by omega), if_pos h.symm, if_neg (by omega), ← Int32.add_assoc (U 8 0), Int32.add_assoc (U 8 0 + U 8 1), Int32.add_comm (caM G U n) (U 8 2), ← Int32.add_assoc]
  · rw [if_neg (by omega), if_neg (by omega), if_pos h.symm, ← Int32.add_assoc]
theorem ri_draws {B : Nat} {K V G U : FV} (R : RI B K V G U) : ∀ m, m ≤ ix (V 0 3) → RI B K (dnS V m) G (drI G U m) ∧ alM (drI G U m) = alM U + dnC V m
  | 0, _ => ⟨R, (Int32.add_zero _).symm⟩
  | m + 1, h => by
    obtain ⟨R1, e1⟩ := ri_draws R m (by omega)
    have hn : m < ix (dnS V m 0 3) := by rw [dn_0]; omega
    refine ⟨ri_draw R1 hn, ?_⟩
    show alM (drM G (drI G U m) m) = alM U + (dnC V m + wcF (dnS V m) m)
    rw [al_dr _ _ (nAB R1 hn).1, e1, wc_ca R1 hn, Int32.add_assoc]
