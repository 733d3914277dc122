/-! ===== make and net ===== -/
theorem mk_at (V : FV) (a b c : Int32) (hb : ¬ ix b = 3) (j i : Nat) : mkF V a b c j i = if j = 0 ∧ i = 2 then V 0 2 + 1 else if j = ix (V 0 2) + 5 then bnF (V (ix (V 0 2) + 5)) a b c i else if j = 4 ∧ i = ix b then V 4 (ix b) - 1 else if j = 4 ∧ i = 3 then V 4 3 - a else V j i := by
  unfold mkF
  try dsimp only
  rw [vU_at]
  by_cases h1 : j = 0 ∧ i = 2
  · rw [if_pos h1, if_pos h1, va_up_ne _ _ (show 0 ≠ ix (V 0 2) + 5 by omega), vU_ne _ _ _ _ (by omega), vU_ne _ _ _ _ (by omega)]
  · rw [if_neg h1, if_neg h1]
    by_cases h2 : j = ix (V 0 2) + 5
    · rw [if_pos h2, h2, va_up_self, vU_row _ _ _ _ (by omega), vU_row _ _ _ _ (by omega)]
    · rw [if_neg h2, va_up_ne _ _ h2, vU_at]
      by_cases h3 : j = 4 ∧ i = ix b
      · rw [if_pos h3, if_pos h3, vU_ne _ _ _ _ (by omega)]
      · rw [if_neg h3, if_neg h3, vU_at]
theorem mkF9_at (F : FV) (l h s : Int32) (r k : Nat) : mkF9 F l h s r k = if r = 0 ∧ k = 1 then F 0 1 + 1 else if r = 5 ∧ k = ix (F 0 1) then s else if r = 4 ∧ k = ix (F 0 1) then h else if r = 3 ∧ k = ix (F 0 1) then l else if r = 8 ∧ k = ix h then F 8 (ix h) - 1 else if r = 0 ∧ k = 3 then F 0 3 - l else F r k := by
  unfold mkF9
  try dsimp only
  rw [vU_ne F 0 3 _ (show ¬ (8 = 0 ∧ ix h = 3) by omega), vU_at, vU_at, vU_at, vU_at, vU_at, vU_at]
theorem mk_eq {B : Nat} {K V G U : FV} (R : RI B K V G U) (hB : B + 200 < 2 ^ 31) (l h s : Int32) : mkC V l h s = mkC9 G l h s := by
  unfold mkC mkC9
  by_cases hc : ciP h 3
  · rw [if_pos hc, if_pos ((ii_ci (M := 3) (by decide)).mpr hc)]
  · rw [if_neg hc, if_neg (fun z => hc ((ii_ci (M := 3) (by decide)).mp z))]
    have hh : vp_in h 3 := nci_l hc (by decide)
    have e6 : (6 ≤ V 0 2) ↔ (G 0 1 = 6) := by
      rw [R.1.1]
      obtain ⟨m, hm, em⟩ := in_ex R.1.2.2.2.2.2.2.2.1 (by decide)
      rw [em]
      have : ∀ m, m < 7 → (6 ≤ nI m ↔ nI m = 6) := by decide +kernel
      exact this m hm
    have e1 : (V 4 (ix h) < 1) ↔ (G 8 (ix h) = 0) := by
      rw [R.2.2.2.1.2 _ (in_ix hh)]
      obtain ⟨q, h1, h2⟩ := R.2.2.2.1.1 (ix h) (by have := in_ix hh; omega)
      rw [h2, ← nI_l1, ← nI_0, nI_ltI (by omega) (by omega), nI_eq (by omega) (by omega)]
      omega
    exact ite_p (ii_0 l 4 12).symm rfl (ite_p (ii_0 s 1 6).symm rfl (ite_p e6 rfl (ite_p (by rw [R.1.2.2.1]) rfl (ite_p e1 rfl rfl))))
theorem rP_of2 {V X : FV} (h : rP V) (hT : vp_in (V 0 3) 4) (h2 : ix (V 0 2) ≤ ix (X 0 2)) (h3 : X 0 3 = V 0 3) (hk : ∀ k, k < 6 → X (k + 5) 9 = V (k + 5) 9) (hM : vp_in (V 0 2) 7) (hn : ∀ n, n < 3 → X (n + 11) 0 = V (n + 11) 0 ∧ X (n + 11) 1 = V (n + 11) 1) : rP X := by
  obtain ⟨p1, p2, p3⟩ := h
  have hT4 := in_ix hT
  have hM7 := in_ix hM
  refine ⟨fun n hn3 => ?_, fun k hk6 => ?_, ?_⟩
  · rw [h3] at hn3
    obtain ⟨e0, e1⟩ := hn n (by omega)
    obtain ⟨q1, q2, q3, q4, q5⟩ := p1 n hn3
    have eA : nA X n = nA V n := by unfold nA; rw [e0]
    have eB : nB X n = nB V n := by unfold nB; rw [e1]
    rw [eA, eB, e0, e1]
    exact ⟨by omega, by omega, q3, (hk _ (by omega)).trans q4, (hk _ (by omega)).trans q5⟩
  · rcases p2 k hk6 with h | ⟨n, hn3, h⟩
    · exact Or.inl ((hk k hk6).trans h)
    · refine Or.inr ⟨n, by rw [h3]; exact hn3, ?_⟩
      obtain ⟨e0, e1⟩ := hn n (by omega)
      have eA : nA X n = nA V n := by unfold nA; rw [e0]
      have eB : nB X n = nB V n := by unfold nB; rw [e1]
      rw [eA, eB]; exact h
  · rw [h3, ← p3]; exact ptC_congr 6 hk
theorem op_make {B : Nat} {K V G U : FV} (R : RI B K V G U) (hB : B + 200 < 2 ^ 31) (hG : G 0 0 = 0) (l h s : Int32) : Cl (mkC V l h s) (mkC V l h s) (mkC9 G l h s) (V 0 2) (G 0 1) (RI (B + 40) K (mkF V l h s) (mkF9 G l h s) (vU U 4 (ix (G 0 1)) 30) ∧ mkF9 G l h s 0 0 = 0) := by
  refine Cl.id (mk_eq R hB l h s) (fun z => ?_)
  obtain ⟨z1, z⟩ := ite_z (by decide) z
  obtain ⟨z2, z⟩ := ite_z (by decide) z
  obtain ⟨z3, z⟩ := ite_z (by decide) z
  obtain ⟨z4, z⟩ := ite_z (by decide) z
  obtain ⟨z5, z⟩ := ite_z (by decide) z
  obtain ⟨z6, -⟩ := ite_z (by decide) z
  have hh : vp_in h 3 := nci_l z1 (by decide)
  have hh3 := in_ix hh
  have hl : vp_in l 13 := nca z2 (by decide) (by decide)
  have hs : vp_in s 7 := nca z3 (by decide) (by decide)
  obtain ⟨lq, hq, el⟩ := in_ex hl (by decide)
  obtain ⟨m, hm, em⟩ := in_ex R.1.2.2.2.2.2.2.2.1 (by decide)
  have hm6 : m < 6 := by
    have e6 : (6 : Int32) = nI 6 := by decide +kernel
    rw [em, e6, nI_leI (by omega) (by omega)] at z4
    omega
  have eM : ix (V 0 2) = m := by rw [em, ix_nI (by omega)]
  have eMG : ix (G 0 1) = m := by rw [R.1.1, eM]
  rw [eMG]
  have pV := mk_at V l h s (by omega)
  have pG := mkF9_at G l h s
  rw [eM] at pV
  rw [eMG] at pG
  obtain ⟨h0, hK, hS, hH, hc, hnn, hp⟩ := R
  have un := hc m (by omega)
  have v0 : ∀ i, ¬ i = 2 → mkF V l h s 0 i = V 0 i := fun i hi => by rw [pV, if_neg (by omega), if_neg (by omega), if_neg (by omega), if_neg (by omega)]
  have v02 : mkF V l h s 0 2 = V 0 2 + 1 := by rw [pV, if_pos ⟨rfl, rfl⟩]
  have eM2 : ix (mkF V l h s 0 2) = m + 1 := by rw [v02, em, nI_1, ix_nI (by omega)]
  have vr : ∀ j i, ¬ j = 0 → ¬ j = 4 → ¬ j = m + 5 → mkF V l h s j i = V j i := fun j i g1 g2 g3 => by rw [pV, if_neg (by omega), if_neg (by omega), if_neg (by omega), if_neg (by omega)]
  have vm : ∀ i, mkF V l h s (m + 5) i = bnF (V (m + 5)) l h s i := fun i => by rw [pV, if_neg (by omega), if_pos rfl]
  have g0 : ∀ k, ¬ k = 1 → ¬ k = 3 → mkF9 G l h s 0 k = G 0 k := fun k g1 g2 => by rw [pG, if_neg (by omega), if_neg (by omega), if_neg (by omega), if_neg (by omega), if_neg (by omega), if_neg (by omega)]
  have g01 : mkF9 G l h s 0 1 = G 0 1 + 1 := by rw [pG, if_pos ⟨rfl, rfl⟩]
  have g03 : mkF9 G l h s 0 3 = G 0 3 - l := by rw [pG, if_neg (by omega), if_neg (by omega), if_neg (by omega), if_neg (by omega), if_neg (by omega), if_pos ⟨rfl, rfl⟩]
  have gr : ∀ r k, ¬ r = 0 → ¬ r = 8 → ¬ k = m → mkF9 G l h s r k = G r k := fun r k q1 q2 q3 => by rw [pG, if_neg (by omega), if_neg (by omega), if_neg (by omega), if_neg (by omega), if_neg (by omega), if_neg (by omega)]
  have gs : ∀ r k, ¬ r = 0 → ¬ r = 8 → ¬ r = 3 → ¬ r = 4 → ¬ r = 5 → mkF9 G l h s r k = G r k := fun r k q1 q2 q3 q4 q5 => by rw [pG, if_neg (by omega), if_neg (by omega), if_neg (by omega), if_neg (by omega), if_neg (by omega), if_neg (by omega)]
  have u : ∀ r k, ¬ (r = 4 ∧ k = m) → vU U 4 m 30 r k = U r k := fun r k hr => vU_ne _ _ _ _ hr
  have v4 : ∀ i, i < 4 → mkF V l h s 4 i = if i = ix h then V 4 i - 1 else if i = 3 then V 4 3 - l else V 4 i := fun i hi => by
    rw [pV, if_neg (by omega), if_neg (by omega)]
    by_cases q1 : i = ix h
    · rw [if_pos ⟨rfl, q1⟩, if_pos q1, q1]
    · rw [if_neg (by omega), if_neg q1]
      by_cases q2 : i = 3
      · rw [if_pos ⟨rfl, q2⟩, if_pos q2]
      · rw [if_neg (by omega), if_neg q2]
  refine ⟨h0.1.symm, ⟨?_, ?_, ?_, ?_, fun k hk => ?_, fun n hn => ?_, ?_⟩, by rw [g0 0 (by omega) (by omega)]; exact hG⟩
  · unfold r0
    rw [g01, g0 2 (by omega) (by omega), g03, v02, v0 3 (by omega), v4 3 (by omega), if_neg (by omega), if_pos rfl, v0 0 (by omega), v0 1 (by omega), v0 4 (by omega), v0 5 (by omega), u 0 0 (by omega), u 0 1 (by omega), u 0 2 (by omega), u 0 3 (by omega)]
    obtain ⟨q1, q2, q3, q4, q5, q6, q7, q8, q9, t, q10, q11⟩ := h0
    exact ⟨by rw [q1], q2, by rw [q3], q4, q5, q6, q7, by rw [em, nI_1]; exact vp_in_nI (by omega) (by decide), q9, t, by omega, q11⟩
  · intro i hi
    rw [gs 1 i (by omega) (by omega) (by omega) (by omega) (by omega), gs 2 i (by omega) (by omega) (by omega) (by omega) (by omega)]
    exact hK i hi
  · intro i hi
    rw [vr 3 i (by omega) (by omega) (by omega), u 1 i (by omega)]
    exact hS i hi
  · refine ⟨fun i hi => ?_, fun i hi => ?_⟩
    · obtain ⟨q, h1, h2⟩ := hH.1 i hi
      rw [v4 i hi]
      by_cases q1 : i = ix h
      · rw [if_pos q1]
        rw [← q1, h2, ← nI_l1, nI_ltI (by omega) (by omega)] at z6
        exact ⟨q - 1, by omega, by rw [h2, ← nI_l1, nI_sub (by omega)]⟩
      · rw [if_neg q1]
        by_cases q2 : i = 3
        · rw [if_pos q2]
          rw [q2] at h2
          rw [h2, el, nI_ltI (by omega) (by omega)] at z5
          exact ⟨q - lq, by omega, by rw [h2, el, nI_sub (by omega)]⟩
        · rw [if_neg q2]
          exact ⟨q, by omega, h2⟩
    · rw [v4 i (by omega), pG, if_neg (by omega), if_neg (by omega), if_neg (by omega), if_neg (by omega)]
      by_cases q1 : i = ix h
      · rw [if_pos ⟨rfl, q1⟩, if_pos q1, ← q1, hH.2 i hi]
      · rw [if_neg (by omega), if_neg (by omega), if_neg q1, if_neg (by omega)]
        exact hH.2 i hi
  · rw [eM2]
    by_cases hkm : k = m
    · subst hkm
      obtain ⟨⟨a0, a1, a2, a3, a4, a5, a6, a7⟩, ⟨b1, b2, b3, b4, b5, b6⟩, h3⟩ := un
      have h3 : V (k + 5) 8 = 0 ∧ U 7 k = 0 ∧ V (k + 5) 5 = 0 ∧ V (k + 5) 7 = 0 := by
        rcases h3 with h3 | h3
        · exact absurd h3.1 (by omega)
        · exact h3.2
      have c3 : mkF9 G l h s 3 k = l := by rw [pG, if_neg (by omega), if_neg (by omega), if_neg (by omega), if_pos ⟨rfl, rfl⟩]
      have c4 : mkF9 G l h s 4 k = h := by rw [pG, if_neg (by omega), if_neg (by omega), if_pos ⟨rfl, rfl⟩]
      have c5 : mkF9 G l h s 5 k = s := by rw [pG, if_neg (by omega), if_pos ⟨rfl, rfl⟩]
      have d0 : bnF (V (k + 5)) l h s 0 = l := rfl
      have d1 : bnF (V (k + 5)) l h s 1 = h := rfl
      have d2 : bnF (V (k + 5)) l h s 2 = s := rfl
      have d3 : bnF (V (k + 5)) l h s 3 = V (k + 5) 3 := rfl
      have d4 : bnF (V (k + 5)) l h s 4 = V (k + 5) 4 := rfl
      have d5 : bnF (V (k + 5)) l h s 5 = 30 := rfl
      have d6 : bnF (V (k + 5)) l h s 6 = V (k + 5) 6 := rfl
      have d7 : bnF (V (k + 5)) l h s 7 = V (k + 5) 7 := rfl
      have d8 : bnF (V (k + 5)) l h s 8 = 1 := rfl
      unfold rC
      rw [vm, vm, vm, vm, vm, vm, vm, vm, vm, d0, d1, d2, d3, d4, d5, d6, d7, d8, c3, c4, c5, vU_eq U 4 k 30, u 2 k (by omega), u 3 k (by omega), u 5 k (by omega), u 6 k (by omega), u 7 k (by omega)]
      exact ⟨⟨rfl, rfl, rfl, a3, a4, rfl, a6, a7⟩, ⟨hh, hs, b3, b4, vp_in_nI (n := 30) (by decide) (by decide), lq, 0, by omega, by omega, el, by rw [h3.2.2.2, nI_0]⟩, Or.inl ⟨by omega, Or.inl ⟨rfl, h3.2.1⟩⟩⟩
    · exact rC_of (hc k hk) (fun i _ => vr (k + 5) i (by omega) (by omega) (by omega)) (fun r q1 q2 => u r k (by omega)) (fun r q1 q2 => gr r k (by omega) (by omega) hkm) (by omega)
  · exact rN_of (hnn n hn) (fun i _ => vr (n + 11) i (by omega) (by omega) (by omega)) (u 8 n (by omega)) (gs 6 n (by omega) (by omega) (by omega) (by omega) (by omega)) (gs 7 n (by omega) (by omega) (by omega) (by omega) (by omega))
  · refine rP_of2 hp h0.2.2.2.2.2.2.2.2.1 (by omega) (v0 3 (by omega)) (fun k hk => ?_) h0.2.2.2.2.2.2.2.1 (fun n _ => ⟨vr (n + 11) 0 (by omega) (by omega) (by omega), vr (n + 11) 1 (by omega) (by omega) (by omega)⟩)
    by_cases hkm : k = m
    · subst hkm
      rw [vm]; rfl
    · exact vr (k + 5) 9 (by omega) (by omega) (by omega)
/-! net -/
theorem ptC_up {f g : Nat → Int32} {a : Nat} (hf : f a = -1) (hg : ¬ g a = -1) (h : ∀ k, ¬ k = a → g k = f k) : ∀ n, a < n → ptC g n = ptC f n + 1
  | 0, ha => absurd ha (by omega)
  | n + 1, ha => by
    show ptC g n + (if g n = -1 then 0 else 1) = ptC f n + (if f n = -1 then 0 else 1) + 1
    by_cases e : a = n
    · subst e
      rw [ptC_congr a (fun k hk => h k (by omega)), if_neg hg, if_pos hf]
    · rw [ptC_up hf hg h n (by omega), h n (by omega)]
      omega
theorem ptC_le (f : Nat → Int32) : ∀ n, ptC f n ≤ n
  | 0 => Nat.le_refl 0
  | n + 1 => by
    show ptC f n + (if f n = -1 then 0 else 1) ≤ n + 1
    have := ptC_le f n
    split <;> omega
theorem nt_eq {B : Nat} {K V G U : FV} (R : RI B K V G U) (a b : Int32) : ntC V a b = ntM G a b := by
  unfold ntC ntM
  by_cases ha : ciP a (V 0 2)
  · rw [if_pos ha, if_pos ((iM R a).mpr ha)]
  · rw [if_neg ha, if_neg (fun z => ha ((iM R a).mp z))]
    by_cases hb : ciP b (V 0 2)
    · rw [if_pos hb, if_pos ((iM R b).mpr hb)]
    · rw [if_neg hb, if_neg (fun z => hb ((iM R b).mp z))]
      obtain ⟨i, hi, ei⟩ := in_ex (cM R ha).1 (by decide)
      obtain ⟨j, hj, ej⟩ := in_ex (cM R hb).1 (by decide)
      have m1 := (mate_ok R hi).2
      have m2 := (mate_ok R hj).2
      rw [← ei] at m1
      rw [← ej] at m2
      have i1 : ix a = i := by rw [ei, ix_nI (by omega)]
      have j1 : ix b = j := by rw [ej, ix_nI (by omega)]
      refine ite_c (fun _ => rfl) (fun _ => ?_)
      rw [i1, j1]
      by_cases h1 : ptn V i = -1
      · rw [if_neg (fun z => z h1), if_pos (m1.mpr h1)]
        by_cases h2 : ptn V j = -1
        · rw [if_neg (fun z => z h2), if_pos (m2.mpr h2)]
        · rw [if_pos h2, if_neg (fun z => h2 (m2.mp z))]
      · rw [if_pos h1, if_neg (fun z => h1 (m1.mp z))]
theorem nt_ok {V : FV} {a b : Int32} (z : ntC V a b = 0) : ¬ ciP a (V 0 2) ∧ ¬ ciP b (V 0 2) ∧ ¬ a = b ∧ V (ix a + 5) 9 = -1 ∧ V (ix b + 5) 9 = -1 := by
  obtain ⟨z1, z⟩ := ite_z (by decide) z
  obtain ⟨z2, z⟩ := ite_z (by decide) z
  obtain ⟨z3, z⟩ := ite_z (by decide) z
  obtain ⟨z4, z⟩ := ite_z (by decide) z
  obtain ⟨z5, -⟩ := ite_z (by decide) z
  exact ⟨z1, z2, z3, Decidable.not_not.mp z4, Decidable.not_not.mp z5⟩
theorem nt_T {B : Nat} {K V G U : FV} (R : RI B K V G U) {a b : Int32} (z : ntC V a b = 0) : ∃ i j t : Nat, i < ix (V 0 2) ∧ j < ix (V 0 2) ∧ i < 6 ∧ j < 6 ∧ ¬ i = j ∧ a = nI i ∧ b = nI j ∧ V 0 3 = nI t ∧ t < 3 := by
  obtain ⟨z1, z2, z3, z4, z5⟩ := nt_ok z
  obtain ⟨i, hi, ei⟩ := in_ex (cM R z1).1 (by decide)
  obtain ⟨j, hj, ej⟩ := in_ex (cM R z2).1 (by decide)
  have i1 : ix a = i := by rw [ei, ix_nI (by omega)]
  have j1 : ix b = j := by rw [ej, ix_nI (by omega)]
  have hij : ¬ i = j := fun q => z3 (by rw [ei, ej, q])
  obtain ⟨t, ht, et⟩ := in_ex R.1.2.2.2.2.2.2.2.2.1 (by decide)
  have hiM := (cM R z1).2.1
  have hjM := (cM R z2).2.1
  rw [i1] at hiM z4
  rw [j1] at hjM z5
  have p3 := R.2.2.2.2.2.2.2.2
  rw [et, ix_nI (by omega)] at p3
  have c1 : ptC (fun k => if k = i then 0 else ptn V k) 6 = ptC (ptn V) 6 + 1 := ptC_up (a := i) z4 (by show ¬ (if i = i then (0 : Int32) else _) = -1; rw [if_pos rfl]; decide) (fun k hk => if_neg hk) 6 hi
  have c2 : ptC (fun k => if k = j then 0 else if k = i then 0 else ptn V k) 6 = ptC (fun k => if k = i then 0 else ptn V k) 6 + 1 := ptC_up (a := j) (by show (if j = i then (0 : Int32) else _) = -1; rw [if_neg (fun q => hij q.symm)]; exact z5) (by show ¬ (if j = j then (0 : Int32) else _) = -1; rw [if_pos rfl]; decide) (fun k hk => if_neg hk) 6 hj
  have c3 := ptC_le (fun k => if k = j then 0 else if k = i then 0 else ptn V k) 6
  exact ⟨i, j, t, hiM, hjM, hi, hj, hij, ei, ej, et, by omega⟩
theorem ti_at (V : FV) (a b : Int32) (j i : Nat) (h : ix (V 0 3) < 3) : tiF V a b j i = if j = 0 ∧ i = 3 then V 0 3 + 1 else if j = ix b + 5 ∧ i = 9 then a else if j = ix a + 5 ∧ i = 9 then b else if j = ix (V 0 3) + 11 ∧ i = 1 then b else if j = ix (V 0 3) + 11 ∧ i = 0 then a else V j i := by
  unfold tiF
  try dsimp only
  rw [vU_ne _ _ _ _ (show ¬ (0 = ix b + 5 ∧ 3 = 9) by omega), vU_ne _ _ _ _ (show ¬ (0 = ix a + 5 ∧ 3 = 9) by omega), vU_ne _ _ _ _ (show ¬ (0 = ix (V 0 3) + 11 ∧ 3 = 1) by omega), vU_ne _ _ _ _ (show ¬ (0 = ix (V 0 3) + 11 ∧ 3 = 0) by omega), vU_at, vU_at, vU_at, vU_at, vU_at]
theorem ntF_at (F : FV) (a b : Int32) (r k : Nat) : ntF F a b r k = if r = 0 ∧ k = 2 then F 0 2 + 1 else if r = 7 ∧ k = ix (F 0 2) then b else if r = 6 ∧ k = ix (F 0 2) then a else F r k := by
  unfold ntF
  rw [vU_at, vU_at, vU_at]
theorem op_net {B : Nat} {K V G U : FV} (R : RI B K V G U) (hG : G 0 0 = 0) (a b : Int32) : Cl (ntC V a b) (ntC V a b) (ntM G a b) (V 0 3) (G 0 2) (RI (B + 40) K (tiF V a b) (ntF G a b) U ∧ ntF G a b 0 0 = 0) := by
  refine Cl.id (nt_eq R a b) (fun z => ?_)
  obtain ⟨i, j, t, hiM, hjM, hi, hj, hij, ea, eb, et, ht⟩ := nt_T R z
  obtain ⟨-, -, -, z4, z5⟩ := nt_ok z
  have i1 : ix a = i := by rw [ea, ix_nI (by omega)]
  have j1 : ix b = j := by rw [eb, ix_nI (by omega)]
  have t1 : ix (V 0 3) = t := by rw [et, ix_nI (by omega)]
  have t2 : ix (G 0 2) = t := by rw [R.1.2.1, t1]
  have pV := fun q k => ti_at V a b q k (by omega)
  have pG := ntF_at G a b
  rw [i1, j1, t1] at pV
  rw [t2] at pG
  rw [i1] at z4
  rw [j1] at z5
  obtain ⟨h0, hK, hS, hH, hc, hnn, p1, p2, p3⟩ := R
  have hM7 := in_ix h0.2.2.2.2.2.2.2.1
  have vo : ∀ q k, ¬ (q = 0 ∧ k = 3) → ¬ k = 9 → ¬ q = t + 11 → tiF V a b q k = V q k := fun q k g1 g2 g3 => by rw [pV, if_neg g1, if_neg (by omega), if_neg (by omega), if_neg (by omega), if_neg (by omega)]
  have v03 : tiF V a b 0 3 = V 0 3 + 1 := by rw [pV, if_pos ⟨rfl, rfl⟩]
  have e03 : ix (tiF V a b 0 3) = t + 1 := by rw [v03, et, nI_1, ix_nI (by omega)]
  have v02 : tiF V a b 0 2 = V 0 2 := vo 0 2 (by omega) (by omega) (by omega)
  have nj : ∀ n k, ¬ n = t → tiF V a b (n + 11) k = V (n + 11) k := fun n k g1 => by rw [pV, if_neg (by omega), if_neg (by omega), if_neg (by omega), if_neg (by omega), if_neg (by omega)]
  have nt0 : tiF V a b (t + 11) 0 = a := by rw [pV, if_neg (by omega), if_neg (by omega), if_neg (by omega), if_neg (by omega), if_pos ⟨rfl, rfl⟩]
  have nt1 : tiF V a b (t + 11) 1 = b := by rw [pV, if_neg (by omega), if_neg (by omega), if_neg (by omega), if_pos ⟨rfl, rfl⟩]
  have nt2 : tiF V a b (t + 11) 2 = V (t + 11) 2 := by rw [pV, if_neg (by omega), if_neg (by omega), if_neg (by omega), if_neg (by omega), if_neg (by omega)]
  have go : ∀ r k, ¬ (r = 0 ∧ k = 2) → ¬ r = 7 → ¬ r = 6 → ntF G a b r k = G r k := fun r k g1 g2 g3 => by rw [pG, if_neg g1, if_neg (by omega), if_neg (by omega)]
  have pti : ptn (tiF V a b) i = b := by
    show tiF V a b (i + 5) 9 = b
    rw [pV, if_neg (by omega), if_neg (by omega), if_pos ⟨rfl, rfl⟩]
  have ptj : ptn (tiF V a b) j = a := by
    show tiF V a b (j + 5) 9 = a
    rw [pV, if_neg (by omega), if_pos ⟨rfl, rfl⟩]
  have pto : ∀ k, k < 6 → ¬ k = i → ¬ k = j → ptn (tiF V a b) k = ptn V k := fun k g0 g1 g2 => by
    show tiF V a b (k + 5) 9 = V (k + 5) 9
    rw [pV, if_neg (by omega), if_neg (by omega), if_neg (by omega), if_neg (by omega), if_neg (by omega)]
  have na : ∀ n k, ¬ n = t → n < 3 → (nA (tiF V a b) n = k ↔ nA V n = k) ∧ (nB (tiF V a b) n = k ↔ nB V n = k) := fun n k g1 _ => by
    unfold nA nB
    rw [nj n 0 g1, nj n 1 g1]
    exact ⟨Iff.rfl, Iff.rfl⟩
  have nat_ : nA (tiF V a b) t = i := by unfold nA; rw [nt0, i1]
  have nbt : nB (tiF V a b) t = j := by unfold nB; rw [nt1, j1]
  rw [t1] at p1 p2 p3
  refine ⟨h0.2.1.symm, ⟨?_, ?_, ?_, ?_, fun k hk => ?_, fun n hn => ?_, ?_, ?_, ?_⟩, by rw [go 0 0 (by omega) (by omega) (by omega)]; exact hG⟩
  · have g02 : ntF G a b 0 2 = G 0 2 + 1 := by rw [pG, if_pos ⟨rfl, rfl⟩]
    unfold r0
    rw [go 0 1 (by omega) (by omega) (by omega), g02, go 0 3 (by omega) (by omega) (by omega), v02, v03, vo 4 3 (by omega) (by omega) (by omega), vo 0 0 (by omega) (by omega) (by omega), vo 0 1 (by omega) (by omega) (by omega), vo 0 4 (by omega) (by omega) (by omega), vo 0 5 (by omega) (by omega) (by omega)]
    obtain ⟨q1, q2, q3, q4, q5, q6, q7, q8, q9, r, q10, q11⟩ := h0
    exact ⟨q1, by rw [q2], q3, q4, q5, q6, q7, q8, by rw [et, nI_1]; exact vp_in_nI (by omega) (by decide), r, by omega, q11⟩
  · intro k hk
    rw [go 1 k (by omega) (by omega) (by omega), go 2 k (by omega) (by omega) (by omega)]
    exact hK k hk
  · intro k hk
    by_cases h9 : k = 9
    · rw [pV, if_neg (by omega), if_neg (by omega), if_neg (by omega), if_neg (by omega), if_neg (by omega)]
      exact hS k hk
    · rw [vo 3 k (by omega) h9 (by omega)]
      exact hS k hk
  · refine ⟨fun k hk => ?_, fun k hk => ?_⟩
    · rw [vo 4 k (by omega) (by omega) (by omega)]
      obtain ⟨s, h1, h2⟩ := hH.1 k hk
      exact ⟨s, by omega, h2⟩
    · rw [vo 4 k (by omega) (by omega) (by omega), go 8 k (by omega) (by omega) (by omega)]
      exact hH.2 k hk
  · rw [v02]
    exact rC_of (hc k hk) (fun q hq => vo (k + 5) q (by omega) (by omega) (by omega)) (fun _ _ _ => rfl) (fun r q1 q2 => go r k (by omega) (by omega) (by omega)) Iff.rfl
  · obtain ⟨f1, f2, f3, f4, f5⟩ := hnn n hn
    unfold rN
    by_cases hnt : n = t
    · subst hnt
      have g6 : ntF G a b 6 n = a := by rw [pG, if_neg (by omega), if_neg (by omega), if_pos ⟨rfl, rfl⟩]
      have g7 : ntF G a b 7 n = b := by rw [pG, if_neg (by omega), if_pos ⟨rfl, rfl⟩]
      rw [nt0, nt1, nt2, g6, g7]
      exact ⟨rfl, rfl, f3, by rw [ea]; exact vp_in_nI hi (by decide), by rw [eb]; exact vp_in_nI hj (by decide)⟩
    · have g6 : ntF G a b 6 n = G 6 n := by rw [pG, if_neg (by omega), if_neg (by omega), if_neg (by omega)]
      have g7 : ntF G a b 7 n = G 7 n := by rw [pG, if_neg (by omega), if_neg (by omega), if_neg (by omega)]
      rw [nj n 0 hnt, nj n 1 hnt, nj n 2 hnt, g6, g7]
      exact ⟨f1, f2, f3, f4, f5⟩
  · intro n hn
    rw [e03] at hn
    rw [v02]
    by_cases hnt : n = t
    · subst hnt
      rw [nat_, nbt, pti, ptj, nt0, nt1]
      exact ⟨hiM, hjM, hij, rfl, rfl⟩
    · obtain ⟨q1, q2, q3, q4, q5⟩ := p1 n (by omega)
      obtain ⟨f1, f2, f3, f4, f5⟩ := hnn n (by omega)
      have eA : nA (tiF V a b) n = nA V n := ((na n _ hnt (by omega)).1).mpr rfl
      have eB : nB (tiF V a b) n = nB V n := ((na n _ hnt (by omega)).2).mpr rfl
      obtain ⟨v, hv, ev⟩ := in_ex f4 (by decide)
      obtain ⟨w, hw, ew⟩ := in_ex f5 (by decide)
      have n1 : ¬ ptn V (nA V n) = -1 := by rw [q4, ew]; exact nI_nm (by omega)
      have n2 : ¬ ptn V (nB V n) = -1 := by rw [q5, ev]; exact nI_nm (by omega)
      rw [eA, eB, nj n 0 hnt, nj n 1 hnt, pto _ (by omega) (fun q => n1 (by rw [q]; exact z4)) (fun q => n1 (by rw [q]; exact z5)), pto _ (by omega) (fun q => n2 (by rw [q]; exact z4)) (fun q => n2 (by rw [q]; exact z5))]
      exact ⟨q1, q2, q3, q4, q5⟩
  · intro k hk
    rw [e03]
    by_cases hki : k = i
    · exact Or.inr ⟨t, by omega, Or.inl (nat_.trans hki.symm)⟩
    · by_cases hkj : k = j
      · exact Or.inr ⟨t, by omega, Or.inr (nbt.trans hkj.symm)⟩
      · rw [pto k hk hki hkj]
        rcases p2 k hk with h | ⟨n, hn, h⟩
        · exact Or.inl h
        · refine Or.inr ⟨n, by omega, ?_⟩
          have q := na n k (by omega) (by omega)
          exact h.elim (fun h => Or.inl (q.1.mpr h)) (fun h => Or.inr (q.2.mpr h))
  · rw [e03]
    have c1 : ptC (fun k => if k = i then b else ptn V k) 6 = ptC (ptn V) 6 + 1 := ptC_up (a := i) z4 (by show ¬ (if i = i then b else _) = -1; rw [if_pos rfl, eb]; exact nI_nm (by omega)) (fun k hk => if_neg hk) 6 hi
    have c2 : ptC (fun k => if k = j then a else if k = i then b else ptn V k) 6 = ptC (fun k => if k = i then b else ptn V k) 6 + 1 := ptC_up (a := j) (by show (if j = i then b else _) = -1; rw [if_neg (fun q => hij q.symm)]; exact z5) (by show ¬ (if j = j then a else _) = -1; rw [if_pos rfl, ea]; exact nI_nm (by omega)) (fun k hk => if_neg hk) 6 hj
    have c3 : ptC (ptn (tiF V a b)) 6 = ptC (fun k => if k = j then a else if k = i then b else ptn V k) 6 := ptC_congr 6 (fun k hk => by
      show _ = if k = j then a else if k = i then b else ptn V k
      by_cases hkj : k = j
      · rw [if_pos hkj, hkj, ptj]
      · rw [if_neg hkj]
        by_cases hki : k = i
        · rw [if_pos hki, hki, pti]
        · rw [if_neg hki, pto k hk hki hkj])
    omega
