/-! ===== the calls: codes and answers ===== -/
theorem ite_p {c c' : Prop} [Decidable c] [Decidable c'] {α : Type} {a a' b b' : α} (h : c ↔ c') (h1 : a = a') (h2 : b = b') : (if c then a else b) = if c' then a' else b' := by
  by_cases hc : c
  · rw [if_pos hc, if_pos (h.mp hc), h1]
  · rw [if_neg hc, if_neg (fun z => hc (h.mpr z)), h2]
theorem ite_z {c : Prop} [Decidable c] {k x : Nat} (hk : ¬ k = 0) (h : (if c then k else x) = 0) : ¬ c ∧ x = 0 := by
  by_cases hc : c
  · rw [if_pos hc] at h; exact absurd h hk
  · rw [if_neg hc] at h; exact ⟨hc, h⟩
theorem ii_0 (x a b : Int32) : iiF x a b = 0 ↔ caP x a b := by
  unfold iiF
  by_cases h1 : x < a
  · rw [if_pos h1]; exact ⟨fun _ => Or.inl h1, fun _ => rfl⟩
  · rw [if_neg h1]
    by_cases h2 : b < x
    · rw [if_pos h2]; exact ⟨fun _ => Or.inr h2, fun _ => rfl⟩
    · rw [if_neg h2]; exact ⟨fun z => absurd z (by decide), fun z => absurd z (fun z => z.elim h1 h2)⟩
theorem ci_ca {x M m1 : Int32} (h : m1.toInt + 1 = M.toInt) : ciP x M ↔ caP x 0 m1 := by
  refine or_congr Iff.rfl ?_
  rw [Int32.le_iff_toInt_le, Int32.lt_iff_toInt_lt]
  omega
theorem ii_ci {x M m1 : Int32} (h : m1.toInt + 1 = M.toInt) : iiF x 0 m1 = 0 ↔ ciP x M := (ii_0 x 0 m1).trans (ci_ca h).symm
theorem m1_M {x : Int32} {n : Nat} (h : vp_in x (n + 1)) (hn : n + 1 < 2 ^ 31) : (x - 1).toInt + 1 = x.toInt := by
  rw [m1_I h hn]
  obtain ⟨j, hj, rfl⟩ := in_ex h hn
  rw [ix_nI (by omega), nI_toInt (by omega)]
theorem iM {B : Nat} {K V G U : FV} (R : RI B K V G U) (x : Int32) : iiF x 0 (G 0 1 - 1) = 0 ↔ ciP x (V 0 2) := by
  rw [R.1.1]
  exact ii_ci (m1_M R.1.2.2.2.2.2.2.2.1 (by decide))
theorem iT {B : Nat} {K V G U : FV} (R : RI B K V G U) (x : Int32) : iiF x 0 (G 0 2 - 1) = 0 ↔ ciP x (V 0 3) := by
  rw [R.1.2.1]
  exact ii_ci (m1_M R.1.2.2.2.2.2.2.2.2.1 (by decide))
theorem ci_lt {c M : Int32} {n : Nat} (h : ¬ ciP c M) (hM : vp_in M (n + 1)) (hn : n + 1 < 2 ^ 31) : ix c < ix M := by
  obtain ⟨j, hj, ej⟩ := in_ex (nci h hM) (by omega)
  obtain ⟨m, hm, em⟩ := in_ex hM hn
  have h2 : ¬ M ≤ c := fun z => h (Or.inr z)
  rw [ej, em, nI_leI (by omega) (by omega)] at h2
  rw [ej, em, ix_nI (by omega), ix_nI (by omega)]
  omega
theorem cM {B : Nat} {K V G U : FV} (R : RI B K V G U) {c : Int32} (h : ¬ ciP c (V 0 2)) : vp_in c 6 ∧ ix c < ix (V 0 2) ∧ ix c < 6 := ⟨nci h R.1.2.2.2.2.2.2.2.1, ci_lt h R.1.2.2.2.2.2.2.2.1 (by decide), in_ix (nci h R.1.2.2.2.2.2.2.2.1)⟩
theorem cT {B : Nat} {K V G U : FV} (R : RI B K V G U) {c : Int32} (h : ¬ ciP c (V 0 3)) : vp_in c 3 ∧ ix c < ix (V 0 3) := ⟨nci h R.1.2.2.2.2.2.2.2.2.1, ci_lt h R.1.2.2.2.2.2.2.2.2.1 (by decide)⟩
def Cl (k cd cm : Nat) (a b : Int32) (P : Prop) : Prop := k = cm ∧ (cd = 0 ↔ cm = 0) ∧ (cd = 0 → a = b ∧ P)
theorem Cl.id {cd cm : Nat} {a b : Int32} {P : Prop} (h : cd = cm) (h2 : cd = 0 → a = b ∧ P) : Cl cd cd cm a b P := ⟨h, by rw [h], h2⟩
def lkT (c : Nat) : Nat := if c = 3 then 2 else c
def lkP (c : Nat) : Nat := if c = 2 then 1 else c
def lkG (c : Nat) : Nat := if c = 2 then 1 else if c = 1 then 2 else c
theorem RI_up {B B' : Nat} {K V G U : FV} (R : RI B K V G U) (h : B ≤ B') : RI B' K V G U := by
  obtain ⟨⟨g1, g2, g3, g4, g5, g6, g7, g8, g9, t, g10, g11⟩, hK, hS, hH, hc, hnn, hp⟩ := R
  refine ⟨⟨g1, g2, g3, g4, g5, g6, g7, g8, g9, t, by omega, g11⟩, hK, hS, ⟨fun i hi => ?_, hH.2⟩, hc, hnn, hp⟩
  obtain ⟨s, h1, h2⟩ := hH.1 i hi
  exact ⟨s, by omega, h2⟩
theorem RI_G {B : Nat} {K K' V G G' U : FV} (R : RI B K V G U) (hG : ∀ r, ¬ r = 1 → ¬ r = 2 → ∀ k, ¬ (r = 0 ∧ k = 0) → G' r k = G r k) (hK' : rK K' G') : RI B K' V G' U := by
  obtain ⟨h0, hK, hS, hH, hc, hnn, hp⟩ := R
  refine ⟨?_, hK', hS, ⟨hH.1, fun i hi => by rw [hG 8 (by omega) (by omega) i (by omega)]; exact hH.2 i hi⟩, fun k hk => ?_, fun n hn => ?_, hp⟩
  · unfold r0 at h0 ⊢
    rw [hG 0 (by omega) (by omega) 1 (by omega), hG 0 (by omega) (by omega) 2 (by omega), hG 0 (by omega) (by omega) 3 (by omega)]
    exact h0
  · exact rC_of (hc k hk) (fun _ _ => rfl) (fun _ _ _ => rfl) (fun r g1 g2 => hG r (by omega) (by omega) k (by omega)) Iff.rfl
  · exact rN_of (hnn n hn) (fun _ _ => rfl) rfl (hG 6 (by omega) (by omega) n (by omega)) (hG 7 (by omega) (by omega) n (by omega))
theorem th_at (F : FV) {r k : Nat} (h : ¬ (r = 0 ∧ k = 0)) : th F r k = F r k := vU_ne _ _ _ _ h
theorem th_0 (F : FV) : th F 0 0 = 0 := vU_eq _ _ _ _
theorem RI_th {B : Nat} {K V G U : FV} (R : RI B K V G U) : RI B K V (th G) U := RI_G R (fun r _ _ k h => th_at G h) (fun i hi => by rw [th_at G (by omega), th_at G (by omega)]; exact R.2.1 i hi)
theorem th_fail (F : FV) (c : Int32) : th (vU (th F) 0 0 c) = th F := by
  funext r k
  by_cases h : r = 0 ∧ k = 0
  · rw [h.1, h.2, th_0, th_0]
  · rw [th_at _ h, vU_ne _ _ _ _ h]
/-- one coracle changes, perhaps coins and what was sold -/
theorem RI_c {B : Nat} {K V V' G U U' : FV} (R : RI B K V G U) (k : Nat) (h0 : r0 B V' G U') (hS : ∀ i, V' 3 i = V 3 i ∧ U' 1 i = U 1 i) (h4 : ∀ i, V' 4 i = V 4 i) (hV : ∀ j i, ¬ j = k → V' (j + 5) i = V (j + 5) i) (hU : ∀ r j, 2 ≤ r → r ≤ 7 → ¬ j = k → U' r j = U r j) (hcc : rC (k < ix (V 0 2)) (V' (k + 5)) G U' k) (h9 : V' (k + 5) 9 = V (k + 5) 9) (hk6 : k < 6) (h8 : ∀ n, U' 8 n = U 8 n) (z2 : V' 0 2 = V 0 2) (z3 : V' 0 3 = V 0 3) : RI B K V' G U' := by
  obtain ⟨g0, hK, gS, hH, hc, hnn, hp⟩ := R
  refine ⟨h0, hK, fun i hi => ?_, ⟨fun i hi => by rw [h4]; exact hH.1 i hi, fun i hi => by rw [h4]; exact hH.2 i hi⟩, fun j hj => ?_, fun n hn => ?_, ?_⟩
  · rw [(hS i).1, (hS i).2]; exact gS i hi
  · rw [z2]
    by_cases hjk : j = k
    · subst hjk; exact hcc
    · exact rC_of (hc j hj) (fun i _ => hV j i hjk) (fun r g1 g2 => hU r j g1 g2 hjk) (fun _ _ _ => rfl) Iff.rfl
  · exact rN_of (hnn n hn) (fun i _ => hV (n + 6) i (by omega)) (h8 n) rfl rfl
  · refine rP_of hp g0.2.2.2.2.2.2.2.2.1 z2 z3 (fun j hj => ?_) g0.2.2.2.2.2.2.2.1 (fun n _ => ⟨hV (n + 6) 0 (by omega), hV (n + 6) 1 (by omega)⟩)
    by_cases hjk : j = k
    · subst hjk; exact h9
    · exact hV j 9 hjk
theorem st_eq (h b M : Int32) : stC h b M = stM h b M := ite_p (ii_ci (by decide)).symm rfl (ite_p (ii_0 b 0 M).symm rfl rfl)
theorem st_in {h b M : Int32} (z : stC h b M = 0) : vp_in h 8 ∧ ¬ caP b 0 M := by
  obtain ⟨z1, z2⟩ := ite_z (by decide) z
  obtain ⟨z3, -⟩ := ite_z (by decide) z2
  exact ⟨nci_l z1 (by decide), z3⟩
theorem op_setDrift {B : Nat} {K V G U : FV} (R : RI B K V G U) (hG : G 0 0 = 0) (h b : Int32) : Cl (stC h b 5) (stC h b 5) (stM h b 5) (K 1 (ix h)) (G 1 (ix h)) (RI (B + 40) (vU K 1 (ix h) b) V (vU G 1 (ix h) b) U ∧ vU G 1 (ix h) b 0 0 = 0) := by
  refine Cl.id (st_eq h b 5) (fun z => ?_)
  obtain ⟨z1, z2⟩ := st_in z
  refine ⟨(R.2.1 _ (in_ix z1)).1.symm, RI_up (RI_G R (fun r g1 g2 k _ => vU_ne _ _ _ _ (by omega)) (fun i hi => ?_)) (by omega), by rw [vU_ne _ _ _ _ (by omega)]; exact hG⟩
  obtain ⟨f1, f2, f3, f4⟩ := R.2.1 i hi
  rw [vU_ne _ _ _ _ (show ¬ (2 = 1 ∧ i = ix h) by omega), vU_ne _ _ _ _ (show ¬ (2 = 1 ∧ i = ix h) by omega)]
  by_cases hi2 : i = ix h
  · subst hi2
    rw [vU_eq, vU_eq]
    exact ⟨rfl, f2, nca z2 (by decide) (by decide), f4⟩
  · rw [vU_ne _ _ _ _ (by omega), vU_ne _ _ _ _ (by omega)]
    exact ⟨f1, f2, f3, f4⟩
theorem op_setRun {B : Nat} {K V G U : FV} (R : RI B K V G U) (hG : G 0 0 = 0) (h b : Int32) : Cl (stC h b 9) (stC h b 9) (stM h b 9) (K 2 (ix h)) (G 2 (ix h)) (RI (B + 40) (vU K 2 (ix h) b) V (vU G 2 (ix h) b) U ∧ vU G 2 (ix h) b 0 0 = 0) := by
  refine Cl.id (st_eq h b 9) (fun z => ?_)
  obtain ⟨z1, z2⟩ := st_in z
  refine ⟨(R.2.1 _ (in_ix z1)).2.1.symm, RI_up (RI_G R (fun r g1 g2 k _ => vU_ne _ _ _ _ (by omega)) (fun i hi => ?_)) (by omega), by rw [vU_ne _ _ _ _ (by omega)]; exact hG⟩
  obtain ⟨f1, f2, f3, f4⟩ := R.2.1 i hi
  rw [vU_ne _ _ _ _ (show ¬ (1 = 2 ∧ i = ix h) by omega), vU_ne _ _ _ _ (show ¬ (1 = 2 ∧ i = ix h) by omega)]
  by_cases hi2 : i = ix h
  · subst hi2
    rw [vU_eq, vU_eq]
    exact ⟨f1, rfl, f3, nca z2 (by decide) (by decide)⟩
  · rw [vU_ne _ _ _ _ (by omega), vU_ne _ _ _ _ (by omega)]
    exact ⟨f1, f2, f3, f4⟩
theorem pr_eq {x : Int32} (h : vp_in x 4) : prc (ix x) = prM x := by
  obtain ⟨j, hj, rfl⟩ := in_ex h (by decide)
  rw [ix_nI (by omega)]
  have : ∀ j, j < 4 → prc j = prM (nI j) := by decide +kernel
  exact this j hj
theorem bu_eq {B : Nat} {K V G U : FV} (R : RI B K V G U) (x n : Int32) : buC V x n = buM U x n := by
  unfold buC buM
  by_cases hc : ciP x 4
  · rw [if_pos hc, if_pos ((ii_ci (M := 4) (by decide)).mpr hc)]
  · rw [if_neg hc, if_neg (fun z => hc ((ii_ci (M := 4) (by decide)).mp z))]
    refine ite_p (ii_0 n 1 40).symm rfl ?_
    rw [R.1.2.2.2.2.1, pr_eq (nci_l hc (by decide)), Int32.mul_comm (prM x) n]
    by_cases h : V 0 1 < n * prM x
    · rw [if_pos h, if_neg (Int32.not_le.mpr h)]
    · rw [if_neg h, if_pos (Int32.not_lt.mp h)]
theorem op_buy {B : Nat} {K V G U : FV} (R : RI B K V G U) (hB : B + 200 < 2 ^ 31) (hG : G 0 0 = 0) (x n : Int32) : Cl (buC V x n) (buC V x n) (buM U x n) (buV V x n 4 (ix x)) (buA G x n) (RI (B + 40) K (buV V x n) (buF G x n) (vU U 0 1 (U 0 1 - n * prM x)) ∧ buF G x n 0 0 = 0) := by
  refine Cl.id (bu_eq R x n) (fun z => ?_)
  obtain ⟨h0, hK, hS, hH, hc, hnn, hp⟩ := R
  obtain ⟨z1, z2⟩ := ite_z (by decide) z
  obtain ⟨z3, -⟩ := ite_z (by decide) z2
  have hx : vp_in x 4 := nci_l z1 (by decide)
  have hn : vp_in n 41 := nca z3 (by decide) (by decide)
  obtain ⟨m, hm, em⟩ := in_ex hn (by decide)
  have hx4 := in_ix hx
  have pV : ∀ j i, buV V x n j i = if j = 4 ∧ i = ix x then V 4 (ix x) + n else if j = 0 ∧ i = 1 then V 0 1 - n * prM x else V j i := fun j i => by
    unfold buV
    try dsimp only
    rw [vU_at, vU_ne _ _ _ _ (show ¬ (4 = 0 ∧ ix x = 1) by omega), vU_at, pr_eq hx, Int32.mul_comm (prM x) n]
  have f0 : ∀ k, ¬ k = 3 → buF G x n 0 k = G 0 k := fun k hk => by
    unfold buF
    split
    · rw [vU_ne _ _ _ _ (by omega)]
    · rw [vU_ne _ _ _ _ (by omega)]
  have fr : ∀ r k, 1 ≤ r → r ≤ 7 → buF G x n r k = G r k := fun r k g1 g2 => by
    unfold buF
    split
    · rw [vU_ne _ _ _ _ (by omega)]
    · rw [vU_ne _ _ _ _ (by omega)]
  have e3 : x = 3 ↔ ix x = 3 := by
    obtain ⟨j, hj, ej⟩ := in_ex hx (by decide)
    rw [ej, ix_nI (by omega)]
    have : ∀ j, j < 4 → (nI j = 3 ↔ j = 3) := by decide +kernel
    exact this j hj
  have f3 : buF G x n 0 3 = buV V x n 4 3 := by
    rw [pV]
    by_cases h3 : x = 3
    · have e : buF G x n = vU G 0 3 (G 0 3 + n) := if_pos h3
      rw [e, vU_eq, if_pos ⟨rfl, (e3.mp h3).symm⟩, e3.mp h3, h0.2.2.1]
    · have e : buF G x n = vU G 8 (ix x) (G 8 (ix x) + n) := if_neg h3
      rw [e, vU_ne _ _ _ _ (by omega), if_neg (fun q => h3 (e3.mpr q.2.symm)), if_neg (by omega), h0.2.2.1]
  have f8 : ∀ i, i < 3 → buF G x n 8 i = buV V x n 4 i := fun i hi => by
    rw [pV]
    by_cases h3 : x = 3
    · have e : buF G x n = vU G 0 3 (G 0 3 + n) := if_pos h3
      have e9 := e3.mp h3
      rw [e, vU_ne _ _ _ _ (by omega), if_neg (by omega), if_neg (by omega), hH.2 i hi]
    · have e : buF G x n = vU G 8 (ix x) (G 8 (ix x) + n) := if_neg h3
      rw [e, vU_at]
      by_cases hix : i = ix x
      · rw [if_pos ⟨rfl, hix⟩, if_pos ⟨rfl, hix⟩, ← hix, hH.2 i hi]
      · rw [if_neg (by omega), if_neg (by omega), if_neg (by omega), hH.2 i hi]
  have v0 : ∀ k, ¬ k = 1 → buV V x n 0 k = V 0 k := fun k hk => by rw [pV, if_neg (by omega), if_neg (by omega)]
  have vr : ∀ j i, ¬ j = 0 → ¬ j = 4 → buV V x n j i = V j i := fun j i g1 g2 => by rw [pV, if_neg (by omega), if_neg (by omega)]
  have ur : ∀ r k, ¬ r = 0 → vU U 0 1 (U 0 1 - n * prM x) r k = U r k := fun r k hr => vU_ne _ _ _ _ (by omega)
  refine ⟨?_, ⟨?_, ?_, ?_, ?_, fun k hk => ?_, fun q hq => ?_, ?_⟩, by rw [f0 0 (by omega)]; exact hG⟩
  · rw [pV, if_pos ⟨rfl, rfl⟩]
    unfold buA
    by_cases h3 : x = 3
    · rw [if_pos h3, e3.mp h3, h0.2.2.1]
    · rw [if_neg h3, hH.2 (ix x) (by have : ¬ ix x = 3 := fun q => h3 (e3.mpr q); omega)]
  · unfold r0
    rw [f0 1 (by omega), f0 2 (by omega), f3, v0 2 (by omega), v0 3 (by omega), v0 0 (by omega), v0 4 (by omega), v0 5 (by omega), vU_ne U 0 1 _ (show ¬ (0 = 0 ∧ 0 = 1) by omega), vU_eq, vU_ne U 0 1 _ (show ¬ (0 = 0 ∧ 2 = 1) by omega), vU_ne U 0 1 _ (show ¬ (0 = 0 ∧ 3 = 1) by omega)]
    obtain ⟨g1, g2, g3, g4, g5, g6, g7, g8, g9, t, g10, g11⟩ := h0
    exact ⟨g1, g2, rfl, g4, by rw [pV, if_neg (by omega), if_pos ⟨rfl, rfl⟩, g5], g6, g7, g8, g9, t, by omega, g11⟩
  · intro i hi
    rw [fr 1 i (by omega) (by omega), fr 2 i (by omega) (by omega)]
    exact hK i hi
  · intro i hi
    rw [vr 3 i (by omega) (by omega), ur 1 i (by omega)]
    exact hS i hi
  · refine ⟨fun i hi => ?_, f8⟩
    obtain ⟨s, h1, h2⟩ := hH.1 i hi
    rw [pV]
    by_cases hix : i = ix x
    · rw [if_pos ⟨rfl, hix⟩, ← hix, h2, em, nI_add]
      exact ⟨s + m, by omega, rfl⟩
    · rw [if_neg (by omega), if_neg (by omega)]
      exact ⟨s, by omega, h2⟩
  · rw [v0 2 (by omega)]
    exact rC_of (hc k hk) (fun i _ => vr (k + 5) i (by omega) (by omega)) (fun r g1 g2 => ur r k (by omega)) (fun r g1 g2 => fr r k (by omega) (by omega)) Iff.rfl
  · exact rN_of (hnn q hq) (fun i _ => vr (q + 11) i (by omega) (by omega)) (ur 8 q (by omega)) (fr 6 q (by omega) (by omega)) (fr 7 q (by omega) (by omega))
  · exact rP_of hp h0.2.2.2.2.2.2.2.2.1 (v0 2 (by omega)) (v0 3 (by omega)) (fun k _ => vr (k + 5) 9 (by omega) (by omega)) h0.2.2.2.2.2.2.2.1 (fun q _ => ⟨vr (q + 11) 0 (by omega) (by omega), vr (q + 11) 1 (by omega) (by omega)⟩)
/-! send, tar, land -/
theorem am_at {B : Nat} {K V G U : FV} (R : RI B K V G U) {k : Nat} (hk : k < 6) (hm : k < ix (V 0 2)) : atF (V (k + 5)) 0 = amF U k := by
  have h := R.2.2.2.2.1 k hk
  unfold atF amF
  rcases st_ok h hm with ⟨h8, h7⟩ | ⟨h8, h7⟩
  · rw [if_neg (by rw [h8]; decide), if_pos h7, h.1.2.2.2.1]
  · rw [if_pos h8, if_neg (by rw [h7]; decide)]
theorem ta_eq {B : Nat} {K V G U : FV} (R : RI B K V G U) (c : Int32) : lkT (taC V c) = taM G U c ∧ (taC V c = 0 ↔ taM G U c = 0) := by
  unfold taC taM
  by_cases hc : ciP c (V 0 2)
  · rw [if_pos hc, if_pos ((iM R c).mpr hc)]; exact ⟨rfl, Iff.rfl⟩
  · rw [if_neg hc, if_neg (fun z => hc ((iM R c).mp z)), am_at R (cM R hc).2.2 (cM R hc).2.1, R.1.2.2.2.2.1]
    by_cases h1 : amF U (ix c) = 0
    · rw [if_pos h1, if_pos h1]; exact ⟨rfl, ⟨fun z => absurd z (by decide), fun z => absurd z (by decide)⟩⟩
    · rw [if_neg h1, if_neg h1]
      by_cases h2 : V 0 1 < 3
      · rw [if_pos h2, if_neg (Int32.not_le.mpr h2)]; exact ⟨rfl, ⟨fun z => absurd z (by decide), fun z => absurd z (by decide)⟩⟩
      · rw [if_neg h2, if_pos (Int32.not_lt.mp h2)]; exact ⟨rfl, Iff.rfl⟩
theorem op_tar {B : Nat} {K V G U : FV} (R : RI B K V G U) (hG : G 0 0 = 0) (c : Int32) : Cl (lkT (taC V c)) (taC V c) (taM G U c) (V (ix c + 5) 6) (U 5 (ix c)) (RI (B + 40) K (taV V (ix c)) G (taU U (ix c)) ∧ G 0 0 = 0) := by
  refine ⟨(ta_eq R c).1, (ta_eq R c).2, fun z => ?_⟩
  obtain ⟨z1, -⟩ := ite_z (by decide) z
  obtain ⟨hc6, hcM, hk⟩ := cM R z1
  obtain ⟨k, ek⟩ : ∃ k, k = ix c := ⟨_, rfl⟩
  rw [← ek] at hcM hk ⊢
  have h := R.2.2.2.2.1 k hk
  have pV : ∀ j i, taV V k j i = if j = k + 5 ∧ i = 6 then 0 else if j = k + 5 ∧ i = 5 then 30 else if j = 0 ∧ i = 1 then V 0 1 - 3 else V j i := fun j i => by
    unfold taV
    rw [vU_at, vU_at, vU_at]
  have pU : ∀ j i, taU U k j i = if j = 5 ∧ i = k then 0 else if j = 4 ∧ i = k then 30 else if j = 0 ∧ i = 1 then U 0 1 - 3 else U j i := fun j i => by
    unfold taU
    rw [vU_at, vU_at, vU_at]
  have vo : ∀ j i, ¬ (j = k + 5 ∧ i = 6) → ¬ (j = k + 5 ∧ i = 5) → ¬ (j = 0 ∧ i = 1) → taV V k j i = V j i := fun j i g1 g2 g3 => by rw [pV, if_neg g1, if_neg g2, if_neg g3]
  have uo : ∀ j i, ¬ (j = 5 ∧ i = k) → ¬ (j = 4 ∧ i = k) → ¬ (j = 0 ∧ i = 1) → taU U k j i = U j i := fun j i g1 g2 g3 => by rw [pU, if_neg g1, if_neg g2, if_neg g3]
  refine ⟨h.1.2.2.2.2.2.2.1.symm, RI_up (RI_c R k ?_ (fun i => ⟨vo 3 i (by omega) (by omega) (by omega), uo 1 i (by omega) (by omega) (by omega)⟩) (fun i => vo 4 i (by omega) (by omega) (by omega)) (fun j i hj => vo (j + 5) i (by omega) (by omega) (by omega)) (fun r j _ _ hj => uo r j (by omega) (by omega) (by omega)) ?_ (vo (k + 5) 9 (by omega) (by omega) (by omega)) hk (fun n => uo 8 n (by omega) (by omega) (by omega)) (vo 0 2 (by omega) (by omega) (by omega)) (vo 0 3 (by omega) (by omega) (by omega))) (by omega), hG⟩
  · have q1 : taV V k 0 1 = V 0 1 - 3 := by rw [pV, if_neg (by omega), if_neg (by omega), if_pos ⟨rfl, rfl⟩]
    have q2 : taU U k 0 1 = U 0 1 - 3 := by rw [pU, if_neg (by omega), if_neg (by omega), if_pos ⟨rfl, rfl⟩]
    unfold r0
    rw [q1, q2, vo 0 2 (by omega) (by omega) (by omega), vo 0 3 (by omega) (by omega) (by omega), vo 4 3 (by omega) (by omega) (by omega), vo 0 0 (by omega) (by omega) (by omega), vo 0 4 (by omega) (by omega) (by omega), vo 0 5 (by omega) (by omega) (by omega), uo 0 0 (by omega) (by omega) (by omega), uo 0 2 (by omega) (by omega) (by omega), uo 0 3 (by omega) (by omega) (by omega)]
    obtain ⟨g1, g2, g3, g4, g5, g6, g7, g8, g9, t, g10, g11⟩ := R.1
    exact ⟨g1, g2, g3, g4, by rw [g5], g6, g7, g8, g9, t, g10, g11⟩
  · obtain ⟨⟨a0, a1, a2, a3, a4, a5, a6, a7⟩, ⟨b1, b2, b3, b4, b5, b6⟩, h3⟩ := h
    have w : ∀ i, ¬ i = 5 → ¬ i = 6 → taV V k (k + 5) i = V (k + 5) i := fun i g1 g2 => vo _ _ (by omega) (by omega) (by omega)
    have u : ∀ r, 2 ≤ r → ¬ r = 4 → ¬ r = 5 → taU U k r k = U r k := fun r g0 g1 g2 => uo _ _ (by omega) (by omega) (by omega)
    have w5 : taV V k (k + 5) 5 = 30 := by rw [pV, if_neg (by omega), if_pos ⟨rfl, rfl⟩]
    have w6 : taV V k (k + 5) 6 = 0 := by rw [pV, if_pos ⟨rfl, rfl⟩]
    have u4 : taU U k 4 k = 30 := by rw [pU, if_neg (by omega), if_pos ⟨rfl, rfl⟩]
    have u5 : taU U k 5 k = 0 := by rw [pU, if_pos ⟨rfl, rfl⟩]
    unfold rC
    rw [w5, w6, u4, u5, w 0 (by omega) (by omega), w 1 (by omega) (by omega), w 2 (by omega) (by omega), w 3 (by omega) (by omega), w 4 (by omega) (by omega), w 7 (by omega) (by omega), w 8 (by omega) (by omega), u 2 (by omega) (by omega) (by omega), u 3 (by omega) (by omega) (by omega), u 6 (by omega) (by omega) (by omega), u 7 (by omega) (by omega) (by omega)]
    refine ⟨⟨a0, a1, a2, a3, a4, rfl, rfl, a7⟩, ⟨b1, b2, b3, b4, vp_in_nI (n := 30) (by decide) (by decide), b6⟩, ?_⟩
    rcases h3 with h3 | h3
    · exact Or.inl h3
    · exact absurd hcM h3.1
theorem la_eq {B : Nat} {K V G U : FV} (R : RI B K V G U) (c : Int32) : lkT (laC V c) = laM G U c ∧ (laC V c = 0 ↔ laM G U c = 0) := by
  unfold laC laM
  by_cases hc : ciP c (V 0 2)
  · rw [if_pos hc, if_pos ((iM R c).mpr hc)]; exact ⟨rfl, Iff.rfl⟩
  · rw [if_neg hc, if_neg (fun z => hc ((iM R c).mp z)), am_at R (cM R hc).2.2 (cM R hc).2.1]
    by_cases h1 : amF U (ix c) = 0
    · rw [if_pos h1, if_pos h1]; exact ⟨rfl, ⟨fun z => absurd z (by decide), fun z => absurd z (by decide)⟩⟩
    · rw [if_neg h1, if_neg h1]; exact ⟨rfl, Iff.rfl⟩
theorem op_land {B : Nat} {K V G U : FV} (R : RI B K V G U) (hG : G 0 0 = 0) (c : Int32) : Cl (lkT (laC V c)) (laC V c) (laM G U c) (2 * V (ix c + 5) 7) (2 * U 6 (ix c)) (RI (B + 40) K (laV V (ix c)) G (laU U (ix c)) ∧ G 0 0 = 0) := by
  refine ⟨(la_eq R c).1, (la_eq R c).2, fun z => ?_⟩
  obtain ⟨z1, -⟩ := ite_z (by decide) z
  obtain ⟨hc6, hcM, hk⟩ := cM R z1
  obtain ⟨k, ek⟩ : ∃ k, k = ix c := ⟨_, rfl⟩
  rw [← ek] at hcM hk ⊢
  have h := R.2.2.2.2.1 k hk
  have pV : ∀ j i, laV V k j i = if j = k + 5 ∧ i = 7 then 0 else if j = 0 ∧ i = 4 then V 0 4 + V (k + 5) 7 else if j = 0 ∧ i = 1 then V 0 1 + 2 * V (k + 5) 7 else V j i := fun j i => by
    unfold laV
    try dsimp only
    rw [vU_ne V 0 1 _ (show ¬ (0 = 0 ∧ 4 = 1) by omega), vU_ne V 0 1 _ (show ¬ (k + 5 = 0 ∧ 7 = 1) by omega), vU_at, vU_at, vU_at]
  have pU : ∀ j i, laU U k j i = if j = 0 ∧ i = 1 then U 0 1 + 2 * U 6 k else if j = 0 ∧ i = 2 then U 0 2 + U 6 k else if j = 6 ∧ i = k then 0 else U j i := fun j i => by
    unfold laU
    try dsimp only
    rw [vU_ne _ 0 2 _ (show ¬ (0 = 0 ∧ 1 = 2) by omega), vU_ne U 6 k _ (show ¬ (0 = 6 ∧ 1 = k) by omega), vU_ne U 6 k _ (show ¬ (0 = 6 ∧ 2 = k) by omega), vU_at, vU_at, vU_at]
  have vo : ∀ j i, ¬ (j = k + 5 ∧ i = 7) → ¬ (j = 0 ∧ i = 4) → ¬ (j = 0 ∧ i = 1) → laV V k j i = V j i := fun j i g1 g2 g3 => by rw [pV, if_neg g1, if_neg g2, if_neg g3]
  have uo : ∀ j i, ¬ (j = 0 ∧ i = 1) → ¬ (j = 0 ∧ i = 2) → ¬ (j = 6 ∧ i = k) → laU U k j i = U j i := fun j i g1 g2 g3 => by rw [pU, if_neg g1, if_neg g2, if_neg g3]
  have a7 := h.1.2.2.2.2.2.2.2
  refine ⟨by rw [a7], RI_up (RI_c R k ?_ (fun i => ⟨vo 3 i (by omega) (by omega) (by omega), uo 1 i (by omega) (by omega) (by omega)⟩) (fun i => vo 4 i (by omega) (by omega) (by omega)) (fun j i hj => vo (j + 5) i (by omega) (by omega) (by omega)) (fun r j _ _ hj => uo r j (by omega) (by omega) (by omega)) ?_ (vo (k + 5) 9 (by omega) (by omega) (by omega)) hk (fun n => uo 8 n (by omega) (by omega) (by omega)) (vo 0 2 (by omega) (by omega) (by omega)) (vo 0 3 (by omega) (by omega) (by omega))) (by omega), hG⟩
  · have q1 : laV V k 0 1 = V 0 1 + 2 * V (k + 5) 7 := by rw [pV, if_neg (by omega), if_neg (by omega), if_pos ⟨rfl, rfl⟩]
    have q4 : laV V k 0 4 = V 0 4 + V (k + 5) 7 := by rw [pV, if_neg (by omega), if_pos ⟨rfl, rfl⟩]
    have q2 : laU U k 0 1 = U 0 1 + 2 * U 6 k := by rw [pU, if_pos ⟨rfl, rfl⟩]
    have q5 : laU U k 0 2 = U 0 2 + U 6 k := by rw [pU, if_neg (by omega), if_pos ⟨rfl, rfl⟩]
    unfold r0
    rw [q1, q2, q4, q5, vo 0 2 (by omega) (by omega) (by omega), vo 0 3 (by omega) (by omega) (by omega), vo 4 3 (by omega) (by omega) (by omega), vo 0 0 (by omega) (by omega) (by omega), vo 0 5 (by omega) (by omega) (by omega), uo 0 0 (by omega) (by omega) (by omega), uo 0 3 (by omega) (by omega) (by omega), a7]
    obtain ⟨g1, g2, g3, g4, g5, g6, g7, g8, g9, t, g10, g11⟩ := R.1
    exact ⟨g1, g2, g3, g4, by rw [g5], by rw [g6], g7, g8, g9, t, g10, g11⟩
  · have w : ∀ i, ¬ i = 7 → laV V k (k + 5) i = V (k + 5) i := fun i g1 => vo _ _ (by omega) (by omega) (by omega)
    have u : ∀ r, 2 ≤ r → r ≤ 7 → ¬ r = 6 → laU U k r k = U r k := fun r g0 g1 g2 => uo _ _ (by omega) (by omega) (by omega)
    have w7 : laV V k (k + 5) 7 = 0 := by rw [pV, if_pos ⟨rfl, rfl⟩]
    have u6 : laU U k 6 k = 0 := by rw [pU, if_neg (by omega), if_neg (by omega), if_pos ⟨rfl, rfl⟩]
    obtain ⟨lh, ll, l1, l2, l3, l4⟩ := h.2.1.2.2.2.2.2
    exact rC_ld h hcM w u (by rw [u6, w7]) ⟨lh, 0, l1, by omega, l3, by rw [w7, nI_0]⟩
