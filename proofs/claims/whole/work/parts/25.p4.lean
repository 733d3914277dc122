/-! ===== tar and water ===== -/
theorem sb_4 (G U : FV) (k : Nat) : sbM G U k 4 k = mx 0 (U 4 k - 1) := by
  unfold sbM
  rw [vU_ne _ _ _ _ (by omega)]
  unfold saM
  rw [vU_eq]
theorem sb_5 (G U : FV) (k : Nat) : sbM G U k 5 k = U 5 k + lk2 (G 4 k) (mx 0 (U 4 k - 1)) := by
  have e4 : saM U k 4 k = mx 0 (U 4 k - 1) := by unfold saM; rw [vU_eq]
  have e5 : saM U k 5 k = U 5 k := by unfold saM; rw [vU_ne _ _ _ _ (by omega)]
  have el : lkM G (saM U k) k = lk2 (G 4 k) (saM U k 4 k) := rfl
  unfold sbM
  rw [vU_eq, e5, el, e4]
theorem sb_o (G U : FV) {k r : Nat} (h4 : ¬ r = 4) (h5 : ¬ r = 5) (j : Nat) : sbM G U k r j = U r j := by
  unfold sbM
  rw [vU_ne _ _ _ _ (by omega)]
  unfold saM
  rw [vU_ne _ _ _ _ (by omega)]
theorem sb_ne (G U : FV) {k j : Nat} (h : ¬ j = k) (r : Nat) : sbM G U k r j = U r j := by
  unfold sbM
  rw [vU_ne _ _ _ _ (by omega)]
  unfold saM
  rw [vU_ne _ _ _ _ (by omega)]
theorem soM_cong (G : FV) {U X : FV} {k : Nat} (h : ∀ r, X r k = U r k) (r : Nat) : soM G X k r k = soM G U k r k := by
  have hs : ∀ r, sbM G X k r k = sbM G U k r k := fun r => by
    by_cases h4 : r = 4
    · subst h4; rw [sb_4, sb_4, h]
    · by_cases h5 : r = 5
      · subst h5; rw [sb_5, sb_5, h, h]
      · rw [sb_o _ _ h4 h5, sb_o _ _ h4 h5, h]
  unfold soM
  rw [hs 5]
  by_cases hq : 2 * G 3 k ≤ sbM G U k 5 k
  · rw [if_pos hq, if_pos hq, vU_at, vU_at, vU_at, vU_at, hs]
  · rw [if_neg hq, if_neg hq, hs]
theorem soM_ne (G U : FV) {k j : Nat} (h : ¬ j = k) (r : Nat) : soM G U k r j = U r j := by
  unfold soM
  by_cases hq : 2 * G 3 k ≤ sbM G U k 5 k
  · rw [if_pos hq, vU_ne _ _ _ _ (by omega), vU_ne _ _ _ _ (by omega), sb_ne _ _ h]
  · rw [if_neg hq, sb_ne _ _ h]
theorem soI_at (G U : FV) : ∀ n r k, soI G U n r k = if k < n ∧ U 7 k = 0 then soM G U k r k else U r k
  | 0, r, k => by rw [if_neg (by omega)]; rfl
  | n + 1, r, k => by
    have e7 : soI G U n 7 n = U 7 n := by rw [soI_at G U n 7 n, if_neg (by omega)]
    show (if soI G U n 7 n = 0 then soM G (soI G U n) n else soI G U n) r k = _
    rw [e7]
    by_cases h : U 7 n = 0
    · rw [if_pos h]
      by_cases hk : k = n
      · subst hk
        rw [if_pos ⟨by omega, h⟩]
        exact soM_cong G (fun r => by rw [soI_at G U k r k, if_neg (by omega)]) r
      · rw [soM_ne _ _ hk, soI_at G U n r k]
        by_cases h2 : k < n ∧ U 7 k = 0
        · rw [if_pos h2, if_pos ⟨by omega, h2.2⟩]
        · rw [if_neg h2, if_neg (fun z => h2 ⟨by omega, z.2⟩)]
    · rw [if_neg h, soI_at G U n r k]
      by_cases h2 : k < n ∧ U 7 k = 0
      · rw [if_pos h2, if_pos ⟨by omega, h2.2⟩]
      · rw [if_neg h2, if_neg (fun z => h2 ⟨by
          by_cases hk : k = n
          · subst hk; exact absurd z.2 h
          · omega, z.2⟩)]
theorem wrB_6 (w : Nat → Int32) : wrB w 6 = w 6 + lk1 (w 1) (mx 0 (w 5 - 1)) := rfl
theorem wrB_5 (w : Nat → Int32) : wrB w 5 = mx 0 (w 5 - 1) := rfl
theorem wrB_o (w : Nat → Int32) {i : Nat} (h5 : ¬ i = 5) (h6 : ¬ i = 6) : wrB w i = w i := by
  unfold wrB upd
  rw [if_neg h6]
  unfold wrA upd
  rw [if_neg h5]
theorem wrG_9 (w : Nat → Int32) : wrG w 9 = w 9 := by
  unfold wrG
  split
  · rfl
  · unfold wrF
    split
    · rfl
    · rfl
theorem ri_wear {B : Nat} {K V G U : FV} (R : RI B K V G U) : RI B K (mpI wrG 6 V) G (soI G U (ix (G 0 1))) := by
  obtain ⟨h0, hK, hS, hH, hc, hnn, hp⟩ := R
  have eV : ∀ j, j < 5 ∨ 11 ≤ j → mpI wrG 6 V j = V j := fun j hj => mpI_out _ _ _ (by omega)
  have eC : ∀ k, k < 6 → mpI wrG 6 V (k + 5) = wrG (V (k + 5)) := fun k hk => mpI_in _ _ _ hk
  have eU : ∀ q, ¬ q = 4 → ¬ q = 5 → ¬ q = 6 → ¬ q = 7 → soI G U (ix (G 0 1)) q = U q := fun q g4 g5 g6 g7 => soI_row G U g4 g5 g6 g7 _
  have eM := h0.1
  refine ⟨?_, hK, ?_, ?_, fun k hk => ?_, fun n hn => ?_, ?_⟩
  · unfold r0 at h0 ⊢
    rw [eV 0 (by omega), eV 4 (by omega), eU 0 (by omega) (by omega) (by omega) (by omega)]; exact h0
  · intro i hi
    rw [eV 3 (by omega), eU 1 (by omega) (by omega) (by omega) (by omega)]; exact hS i hi
  · unfold rH at hH ⊢
    rw [eV 4 (by omega)]; exact hH
  · rw [eV 0 (by omega), eC k hk]
    have h := hc k hk
    have hat : ∀ r, soI G U (ix (G 0 1)) r k = if k < ix (V 0 2) ∧ U 7 k = 0 then soM G U k r k else U r k := fun r => by rw [← eM]; exact soI_at G U _ r k
    by_cases h8 : V (k + 5) 8 = 0
    · have ew : wrG (V (k + 5)) = V (k + 5) := if_pos h8
      rw [ew]
      refine rC_of h (fun _ _ => rfl) (fun q h2 h7 => ?_) (fun _ _ _ => rfl) Iff.rfl
      rw [hat, if_neg ?_]
      intro z
      rcases h.2.2 with ⟨-, h9 | h9⟩ | h9
      · rw [h9.1] at h8; exact absurd h8 (by decide)
      · rw [h9.2] at z; exact absurd z.2 (by decide)
      · exact h9.1 z.1
    · have ew : wrG (V (k + 5)) = wrF (V (k + 5)) := if_neg h8
      rw [ew]
      obtain ⟨⟨a0, a1, a2, a3, a4, a5, a6, a7⟩, ⟨b1, b2, b3, b4, b5, b6⟩, h3⟩ := h
      have h7 : k < ix (V 0 2) ∧ V (k + 5) 8 = 1 ∧ U 7 k = 0 := by
        rcases h3 with ⟨hm, h9 | h9⟩ | h9
        · exact ⟨hm, h9⟩
        · exact absurd h9.1 h8
        · exact absurd h9.2.1 h8
      have hz : ∀ r, soI G U (ix (G 0 1)) r k = soM G U k r k := fun r => by rw [hat, if_pos ⟨h7.1, h7.2.2⟩]
      obtain ⟨t, ht, et⟩ := in_ex b5 (by decide)
      obtain ⟨hh, hh3, eh⟩ := in_ex b1 (by decide)
      have t5 : mx 0 (V (k + 5) 5 - 1) = nI (t - 1) := by rw [et]; exact tar_ok t ht
      have s4 : sbM G U k 4 k = wrB (V (k + 5)) 5 := by rw [sb_4, wrB_5, a5]
      have s5 : sbM G U k 5 k = wrB (V (k + 5)) 6 := by rw [sb_5, wrB_6, a6, a1, a5, t5, eh, lk_ok hh hh3 (t - 1) (by omega)]
      have c5 : vp_in (wrB (V (k + 5)) 5) 31 := by rw [wrB_5, t5]; exact vp_in_nI (by omega) (by decide)
      obtain ⟨lh, ll, l1, l2, l3, l4⟩ := b6
      by_cases hq : wrB (V (k + 5)) 6 < 2 * V (k + 5) 0
      · have ef : wrF (V (k + 5)) = wrB (V (k + 5)) := if_pos hq
        have em : soM G U k = sbM G U k := if_neg (by rw [s5, a0]; exact Int32.not_le.mpr hq)
        rw [ef]
        unfold rC
        rw [hz, hz, hz, hz, hz, hz, em, s4, s5, wrB_o _ (show ¬ 0 = 5 by omega) (show ¬ 0 = 6 by omega), wrB_o _ (show ¬ 1 = 5 by omega) (show ¬ 1 = 6 by omega), wrB_o _ (show ¬ 2 = 5 by omega) (show ¬ 2 = 6 by omega), wrB_o _ (show ¬ 3 = 5 by omega) (show ¬ 3 = 6 by omega), wrB_o _ (show ¬ 4 = 5 by omega) (show ¬ 4 = 6 by omega), wrB_o _ (show ¬ 7 = 5 by omega) (show ¬ 7 = 6 by omega), wrB_o _ (show ¬ 8 = 5 by omega) (show ¬ 8 = 6 by omega), sb_o _ _ (show ¬ 2 = 4 by omega) (show ¬ 2 = 5 by omega), sb_o _ _ (show ¬ 3 = 4 by omega) (show ¬ 3 = 5 by omega), sb_o _ _ (show ¬ 6 = 4 by omega) (show ¬ 6 = 5 by omega), sb_o _ _ (show ¬ 7 = 4 by omega) (show ¬ 7 = 5 by omega)]
        exact ⟨⟨a0, a1, a2, a3, a4, rfl, rfl, a7⟩, ⟨b1, b2, b3, b4, c5, lh, ll, l1, l2, l3, l4⟩, Or.inl ⟨h7.1, Or.inl h7.2⟩⟩
      · have ef : wrF (V (k + 5)) = upd (upd (wrB (V (k + 5))) 8 0) 7 0 := if_neg hq
        have em : soM G U k = vU (vU (sbM G U k) 7 k 1) 6 k 0 := if_pos (by rw [s5, a0]; exact Int32.not_lt.mp hq)
        have x2 : soM G U k 2 k = U 2 k := by rw [em, vU_ne _ _ _ _ (by omega), vU_ne _ _ _ _ (by omega), sb_o _ _ (by omega) (by omega)]
        have x3 : soM G U k 3 k = U 3 k := by rw [em, vU_ne _ _ _ _ (by omega), vU_ne _ _ _ _ (by omega), sb_o _ _ (by omega) (by omega)]
        have x4 : soM G U k 4 k = wrB (V (k + 5)) 5 := by rw [em, vU_ne _ _ _ _ (by omega), vU_ne _ _ _ _ (by omega), s4]
        have x5 : soM G U k 5 k = wrB (V (k + 5)) 6 := by rw [em, vU_ne _ _ _ _ (by omega), vU_ne _ _ _ _ (by omega), s5]
        have x6 : soM G U k 6 k = 0 := by rw [em, vU_eq]
        have x7 : soM G U k 7 k = 1 := by rw [em, vU_ne _ _ _ _ (by omega), vU_eq]
        have y7 : upd (upd (wrB (V (k + 5))) 8 0) 7 0 7 = 0 := rfl
        have y8 : upd (upd (wrB (V (k + 5))) 8 0) 7 0 8 = 0 := rfl
        have yo : ∀ i, ¬ i = 7 → ¬ i = 8 → upd (upd (wrB (V (k + 5))) 8 0) 7 0 i = wrB (V (k + 5)) i := fun i g7 g8 => by
          unfold upd
          rw [if_neg g7, if_neg g8]
        rw [ef]
        unfold rC
        rw [hz, hz, hz, hz, hz, hz, x2, x3, x4, x5, x6, x7, y7, y8, yo 0 (by omega) (by omega), yo 1 (by omega) (by omega), yo 2 (by omega) (by omega), yo 3 (by omega) (by omega), yo 4 (by omega) (by omega), yo 5 (by omega) (by omega), yo 6 (by omega) (by omega), wrB_o _ (show ¬ 0 = 5 by omega) (show ¬ 0 = 6 by omega), wrB_o _ (show ¬ 1 = 5 by omega) (show ¬ 1 = 6 by omega), wrB_o _ (show ¬ 2 = 5 by omega) (show ¬ 2 = 6 by omega), wrB_o _ (show ¬ 3 = 5 by omega) (show ¬ 3 = 6 by omega), wrB_o _ (show ¬ 4 = 5 by omega) (show ¬ 4 = 6 by omega)]
        exact ⟨⟨a0, a1, a2, a3, a4, rfl, rfl, rfl⟩, ⟨b1, b2, b3, b4, c5, lh, 0, l1, by omega, l3, nI_0.symm⟩, Or.inl ⟨h7.1, Or.inr ⟨rfl, rfl⟩⟩⟩
  · rw [eV (n + 11) (by omega)]
    exact rN_of (hnn n hn) (fun _ _ => rfl) (by rw [eU 8 (by omega) (by omega) (by omega) (by omega)]) rfl rfl
  · exact rP_of hp h0.2.2.2.2.2.2.2.2.1 (by rw [eV 0 (by omega)]) (by rw [eV 0 (by omega)]) (fun k hk => by rw [eC k hk]; exact wrG_9 _) h0.2.2.2.2.2.2.2.1 (fun n _ => by rw [eV (n + 11) (by omega)]; exact ⟨rfl, rfl⟩)
/-! ===== the climb ===== -/
theorem clV_o (V : FV) {j k : Nat} (h3 : ¬ j = 3) (h : ¬ (j = 0 ∧ k = 5)) : clV V j k = V j k := by
  unfold clV
  rw [vU_ne _ _ _ _ h, va_up_ne _ _ h3]
theorem clV_3 (V : FV) {k : Nat} (hk : k < 16) : clV V 3 k = clN (V 3) k := by
  unfold clV
  rw [vU_ne _ _ _ _ (by omega), va_up_self]
  unfold clR
  rw [if_pos ⟨by omega, hk⟩]
theorem clU_o (U : FV) {j k : Nat} (h3 : ¬ j = 1) (h : ¬ (j = 0 ∧ k = 3)) : clU U j k = U j k := by
  unfold clU
  rw [vU_ne _ _ _ _ h, va_up_ne _ _ h3]
theorem clU_1 (U : FV) {k : Nat} (hk : k < 16) : clU U 1 k = clN (U 1) k := by
  unfold clU
  rw [vU_ne _ _ _ _ (by omega), va_up_self]
  unfold clR
  rw [if_pos ⟨by omega, hk⟩]
theorem ri_climb {B : Nat} {K V G U : FV} (R : RI B K V G U) : RI B K (clV V) G (clU U) := by
  obtain ⟨h0, hK, hS, hH, hc, hnn, hp⟩ := R
  have z : ∀ j, ¬ j = 5 → clV V 0 j = V 0 j := fun j hj => clV_o V (by omega) (by omega)
  have z4 : ∀ j, clV V 4 j = V 4 j := fun j => clV_o V (by omega) (by omega)
  have w : ∀ k i, clV V (k + 5) i = V (k + 5) i := fun k i => clV_o V (by omega) (by omega)
  have u : ∀ r k, 2 ≤ r → clU U r k = U r k := fun r k hr => clU_o U (by omega) (by omega)
  have zU : ∀ j, ¬ j = 3 → clU U 0 j = U 0 j := fun j hj => clU_o U (by omega) (by omega)
  have z5 : clV V 0 5 = V 0 5 + V 3 0 / 2 := by unfold clV; rw [vU_eq]
  have zU3 : clU U 0 3 = U 0 3 + U 1 0 / 2 := by unfold clU; rw [vU_eq]
  refine ⟨?_, hK, ?_, ?_, fun k hk => ?_, fun n hn => ?_, ?_⟩
  · unfold r0 at h0 ⊢
    rw [z 2 (by omega), z 3 (by omega), z4, z 0 (by omega), z 1 (by omega), z 4 (by omega), z5, zU 0 (by omega), zU 1 (by omega), zU 2 (by omega), zU3, (hS 0 (by omega)).1]
    obtain ⟨g1, g2, g3, g4, g5, g6, g7, g8, g9, g10⟩ := h0
    exact ⟨g1, g2, g3, g4, g5, g6, by rw [g7], g8, g9, g10⟩
  · intro i hi
    rw [clV_3 V hi, clU_1 U hi]
    obtain ⟨f1, f2⟩ := hS i hi
    obtain ⟨a, ha, ea⟩ := in_ex f2 (by decide)
    unfold clN
    by_cases h15 : i = 15
    · rw [if_pos h15, if_pos h15, f1]
      exact ⟨rfl, by rw [ea]; exact cl_ok0 a ha⟩
    · obtain ⟨f3, f4⟩ := hS (i + 1) (by omega)
      obtain ⟨b, hb, eb⟩ := in_ex f4 (by decide)
      rw [if_neg h15, if_neg h15, f1, f3]
      exact ⟨rfl, by rw [ea, eb]; exact cl_ok a ha b hb⟩
  · exact ⟨fun i hi => by rw [z4]; exact hH.1 i hi, fun i hi => by rw [z4]; exact hH.2 i hi⟩
  · rw [z 2 (by omega)]
    exact rC_of (hc k hk) (fun i _ => w k i) (fun r g1 _ => u r k g1) (fun _ _ _ => rfl) Iff.rfl
  · exact rN_of (hnn n hn) (fun i _ => w (n + 6) i) (u 8 n (by omega)) rfl rfl
  · exact rP_of hp h0.2.2.2.2.2.2.2.2.1 (z 2 (by omega)) (z 3 (by omega)) (fun k _ => w k 9) h0.2.2.2.2.2.2.2.1 (fun n _ => ⟨w (n + 6) 0, w (n + 6) 1⟩)
/-! ===== an hour ===== -/
theorem hA_0 (V : FV) (d : Int32) : hA1 V d 0 = V 0 := mpI_out _ _ _ (by omega)
theorem hA3_00 (V : FV) (d : Int32) : hA3 V d 0 0 = V 0 0 := by
  have e : hA3 V d 0 = hA2 V d 0 := mpI_out _ _ _ (by omega)
  rw [e]
  unfold hA2
  rw [dn_0, hA_0]
theorem hA4_00 (V : FV) (d : Int32) : hA4 V d 0 0 = V 0 0 := by
  unfold hA4
  split
  · rw [clV_o _ (by omega) (by omega), hA3_00]
  · exact hA3_00 V d
theorem ri_hour {B : Nat} {K V G U : FV} (R : RI B K V G U) (hB : B + 1 < 2 ^ 31) : RI (B + 1) K (lhV K V) G (paM G U) ∧ alM (paM G U) = alM U + lhC K V := by
  obtain ⟨r, hr, e1, e2⟩ := hw_ok R.1 (by omega)
  have h4 := rm4_ok R.1 (by omega)
  have R1 := ri_go R (by omega)
  obtain ⟨d, ed⟩ : ∃ d, d = K 1 (ix (hw8 V)) := ⟨_, rfl⟩
  rw [← ed] at R1
  have hT : ix (hA1 V d 0 3) = ix (V 0 3) := by rw [hA_0]
  obtain ⟨R2, a2⟩ := ri_draws R1 (ix (V 0 3)) (by omega)
  have a1 : alM (uA G U) = alM U := by
    unfold alM uA
    rw [goI_row G U (show ¬ 8 = 2 by omega)]
  have eG : ix (G 0 2) = ix (V 0 3) := by rw [R.1.2.1]
  have eB : drI G (uA G U) (ix (V 0 3)) = uB G U := by unfold uB; rw [eG]
  rw [eB] at R2 a2
  have R3 := ri_wear R2
  have R3 : RI B K (hA3 V d) G (uC G U) := R3
  have a3 : alM (uC G U) = alM (uB G U) := by
    unfold alM uC
    rw [soI_row G _ (show ¬ 8 = 4 by omega) (by omega) (by omega) (by omega)]
  have R4 : RI B K (hA4 V d) G (uD G U) := by
    unfold hA4 uD
    rw [hA3_00, uC_0, h4]
    by_cases hq : rm4 (U 0 0) = 3
    · rw [if_pos hq, if_pos hq]; exact ri_climb R3
    · rw [if_neg hq, if_neg hq]; exact R3
  have a4 : alM (uD G U) = alM (uC G U) := by
    unfold uD
    split
    · unfold alM
      rw [clU_o _ (by omega) (by omega), clU_o _ (by omega) (by omega), clU_o _ (by omega) (by omega)]
    · rfl
  have hrun : G 2 (ix (rm8 (uD G U 0 0))) = K 2 (ix (hw8 V)) ∧ vp_in (K 2 (ix (hw8 V))) 10 := by
    rw [uD_0, e1, e2, ix_nI (by omega)]
    exact ⟨(R.2.1 r hr).2.1, (R.2.1 r hr).2.2.2⟩
  have eL : lhV K V = hrV V d (K 2 (ix (hw8 V))) := by unfold lhV; rw [← ed]
  have eC : lhC K V = dnC (hA1 V d) (ix (V 0 3)) := by unfold lhC; rw [← ed]; rfl
  rw [eL, eC]
  obtain ⟨q, hq1, hq2⟩ : ∃ q, q = K 2 (ix (hw8 V)) ∧ vp_in q 10 := ⟨_, rfl, hrun.2⟩
  have e00 := hA4_00 V d
  have pV : ∀ j k, hrV V d (K 2 (ix (hw8 V))) j k = if j = 0 ∧ k = 0 then V 0 0 + 1 else if j = 3 ∧ k = 15 then mn 60 (hA4 V d 3 15 + q) else hA4 V d j k := fun j k => by
    unfold hrV
    try dsimp only
    rw [vU_ne _ 3 15 _ (show ¬ (0 = 3 ∧ 0 = 15) by omega), e00, vU_at, vU_at, ← hq1]
  have pU : ∀ j k, paM G U j k = if j = 0 ∧ k = 0 then U 0 0 + 1 else if j = 1 ∧ k = 15 then mn 60 (uD G U 1 15 + q) else uD G U j k := fun j k => by
    unfold paM
    try dsimp only
    rw [vU_ne _ 1 15 _ (show ¬ (0 = 1 ∧ 0 = 15) by omega), vU_at, vU_at, hrun.1, ← hq1, uD_0]
  obtain ⟨h0, hK, hS, hH, hc, hnn, hp⟩ := R4
  have z : ∀ j, ¬ j = 0 → hrV V d (K 2 (ix (hw8 V))) 0 j = hA4 V d 0 j := fun j hj => by rw [pV, if_neg (by omega), if_neg (by omega)]
  have z4 : ∀ j, hrV V d (K 2 (ix (hw8 V))) 4 j = hA4 V d 4 j := fun j => by rw [pV, if_neg (by omega), if_neg (by omega)]
  have w : ∀ k i, hrV V d (K 2 (ix (hw8 V))) (k + 5) i = hA4 V d (k + 5) i := fun k i => by rw [pV, if_neg (by omega), if_neg (by omega)]
  have u : ∀ r k, 2 ≤ r → paM G U r k = uD G U r k := fun r k hr => by rw [pU, if_neg (by omega), if_neg (by omega)]
  have zU : ∀ j, ¬ j = 0 → paM G U 0 j = uD G U 0 j := fun j hj => by rw [pU, if_neg (by omega), if_neg (by omega)]
  have z0 : hrV V d (K 2 (ix (hw8 V))) 0 0 = V 0 0 + 1 := by rw [pV, if_pos ⟨rfl, rfl⟩]
  have zU0 : paM G U 0 0 = U 0 0 + 1 := by rw [pU, if_pos ⟨rfl, rfl⟩]
  refine ⟨⟨?_, hK, ?_, ?_, fun k hk => ?_, fun n hn => ?_, ?_⟩, ?_⟩
  · unfold r0 at h0 ⊢
    rw [z 2 (by omega), z 3 (by omega), z4, z0, z 1 (by omega), z 4 (by omega), z 5 (by omega), zU0, zU 1 (by omega), zU 2 (by omega), zU 3 (by omega)]
    obtain ⟨g1, g2, g3, g4, g5, g6, g7, g8, g9, h, g10, g11⟩ := h0
    rw [e00] at g11
    refine ⟨g1, g2, g3, by rw [R.1.2.2.2.1], g5, g6, g7, g8, g9, h + 1, by omega, ?_⟩
    rw [g11, nI_1]
  · intro i hi
    obtain ⟨f1, f2⟩ := hS i hi
    by_cases h15 : i = 15
    · have p1 : hrV V d (K 2 (ix (hw8 V))) 3 i = mn 60 (hA4 V d 3 15 + q) := by rw [pV, if_neg (by omega), if_pos ⟨rfl, h15⟩]
      have p2 : paM G U 1 i = mn 60 (uD G U 1 15 + q) := by rw [pU, if_neg (by omega), if_pos ⟨rfl, h15⟩]
      subst h15
      rw [p1, p2, f1]
      obtain ⟨a, ha, ea⟩ := in_ex f2 (by decide)
      obtain ⟨b, hb, eb⟩ := in_ex hq2 (by decide)
      exact ⟨rfl, by rw [ea, eb]; exact ru_ok a ha b hb⟩
    · have p1 : hrV V d (K 2 (ix (hw8 V))) 3 i = hA4 V d 3 i := by rw [pV, if_neg (by omega), if_neg (by omega)]
      have p2 : paM G U 1 i = uD G U 1 i := by rw [pU, if_neg (by omega), if_neg (by omega)]
      rw [p1, p2]
      exact ⟨f1, f2⟩
  · refine ⟨fun i hi => ?_, fun i hi => by rw [z4]; exact hH.2 i hi⟩
    obtain ⟨s, hs, es⟩ := hH.1 i hi
    exact ⟨s, by omega, by rw [z4]; exact es⟩
  · rw [z 2 (by omega)]
    exact rC_of (hc k hk) (fun i _ => w k i) (fun r g1 _ => u r k g1) (fun _ _ _ => rfl) Iff.rfl
  · exact rN_of (hnn n hn) (fun i _ => w (n + 6) i) (u 8 n (by omega)) rfl rfl
  · exact rP_of hp h0.2.2.2.2.2.2.2.2.1 (z 2 (by omega)) (z 3 (by omega)) (fun k _ => w k 9) h0.2.2.2.2.2.2.2.1 (fun n _ => ⟨w (n + 6) 0, w (n + 6) 1⟩)
  · have e : alM (paM G U) = alM (uD G U) := by
      unfold alM
      rw [u 8 0 (by omega), u 8 1 (by omega), u 8 2 (by omega)]
    rw [e, a4, a3, a2, a1]
theorem ri_hours {B : Nat} {K V G U : FV} (R : RI B K V G U) : ∀ N, B + N < 2 ^ 31 → RI (B + N) K (lsV K V N) G (psM G U N) ∧ alM (psM G U N) = alM U + lsC K V N
  | 0, _ => ⟨R, (Int32.add_zero _).symm⟩
  | N + 1, h => by
    obtain ⟨R1, a1⟩ := ri_hours R N (by omega)
    obtain ⟨R2, a2⟩ := ri_hour R1 (by omega)
    refine ⟨R2, ?_⟩
    show alM (paM G (psM G U N)) = alM U + (lsC K V N + lhC K (lsV K V N))
    rw [a2, a1, Int32.add_assoc]
