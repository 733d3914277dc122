/-! ===== reading and looking ahead ===== -/
theorem ri_send {B : Nat} {K V G U : FV} (R : RI B K V G U) {k : Nat} (hk : k < 6) {g : Int32} (hg : vp_in g 16) : RI B K (vU V (k + 5) 4 g) G (vU U 3 k g) := by
  have h := R.2.2.2.2.1 k hk
  refine RI_c R k ?_ (fun i => ⟨vU_ne _ _ _ _ (by omega), vU_ne _ _ _ _ (by omega)⟩) (fun i => vU_ne _ _ _ _ (by omega)) (fun j i hj => vU_ne _ _ _ _ (by omega)) (fun r j _ _ hj => vU_ne _ _ _ _ (by omega)) ?_ (vU_ne _ _ _ _ (by omega)) hk (fun n => vU_ne _ _ _ _ (by omega)) (vU_ne _ _ _ _ (by omega)) (vU_ne _ _ _ _ (by omega))
  · have e : vU V (k + 5) 4 g 0 = V 0 := vU_row _ _ _ _ (by omega)
    have e4 : vU V (k + 5) 4 g 4 = V 4 := vU_row _ _ _ _ (by omega)
    have eU : vU U 3 k g 0 = U 0 := vU_row _ _ _ _ (by omega)
    unfold r0
    rw [e, e4, eU]
    exact R.1
  · obtain ⟨⟨a0, a1, a2, a3, a4, a5, a6, a7⟩, ⟨b1, b2, b3, b4, b5, b6⟩, h3⟩ := h
    have w : ∀ i, ¬ i = 4 → vU V (k + 5) 4 g (k + 5) i = V (k + 5) i := fun i hi => vU_ne _ _ _ _ (by omega)
    have u : ∀ r, ¬ r = 3 → vU U 3 k g r k = U r k := fun r hr => vU_ne _ _ _ _ (by omega)
    unfold rC
    rw [w 0 (by omega), w 1 (by omega), w 2 (by omega), w 3 (by omega), vU_eq V (k + 5) 4 g, w 5 (by omega), w 6 (by omega), w 7 (by omega), w 8 (by omega), u 2 (by omega), vU_eq U 3 k g, u 4 (by omega), u 5 (by omega), u 6 (by omega), u 7 (by omega)]
    exact ⟨⟨a0, a1, a2, a3, rfl, a5, a6, a7⟩, ⟨b1, b2, b3, hg, b5, b6⟩, h3⟩
theorem ri_gl {B : Nat} {K V G U : FV} (R : RI B K V G U) {n : Nat} (hn : n < ix (V 0 3)) {g : Int32} (hg : vp_in g 16) : RI B K (glV V n g) G (glM G U n g) := by
  obtain ⟨n3, a6, b6, hab, eA, eB, aM, bM⟩ := nAB R hn
  unfold glV glM
  rw [eA, eB]
  exact ri_send (ri_send R a6 hg) b6 hg
theorem op_send {B : Nat} {K V G U : FV} (R : RI B K V G U) (hG : G 0 0 = 0) (c g : Int32) : Cl (seC V c g) (seC V c g) (seM G c g) (V (ix c + 5) 4) (U 3 (ix c)) (RI (B + 40) K (vU V (ix c + 5) 4 g) G (vU U 3 (ix c) g) ∧ G 0 0 = 0) := by
  refine Cl.id (ite_p (iM R c).symm rfl (ite_p (ii_ci (by decide)).symm rfl rfl)) (fun z => ?_)
  obtain ⟨z1, z2⟩ := ite_z (by decide) z
  obtain ⟨z3, -⟩ := ite_z (by decide) z2
  obtain ⟨hc6, hcM, hk⟩ := cM R z1
  exact ⟨(R.2.2.2.2.1 _ hk).1.2.2.2.2.1.symm, RI_up (ri_send R hk (nci_l z3 (by decide))) (by omega), hG⟩
section LOOK
variable {B : Nat} {K V G U : FV}
theorem okHs (R : RI B K V G U) (hB : B + 200 < 2 ^ 31) : ∀ i, i < 91 → okH K (lsV K V i) := fun i hi => (ri_hours R i (by omega)).1.okH (by omega)
theorem rvIs (R : RI B K V G U) (hB : B + 200 < 2 ^ 31) : ∀ i, i < 91 → rvI (lsV K V i) := fun i hi => (ri_hours R i (by omega)).1.rv
theorem okMs (R : RI B K V G U) (hB : B + 200 < 2 ^ 31) : ∀ i, i < 91 → okM G (psM G U i) := fun i hi => (ri_hours R i (by omega)).1.okM (by omega)
theorem ls_T (R : RI B K V G U) (hB : B + 200 < 2 ^ 31) {i : Nat} (hi : i < 91) : lsV K V i 0 3 = V 0 3 ∧ lsV K V i 0 2 = V 0 2 := by
  have R1 := (ri_hours R i (by omega)).1
  exact ⟨R1.1.2.1.symm.trans R.1.2.1, R1.1.1.symm.trans R.1.1⟩
theorem hr_in {h a b : Int32} {n : Nat} (z : ¬ caP h a b) (ha : 0 ≤ a.toInt) (hb : b.toInt + 1 = n) (hn : n ≤ 91) : ix h < 91 := by
  have := in_ix (nca z ha hb)
  omega
theorem op_about (R : RI B K V G U) (hG : G 0 0 = 0) (c x : Int32) : Cl (abC V c x) (abC V c x) (abM G c x) (tlF (V (ix c + 5)) x) (ctM G U c x) (RI (B + 40) K V G U ∧ G 0 0 = 0) := by
  refine Cl.id (ite_p (iM R c).symm rfl (ite_p (ii_ci (by decide)).symm rfl rfl)) (fun z => ?_)
  obtain ⟨z1, z2⟩ := ite_z (by decide) z
  exact ⟨tl_ct R (cM R z1).1 (cM R z1).2.1, RI_up R (by omega), hG⟩
theorem op_told (R : RI B K V G U) (hG : G 0 0 = 0) (n x : Int32) : Cl (toC V n x) (toC V n x) (toM G n x) (tnF V (ix n) x) (nuM G U (ix n) x) (RI (B + 40) K V G U ∧ G 0 0 = 0) := by
  refine Cl.id (ite_p (iT R n).symm rfl (ite_p (ii_ci (by decide)).symm rfl rfl)) (fun z => ?_)
  obtain ⟨z1, z2⟩ := ite_z (by decide) z
  exact ⟨tn_nu R x (cT R z1).2, RI_up R (by omega), hG⟩
theorem op_reach (R : RI B K V G U) (hG : G 0 0 = 0) (r x : Int32) : Cl (reC r x) (reC r x) (reM r x) (trF V r x) (rtM G U r x) (RI (B + 40) K V G U ∧ G 0 0 = 0) := by
  refine Cl.id (ite_p (ii_ci (by decide)).symm rfl (ite_p (ii_ci (by decide)).symm rfl rfl)) (fun z => ?_)
  obtain ⟨z1, z2⟩ := ite_z (by decide) z
  exact ⟨tr_rt R x (nci_l z1 (by decide)), RI_up R (by omega), hG⟩
theorem op_count (R : RI B K V G U) (hG : G 0 0 = 0) (x : Int32) : Cl (coC x) (coC x) (coM x) (tcF V x) (cuM G U x) (RI (B + 40) K V G U ∧ G 0 0 = 0) := by
  refine Cl.id (ite_p (ii_ci (by decide)).symm rfl rfl) (fun z => ?_)
  obtain ⟨z1, z2⟩ := ite_z (by decide) z
  exact ⟨tc_cu R (nci_l z1 (by decide)), RI_up R (by omega), hG⟩
theorem op_pass (R : RI B K V G U) (hB : B + 200 < 2 ^ 31) (hG : G 0 0 = 0) (h : Int32) : Cl (lkP (paC h)) (paC h) (paC9 h) (lsC K V (ix h)) (alM (psM G U (ix h)) - alM U) (RI (B + 40) K (lsV K V (ix h)) G (psM G U (ix h)) ∧ G 0 0 = 0) := by
  have e : lkP (paC h) = paC9 h ∧ (paC h = 0 ↔ paC9 h = 0) := by
    unfold paC paC9
    by_cases hc : caP h 1 40
    · rw [if_pos hc, if_pos ((ii_0 h 1 40).mpr hc)]; exact ⟨rfl, ⟨fun z => absurd z (by decide), fun z => absurd z (by decide)⟩⟩
    · rw [if_neg hc, if_neg (fun z => hc ((ii_0 h 1 40).mp z))]; exact ⟨rfl, Iff.rfl⟩
  refine ⟨e.1, e.2, fun z => ?_⟩
  obtain ⟨z1, -⟩ := ite_z (by decide) z
  have h41 := in_ix (nca (n := 41) z1 (by decide) (by decide))
  obtain ⟨R1, a1⟩ := ri_hours R (ix h) (by omega)
  refine ⟨?_, RI_up R1 (by omega), hG⟩
  rw [a1, Int32.add_comm, Int32.add_sub_cancel]
theorem op_meets (R : RI B K V G U) (hB : B + 200 < 2 ^ 31) (hG : G 0 0 = 0) (n : Int32) : Cl (meC V n) (meC V n) (meM G n) (fiN (mtP K V (ix n)) 0 91) (fiN (mtP9 G U (ix n)) 0 91) (RI (B + 40) K V G U ∧ G 0 0 = 0) := by
  refine Cl.id (ite_p (iT R n).symm rfl rfl) (fun z => ?_)
  obtain ⟨z1, -⟩ := ite_z (by decide) z
  refine ⟨fiN_congr 91 0 (fun j _ hj => ?_), RI_up R (by omega), hG⟩
  have R1 := (ri_hours R j (by omega)).1
  exact tg_mt R1 (by rw [(ls_T R hB (by omega)).1]; exact (cT R z1).2)
theorem op_sinks (R : RI B K V G U) (hB : B + 200 < 2 ^ 31) (hG : G 0 0 = 0) (c : Int32) : Cl (siC V c) (siC V c) (siM G c) (fiN (siP K V (ix c)) 0 91) (fiN (siP9 G U (ix c)) 0 91) (RI (B + 40) K V G U ∧ G 0 0 = 0) := by
  refine Cl.id (ite_p (iM R c).symm rfl rfl) (fun z => ?_)
  obtain ⟨z1, -⟩ := ite_z (by decide) z
  refine ⟨fiN_congr 91 0 (fun j _ hj => ?_), RI_up R (by omega), hG⟩
  have R1 := (ri_hours R j (by omega)).1
  show (if ¬ lsV K V j (ix c + 5) 8 = 0 then 0 else 1) = psM G U j 7 (ix c)
  rcases st_ok (R1.2.2.2.2.1 _ (cM R z1).2.2) (by rw [(ls_T R hB (by omega)).2]; exact (cM R z1).2.1) with ⟨h8, h7⟩ | ⟨h8, h7⟩
  · rw [if_pos (by rw [h8]; decide), h7]
  · rw [if_neg (fun z => z h8), h7]
theorem op_foresee (R : RI B K V G U) (hB : B + 200 < 2 ^ 31) (hG : G 0 0 = 0) (h x : Int32) : Cl (lkG (foC h x)) (foC h x) (foM h x) (tcF (lsV K V (ix h)) x) (cuM G (psM G U (ix h)) x) (RI (B + 40) K V G U ∧ G 0 0 = 0) := by
  have e : lkG (foC h x) = foM h x ∧ (foC h x = 0 ↔ foM h x = 0) := by
    unfold foC foM
    by_cases hc : caP h 1 40
    · rw [if_pos hc, if_pos ((ii_0 h 1 40).mpr hc)]; exact ⟨rfl, ⟨fun z => absurd z (by decide), fun z => absurd z (by decide)⟩⟩
    · rw [if_neg hc, if_neg (fun z => hc ((ii_0 h 1 40).mp z))]
      by_cases hd : ciP x 13
      · rw [if_pos hd, if_pos ((ii_ci (M := 13) (by decide)).mpr hd)]; exact ⟨rfl, ⟨fun z => absurd z (by decide), fun z => absurd z (by decide)⟩⟩
      · rw [if_neg hd, if_neg (fun z => hd ((ii_ci (M := 13) (by decide)).mp z))]; exact ⟨rfl, Iff.rfl⟩
  refine ⟨e.1, e.2, fun z => ?_⟩
  obtain ⟨z1, z2⟩ := ite_z (by decide) z
  obtain ⟨z3, -⟩ := ite_z (by decide) z2
  have h41 := in_ix (nca (n := 41) z1 (by decide) (by decide))
  exact ⟨tc_cu (ri_hours R (ix h) (by omega)).1 (nci_l z3 (by decide)), RI_up R (by omega), hG⟩
theorem ad_congr {f g : Nat → Int32} : ∀ n, (∀ k, k < n → f k = g k) → adM f n = adM g n ∧ adB f n = adB g n
  | 0, _ => ⟨rfl, rfl⟩
  | n + 1, h => by
    obtain ⟨e1, e2⟩ := ad_congr n (fun k hk => h k (by omega))
    have e3 := h n (by omega)
    refine ⟨?_, ?_⟩
    · show (if f n ≤ adM f n then adM f n else f n) = if g n ≤ adM g n then adM g n else g n
      rw [e1, e3]
    · show (if f n ≤ adM f n then adB f n else nI n) = if g n ≤ adM g n then adB g n else nI n
      rw [e1, e2, e3]
theorem op_advise (R : RI B K V G U) (hB : B + 200 < 2 ^ 31) (hG : G 0 0 = 0) (n h : Int32) : Cl (adC V n h) (adC V n h) (adM9 G n h) (adB (cwF K V (ix n) (ix h)) 16) (adB (cwM G U (ix n) (ix h)) 16) (RI (B + 40) K V G U ∧ G 0 0 = 0) := by
  refine Cl.id (ite_p (iT R n).symm rfl (ite_p (ii_0 h 1 10).symm rfl rfl)) (fun z => ?_)
  obtain ⟨z1, z2⟩ := ite_z (by decide) z
  obtain ⟨z3, -⟩ := ite_z (by decide) z2
  have h11 := in_ix (nca (n := 11) z3 (by decide) (by decide))
  refine ⟨(ad_congr 16 (fun g hg => ?_)).2, RI_up R (by omega), hG⟩
  have R1 := (ri_hours (ri_gl R (cT R z1).2 (g := nI g) (vp_in_nI hg (by decide))) (ix h) (by omega)).1
  exact (R1.2.2.2.2.2.1 (ix n) (in_ix (cT R z1).1)).2.2.1.symm
end LOOK
/-! the mean is a number -/
theorem smI_nI {f : Nat → Int32} {b : Nat} : ∀ n, (∀ k, k < n → ∃ t, t ≤ b ∧ f k = nI t) → ∃ s, s ≤ b * n ∧ smI f n = nI s
  | 0, _ => ⟨0, by omega, nI_0.symm⟩
  | n + 1, h => by
    obtain ⟨s, h1, h2⟩ := smI_nI n (fun k hk => h k (by omega))
    obtain ⟨t, h3, h4⟩ := h n (by omega)
    refine ⟨s + t, by rw [Nat.mul_succ]; omega, ?_⟩
    show smI f n + f n = _
    rw [h2, h4, nI_add]
abbrev dvQ (s m : Nat) : UInt64 := FP.ddiv (FP.i2d (nI s)) (FP.i2d (nI m))
def dvP (s m : Nat) : Prop := dvQ s m &&& 0x7fffffffffffffff ≤ 0x7ff0000000000000 ∧ FP.dcmp (dvQ s m) (dvQ s m) = some .eq
theorem dv_1 : ∀ s, s < 181 → dvQ s 1 &&& 0x7fffffffffffffff ≤ 0x7ff0000000000000 ∧ FP.dcmp (dvQ s 1) (dvQ s 1) = some .eq := by decide +kernel
theorem dv_2 : ∀ s, s < 181 → dvQ s 2 &&& 0x7fffffffffffffff ≤ 0x7ff0000000000000 ∧ FP.dcmp (dvQ s 2) (dvQ s 2) = some .eq := by decide +kernel
theorem dv_3 : ∀ s, s < 181 → dvQ s 3 &&& 0x7fffffffffffffff ≤ 0x7ff0000000000000 ∧ FP.dcmp (dvQ s 3) (dvQ s 3) = some .eq := by decide +kernel
theorem dv_4 : ∀ s, s < 181 → dvQ s 4 &&& 0x7fffffffffffffff ≤ 0x7ff0000000000000 ∧ FP.dcmp (dvQ s 4) (dvQ s 4) = some .eq := by decide +kernel
theorem dv_5 : ∀ s, s < 181 → dvQ s 5 &&& 0x7fffffffffffffff ≤ 0x7ff0000000000000 ∧ FP.dcmp (dvQ s 5) (dvQ s 5) = some .eq := by decide +kernel
theorem dv_6 : ∀ s, s < 181 → dvQ s 6 &&& 0x7fffffffffffffff ≤ 0x7ff0000000000000 ∧ FP.dcmp (dvQ s 6) (dvQ s 6) = some .eq := by decide +kernel
theorem dv_ok {s m : Nat} (hs : s < 181) (hm : m < 7) (h0 : ¬ m = 0) : dvP s m := by
  rcases (show m = 1 ∨ m = 2 ∨ m = 3 ∨ m = 4 ∨ m = 5 ∨ m = 6 by omega) with h | h | h | h | h | h <;> subst h
  · exact dv_1 s hs
  · exact dv_2 s hs
  · exact dv_3 s hs
  · exact dv_4 s hs
  · exact dv_5 s hs
  · exact dv_6 s hs
theorem me_dv {B : Nat} {K V G U : FV} (R : RI B K V G U) (h0 : ¬ V 0 2 = 0) : ∃ s m, dvP s m ∧ FP.ddiv (FP.i2d (smI (fun k => V (k + 5) 5) 6)) (FP.i2d (V 0 2)) = dvQ s m := by
  obtain ⟨m, hm, em⟩ := in_ex R.1.2.2.2.2.2.2.2.1 (by decide)
  obtain ⟨s, hs, es⟩ := smI_nI (f := fun k => V (k + 5) 5) (b := 30) 6 (fun k hk => by
    obtain ⟨t, ht, et⟩ := in_ex (R.2.2.2.2.1 k hk).2.1.2.2.2.2.1 (by decide)
    exact ⟨t, by omega, et⟩)
  refine ⟨s, m, dv_ok (by omega) hm (fun z => h0 (by rw [em, z, nI_0])), ?_⟩
  rw [es, em]
theorem me_n {B : Nat} {K V G U : FV} (R : RI B K V G U) (h0 : ¬ V 0 2 = 0) : vf_n64 (FP.ddiv (FP.i2d (smI (fun k => V (k + 5) 5) 6)) (FP.i2d (V 0 2))) := by
  obtain ⟨s, m, h, e⟩ := me_dv R h0
  rw [e]
  exact h.1
theorem me_nM {B : Nat} {K V G U : FV} (R : RI B K V G U) (h0 : ¬ G 0 1 = 0) : vf_n64 (FP.ddiv (FP.i2d (smI (U 4) (ix (G 0 1)))) (FP.i2d (G 0 1))) := by
  rw [← ta_sum R, R.1.1]
  exact me_n R (by rw [← R.1.1]; exact h0)
theorem me_cmp {B : Nat} {K V G U : FV} (R : RI B K V G U) : FP.dcmp (meF V) (mnM G U) = some .eq := by
  rw [← me_mn R]
  unfold meF
  by_cases h0 : V 0 2 = 0
  · rw [if_pos h0]; decide +kernel
  · obtain ⟨s, m, h, e⟩ := me_dv R h0
    rw [if_neg h0, e]
    exact h.2
