/-! ===== the class's value and the model's: what holds of both ===== -/
abbrev FV : Type := Nat → Nat → Int32
/-- one coracle -/
def rC (mk : Prop) (w : Nat → Int32) (G U : FV) (k : Nat) : Prop :=
  (G 3 k = w 0 ∧ G 4 k = w 1 ∧ G 5 k = w 2 ∧ U 2 k = w 3 ∧ U 3 k = w 4 ∧ U 4 k = w 5 ∧ U 5 k = w 6 ∧ U 6 k = w 7) ∧
  (vp_in (w 1) 3 ∧ vp_in (w 2) 7 ∧ vp_in (w 3) 16 ∧ vp_in (w 4) 16 ∧ vp_in (w 5) 31 ∧ ∃ h l : Nat, h ≤ 12 ∧ l ≤ h ∧ w 0 = nI h ∧ w 7 = nI l) ∧
  ((mk ∧ ((w 8 = 1 ∧ U 7 k = 0) ∨ (w 8 = 0 ∧ U 7 k = 1))) ∨ (¬ mk ∧ w 8 = 0 ∧ U 7 k = 0 ∧ w 5 = 0 ∧ w 7 = 0))
def rN (x : Nat → Int32) (G U : FV) (n : Nat) : Prop := G 6 n = x 0 ∧ G 7 n = x 1 ∧ U 8 n = x 2 ∧ vp_in (x 0) 6 ∧ vp_in (x 1) 6
def r0 (B : Nat) (V G U : FV) : Prop := G 0 1 = V 0 2 ∧ G 0 2 = V 0 3 ∧ G 0 3 = V 4 3 ∧ U 0 0 = V 0 0 ∧ U 0 1 = V 0 1 ∧ U 0 2 = V 0 4 ∧ U 0 3 = V 0 5 ∧ vp_in (V 0 2) 7 ∧ vp_in (V 0 3) 4 ∧ ∃ h, h ≤ B ∧ V 0 0 = nI h
def rS (V U : FV) : Prop := ∀ i, i < 16 → U 1 i = V 3 i ∧ vp_in (V 3 i) 61
def rH (B : Nat) (V G : FV) : Prop := (∀ i, i < 4 → ∃ s, s ≤ B + 50 ∧ V 4 i = nI s) ∧ ∀ i, i < 3 → G 8 i = V 4 i
def rK (K G : FV) : Prop := ∀ i, i < 8 → G 1 i = K 1 i ∧ G 2 i = K 2 i ∧ vp_in (K 1 i) 6 ∧ vp_in (K 2 i) 10
def ptC (f : Nat → Int32) : Nat → Nat | 0 => 0 | k + 1 => ptC f k + if f k = -1 then 0 else 1
abbrev ptn (V : FV) : Nat → Int32 := fun k => V (k + 5) 9
def rP (V : FV) : Prop := (∀ n, n < ix (V 0 3) → nA V n < ix (V 0 2) ∧ nB V n < ix (V 0 2) ∧ ¬ nA V n = nB V n ∧ ptn V (nA V n) = V (n + 11) 1 ∧ ptn V (nB V n) = V (n + 11) 0) ∧ (∀ k, k < 6 → ptn V k = -1 ∨ ∃ n, n < ix (V 0 3) ∧ (nA V n = k ∨ nB V n = k)) ∧ ptC (ptn V) 6 = 2 * ix (V 0 3)
def RI (B : Nat) (K V G U : FV) : Prop := r0 B V G U ∧ rK K G ∧ rS V U ∧ rH B V G ∧ (∀ k, k < 6 → rC (k < ix (V 0 2)) (V (k + 5)) G U k) ∧ (∀ n, n < 3 → rN (V (n + 11)) G U n) ∧ rP V
theorem ptC_congr {f g : Nat → Int32} : ∀ n, (∀ k, k < n → f k = g k) → ptC f n = ptC g n
  | 0, _ => rfl
  | n + 1, h => by
    show ptC f n + _ = ptC g n + _
    rw [ptC_congr n (fun k hk => h k (by omega)), h n (by omega)]
theorem rP_of {V X : FV} (h : rP V) (hT : vp_in (V 0 3) 4) (h2 : X 0 2 = V 0 2) (h3 : X 0 3 = V 0 3) (hk : ∀ k, k < 6 → X (k + 5) 9 = V (k + 5) 9) (hM : vp_in (V 0 2) 7) (hn : ∀ n, n < 3 → X (n + 11) 0 = V (n + 11) 0 ∧ X (n + 11) 1 = V (n + 11) 1) : rP X := by
  obtain ⟨p1, p2, p3⟩ := h
  have hT4 := in_ix hT
  have hM7 := in_ix hM
  refine ⟨fun n hn3 => ?_, fun k hk6 => ?_, ?_⟩
  · rw [h3] at hn3
    obtain ⟨e0, e1⟩ := hn n (by omega)
    obtain ⟨q1, q2, q3, q4, q5⟩ := p1 n hn3
    have eA : nA X n = nA V n := by unfold nA; rw [e0]
    have eB : nB X n = nB V n := by unfold nB; rw [e1]
    rw [eA, eB, h2, e0, e1]
    exact ⟨q1, q2, q3, (hk _ (by omega)).trans q4, (hk _ (by omega)).trans q5⟩
  · rcases p2 k hk6 with h | ⟨n, hn3, h⟩
    · exact Or.inl ((hk k hk6).trans h)
    · refine Or.inr ⟨n, by rw [h3]; exact hn3, ?_⟩
      obtain ⟨e0, e1⟩ := hn n (by omega)
      have eA : nA X n = nA V n := by unfold nA; rw [e0]
      have eB : nB X n = nB V n := by unfold nB; rw [e1]
      rw [eA, eB]; exact h
  · rw [h3, ← p3]; exact ptC_congr 6 hk
theorem rC_of {mk mk' : Prop} {w w' : Nat → Int32} {G U G' U' : FV} {k : Nat} (h : rC mk w G U k) (hw : ∀ j, j < 9 → w' j = w j) (hU : ∀ r, 2 ≤ r → r ≤ 7 → U' r k = U r k) (hG : ∀ r, 3 ≤ r → r ≤ 5 → G' r k = G r k) (hm : mk' ↔ mk) : rC mk' w' G' U' k := by
  unfold rC at h ⊢
  rw [hw 0 (by omega), hw 1 (by omega), hw 2 (by omega), hw 3 (by omega), hw 4 (by omega), hw 5 (by omega), hw 6 (by omega), hw 7 (by omega), hw 8 (by omega), hU 2 (by omega) (by omega), hU 3 (by omega) (by omega), hU 4 (by omega) (by omega), hU 5 (by omega) (by omega), hU 6 (by omega) (by omega), hU 7 (by omega) (by omega), hG 3 (by omega) (by omega), hG 4 (by omega) (by omega), hG 5 (by omega) (by omega), hm]
  exact h
theorem rN_of {x x' : Nat → Int32} {G U G' U' : FV} {n : Nat} (h : rN x G U n) (hx : ∀ j, j < 3 → x' j = x j) (hU : U' 8 n = U 8 n) (h6 : G' 6 n = G 6 n) (h7 : G' 7 n = G 7 n) : rN x' G' U' n := by
  unfold rN at h ⊢
  rw [hx 0 (by omega), hx 1 (by omega), hx 2 (by omega), hU, h6, h7]
  exact h
theorem RI.rv {B : Nat} {K V G U : FV} (R : RI B K V G U) : rvI V := by
  obtain ⟨-, -, -, -, hc, hn, -⟩ := R
  refine ⟨fun k hk => ?_, fun n hn3 => ⟨(hn n hn3).2.2.2.1, (hn n hn3).2.2.2.2⟩⟩
  obtain ⟨-, h2, h3⟩ := hc k hk
  refine ⟨h2.2.2.1, ?_⟩
  rcases h3 with ⟨-, h | h⟩ | h
  · exact Or.inr h.1
  · exact Or.inl h.1
  · exact Or.inl h.2.1
theorem RI.nets {B : Nat} {K V G U : FV} (R : RI B K V G U) : ∀ n, n < 3 → vp_in (G 6 n) 6 ∧ vp_in (G 7 n) 6 := by
  intro n hn
  obtain ⟨h1, h2, -, h3, h4⟩ := R.2.2.2.2.2.1 n hn
  rw [h1, h2]; exact ⟨h3, h4⟩
theorem RI.sunkB {B : Nat} {K V G U : FV} (R : RI B K V G U) : ∀ k, k < 6 → isB (U 7 k) := by
  intro k hk
  obtain ⟨-, -, h3⟩ := R.2.2.2.2.1 k hk
  rcases h3 with ⟨-, h | h⟩ | h
  · exact Or.inl h.2
  · exact Or.inr h.2
  · exact Or.inl h.2.2.1
theorem RI.at16 {B : Nat} {K V G U : FV} (R : RI B K V G U) : ∀ k, k < 6 → vp_in (U 2 k) 16 := by
  intro k hk
  obtain ⟨h1, h2, -⟩ := R.2.2.2.2.1 k hk
  rw [h1.2.2.2.1]; exact h2.2.2.1
theorem nI_l8 : nI 8 = 8 := by decide +kernel
theorem nI_l4 : nI 4 = 4 := by decide +kernel
theorem hw_ok {B : Nat} {V G U : FV} (h : r0 B V G U) (hB : B < 2 ^ 31) : ∃ r, r < 8 ∧ hw8 V = nI r ∧ rm8 (U 0 0) = nI r := by
  obtain ⟨-, -, -, h0, -, -, -, -, -, t, ht, e⟩ := h
  refine ⟨t % 8, Nat.mod_lt _ (by omega), ?_, ?_⟩
  · show fmF (V 0 0) 8 = _
    rw [e, ← nI_l8, fm_nI (by omega) (by omega) (by omega)]
  · show U 0 0 - U 0 0 / 8 * 8 = _
    rw [h0, e, ← nI_l8, rm_nI (by omega) (by omega) (by omega)]
theorem rm4_ok {B : Nat} {V G U : FV} (h : r0 B V G U) (hB : B < 2 ^ 31) : fmF (V 0 0) 4 = rm4 (U 0 0) := by
  obtain ⟨-, -, -, h0, -, -, -, -, -, t, ht, e⟩ := h
  show _ = U 0 0 - U 0 0 / 4 * 4
  rw [h0, e, ← nI_l4, fm_nI (by omega) (by omega) (by omega), rm_nI (by omega) (by omega) (by omega)]
/-! moving -/
def gvF (a g s d : Int32) : Int32 := mn 15 (a + d) + if g ≤ mn 15 (a + d) then -(mn s (ab (g - mn 15 (a + d)))) else mn s (ab (g - mn 15 (a + d)))
theorem goM_at (G U : FV) (k : Nat) : goM G U k 2 k = gvF (U 2 k) (U 3 k) (G 5 k) (G 1 (ix (rm8 (U 0 0)))) := by
  have e2 : gaM G U k 2 k = mn 15 (U 2 k + G 1 (ix (rm8 (U 0 0)))) := (vU_at _ _ _ _ _ _).trans (if_pos ⟨rfl, rfl⟩)
  have e3 : gaM G U k 3 k = U 3 k := (vU_at _ _ _ _ _ _).trans (if_neg (by omega))
  unfold goM
  rw [vU_at, if_pos ⟨rfl, rfl⟩]
  unfold gbM
  rw [e2, e3]; rfl
theorem goM_ne (G U : FV) {k j : Nat} (h : ¬ j = k) : goM G U k 2 j = U 2 j := by
  unfold goM
  rw [vU_at, if_neg (fun z => h z.2)]
  unfold gaM
  rw [vU_at, if_neg (fun z => h z.2)]
theorem goI_at (G U : FV) : ∀ n k, goI G U n 2 k = if k < n ∧ U 7 k = 0 then gvF (U 2 k) (U 3 k) (G 5 k) (G 1 (ix (rm8 (U 0 0)))) else U 2 k
  | 0, k => by rw [if_neg (by omega)]; rfl
  | n + 1, k => by
    show (if goI G U n 7 n = 0 then goM G (goI G U n) n else goI G U n) 2 k = _
    rw [goI_row G U (show ¬ 7 = 2 by omega) n]
    by_cases h : U 7 n = 0
    · rw [if_pos h]
      by_cases hk : k = n
      · subst hk
        rw [goM_at, goI_at G U k k, if_neg (by omega), goI_row G U (show ¬ 3 = 2 by omega), goI_row G U (show ¬ 0 = 2 by omega), if_pos ⟨by omega, h⟩]
      · rw [goM_ne _ _ hk, goI_at G U n k]
        by_cases h2 : k < n ∧ U 7 k = 0
        · rw [if_pos h2, if_pos ⟨by omega, h2.2⟩]
        · rw [if_neg h2, if_neg (fun z => h2 ⟨by omega, z.2⟩)]
    · rw [if_neg h, goI_at G U n k]
      by_cases h2 : k < n ∧ U 7 k = 0
      · rw [if_pos h2, if_pos ⟨by omega, h2.2⟩]
      · rw [if_neg h2, if_neg (fun z => h2 ⟨by
          by_cases hk : k = n
          · subst hk; exact absurd z.2 h
          · omega, z.2⟩)]
theorem mv_gv {w : Nat → Int32} {d : Int32} (h2 : vp_in (w 2) 7) (h3 : vp_in (w 3) 16) (h4 : vp_in (w 4) 16) (hd : vp_in d 6) : mvF w d 3 = gvF (w 3) (w 4) (w 2) d ∧ vp_in (mvF w d 3) 16 := by
  obtain ⟨s, hs, es⟩ := in_ex h2 (by decide)
  obtain ⟨r, hr, er⟩ := in_ex h3 (by decide)
  obtain ⟨g, hg, eg⟩ := in_ex h4 (by decide)
  obtain ⟨q, hq, eq⟩ := in_ex hd (by decide)
  obtain ⟨a, ha, ea⟩ := in_ex (show vp_in (mn 15 (w 3 + d)) 16 by rw [er, eq]; exact dr_ok r hr q hq) (by decide)
  have e : mvF w d 3 = if w 4 ≤ mn 15 (w 3 + d) then mx (w 4) (mn 15 (w 3 + d) - w 2) else mn (w 4) (mn 15 (w 3 + d) + w 2) := rfl
  unfold gvF
  rw [e, ea, es, eg]
  exact mv_ok a ha g hg s hs
theorem ri_go {B : Nat} {K V G U : FV} (R : RI B K V G U) (hB : B < 2 ^ 31) : RI B K (hA1 V (K 1 (ix (hw8 V)))) G (uA G U) := by
  obtain ⟨h0, hK, hS, hH, hc, hn, hp⟩ := R
  obtain ⟨r, hr, e1, e2⟩ := hw_ok h0 hB
  have ed : G 1 (ix (rm8 (U 0 0))) = K 1 (ix (hw8 V)) := by rw [e1, e2, ix_nI (by omega)]; exact (hK r hr).1
  have hd : vp_in (K 1 (ix (hw8 V))) 6 := by rw [e1, ix_nI (by omega)]; exact (hK r hr).2.2.1
  obtain ⟨d, ed9⟩ : ∃ d, d = K 1 (ix (hw8 V)) := ⟨_, rfl⟩
  rw [← ed9] at ed hd ⊢
  have eU : ∀ q, ¬ q = 2 → uA G U q = U q := fun q hq => goI_row G U hq _
  have eV : ∀ j, j < 5 ∨ 11 ≤ j → hA1 V d j = V j := fun j hj => mpI_out _ _ _ (by omega)
  have eC : ∀ k, k < 6 → hA1 V d (k + 5) = mvG d (V (k + 5)) := fun k hk => mpI_in _ _ _ hk
  have eV0 := eV 0 (by omega)
  have m9 : ∀ k, k < 6 → hA1 V d (k + 5) 9 = V (k + 5) 9 := fun k hk => by
    rw [eC k hk]; unfold mvG
    split
    · rfl
    · rfl
  refine ⟨?_, hK, ?_, ?_, fun k hk => ?_, fun n hn3 => ?_, ?_⟩
  · unfold r0 at h0 ⊢
    rw [eV0, eV 4 (by omega), eU 0 (by omega)]; exact h0
  · intro i hi
    rw [eV 3 (by omega), eU 1 (by omega)]; exact hS i hi
  · unfold rH at hH ⊢
    rw [eV 4 (by omega)]; exact hH
  · rw [eV0, eC k hk]
    have h := hc k hk
    have hat : uA G U 2 k = if k < ix (V 0 2) ∧ U 7 k = 0 then gvF (U 2 k) (U 3 k) (G 5 k) d else U 2 k := by rw [← h0.1, ← ed]; exact goI_at G U _ k
    by_cases h8 : V (k + 5) 8 = 0
    · have ew : mvG d (V (k + 5)) = V (k + 5) := if_pos h8
      rw [ew]
      refine rC_of h (fun _ _ => rfl) (fun q h2 h7 => ?_) (fun _ _ _ => rfl) Iff.rfl
      by_cases hq : q = 2
      · subst hq
        rw [hat, if_neg ?_]
        intro z
        rcases h.2.2 with ⟨-, h9 | h9⟩ | h9
        · rw [h9.1] at h8; exact absurd h8 (by decide)
        · rw [h9.2] at z; exact absurd z.2 (by decide)
        · exact h9.1 z.1
      · rw [eU q hq]
    · have ew : mvG d (V (k + 5)) = mvF (V (k + 5)) d := if_neg h8
      rw [ew]
      obtain ⟨⟨a0, a1, a2, a3, a4, a5, a6, a7⟩, ⟨b1, b2, b3, b4, b5, b6⟩, h3⟩ := h
      obtain ⟨v1, v2⟩ := mv_gv b2 b3 b4 hd
      have h7 : k < ix (V 0 2) ∧ V (k + 5) 8 = 1 ∧ U 7 k = 0 := by
        rcases h3 with ⟨hm, h9 | h9⟩ | h9
        · exact ⟨hm, h9⟩
        · exact absurd h9.1 h8
        · exact absurd h9.2.1 h8
      refine ⟨⟨a0, a1, a2, ?_, ?_, ?_, ?_, ?_⟩, ⟨b1, b2, v2, b4, b5, b6⟩, Or.inl ⟨h7.1, Or.inl ⟨h7.2.1, ?_⟩⟩⟩
      · rw [hat, if_pos ⟨h7.1, h7.2.2⟩, v1, a2, a3, a4]
      · rw [eU 3 (by omega)]; exact a4
      · rw [eU 4 (by omega)]; exact a5
      · rw [eU 5 (by omega)]; exact a6
      · rw [eU 6 (by omega)]; exact a7
      · rw [eU 7 (by omega)]; exact h7.2.2
  · rw [eV (n + 11) (by omega)]
    exact rN_of (hn n hn3) (fun _ _ => rfl) (by rw [eU 8 (by omega)]) rfl rfl
  · exact rP_of hp h0.2.2.2.2.2.2.2.2.1 (by rw [eV0]) (by rw [eV0]) m9 h0.2.2.2.2.2.2.2.1 (fun n _ => by rw [eV (n + 11) (by omega)]; exact ⟨rfl, rfl⟩)
theorem RI.okH {B : Nat} {K V G U : FV} (R : RI B K V G U) (hB : B < 2 ^ 31) : okH K V := by
  obtain ⟨r, hr, e1, -⟩ := hw_ok R.1 hB
  exact ⟨by rw [e1]; exact vp_in_nI hr (by decide), R.1.2.2.2.2.2.2.2.2.1, (ri_go R hB).rv⟩
theorem RI.okM {B : Nat} {K V G U : FV} (R : RI B K V G U) (hB : B < 2 ^ 31) : okM G U := by
  obtain ⟨r, hr, -, e2⟩ := hw_ok R.1 hB
  exact ⟨by rw [R.1.1]; exact R.1.2.2.2.2.2.2.2.1, by rw [R.1.2.1]; exact R.1.2.2.2.2.2.2.2.2.1, R.nets, by rw [e2]; exact vp_in_nI hr (by decide), (ri_go R hB).at16⟩
