/-! ===== what is read ===== -/
theorem ite_c {c : Prop} [Decidable c] {α : Type} {a a' b b' : α} (h1 : c → a = a') (h2 : ¬ c → b = b') : (if c then a else b) = if c then a' else b' := by
  by_cases h : c
  · rw [if_pos h, if_pos h, h1 h]
  · rw [if_neg h, if_neg h, h2 h]
theorem smI_congr {f g : Nat → Int32} : ∀ n, (∀ k, k < n → f k = g k) → smI f n = smI g n
  | 0, _ => rfl
  | n + 1, h => by
    show smI f n + f n = smI g n + g n
    rw [smI_congr n (fun k hk => h k (by omega)), h n (by omega)]
theorem smI_tail {f : Nat → Int32} {m : Nat} : ∀ n, m ≤ n → (∀ k, m ≤ k → k < n → f k = 0) → smI f n = smI f m
  | 0, h, _ => by rw [show m = 0 by omega]
  | n + 1, h, hz => by
    by_cases hm : m = n + 1
    · rw [hm]
    · show smI f n + f n = _
      rw [hz n (by omega) (by omega), Int32.add_zero, smI_tail n (by omega) (fun k h1 h2 => hz k h1 (by omega))]
theorem nI_6 : ∀ k, nI k = 6 → k < 2 ^ 31 → k = 6 := fun k h hk => (nI_eq hk (by decide)).mp (h.trans (by decide))
/-- a coracle that is not made -/
theorem un_ok {B : Nat} {K V G U : FV} (R : RI B K V G U) {k : Nat} (hk : k < 6) (hm : ix (V 0 2) ≤ k) : V (k + 5) 8 = 0 ∧ U 7 k = 0 ∧ V (k + 5) 5 = 0 ∧ V (k + 5) 7 = 0 := by
  rcases (R.2.2.2.2.1 k hk).2.2 with h | h
  · exact absurd h.1 (by omega)
  · exact h.2
theorem fl_sum {B : Nat} {K V G U : FV} (R : RI B K V G U) : smI (flF V) 6 = smI (flM U) (ix (G 0 1)) := by
  have hM7 := in_ix R.1.2.2.2.2.2.2.2.1
  rw [R.1.1, smI_tail (m := ix (V 0 2)) 6 (by omega) (fun k h1 h2 => ?_)]
  · refine smI_congr _ (fun k hk => ?_)
    show (if V (k + 5) 8 = 0 then 0 else 1) = if U 7 k = 0 then 1 else 0
    rcases st_ok (R.2.2.2.2.1 k (by omega)) hk with ⟨h8, h7⟩ | ⟨h8, h7⟩
    · rw [if_neg (by rw [h8]; decide), if_pos h7]
    · rw [if_pos h8, if_neg (by rw [h7]; decide)]
  · exact if_pos (un_ok R h2 h1).1
theorem ar_sum {B : Nat} {K V G U : FV} (R : RI B K V G U) (x : Int32) : smI (afF V x) 6 = smI (arM U x) (ix (G 0 1)) := by
  have hM7 := in_ix R.1.2.2.2.2.2.2.2.1
  rw [R.1.1, smI_tail (m := ix (V 0 2)) 6 (by omega) (fun k h1 h2 => ?_)]
  · refine smI_congr _ (fun k hk => ?_)
    have h := R.2.2.2.2.1 k (by omega)
    show (if atF (V (k + 5)) x = 0 then 0 else 1) = arM U x k
    unfold atF arM
    rcases st_ok h hk with ⟨h8, h7⟩ | ⟨h8, h7⟩
    · rw [if_neg (show ¬ V (k + 5) 8 = 0 by rw [h8]; decide), if_pos h7, h.1.2.2.2.1]
      by_cases hx : V (k + 5) 3 = x
      · rw [if_pos hx, if_neg (by decide)]
      · rw [if_neg hx, if_pos rfl]
    · rw [if_pos h8, if_neg (show ¬ U 7 k = 0 by rw [h7]; decide), if_pos rfl]
  · have e : atF (V (k + 5)) x = 0 := if_pos (un_ok R h2 h1).1
    exact if_pos e
theorem ta_sum {B : Nat} {K V G U : FV} (R : RI B K V G U) : smI (fun k => V (k + 5) 5) 6 = smI (U 4) (ix (G 0 1)) := by
  have hM7 := in_ix R.1.2.2.2.2.2.2.2.1
  rw [R.1.1, smI_tail (m := ix (V 0 2)) 6 (by omega) (fun k h1 h2 => (un_ok R h2 h1).2.2.1)]
  exact smI_congr _ (fun k hk => (R.2.2.2.2.1 k (by omega)).1.2.2.2.2.2.1.symm)
theorem tc_cu {B : Nat} {K V G U : FV} (R : RI B K V G U) {x : Int32} (hx : vp_in x 13) : tcF V x = cuM G U x := by
  obtain ⟨j, hj, ej⟩ := in_ex hx (by decide)
  have q0 := R.1
  have h8 := R.2.2.2.1.2
  unfold tcF cuM
  refine ite_c (fun _ => q0.2.2.2.1.symm) (fun n0 => ite_c (fun _ => q0.2.2.2.2.1.symm) (fun n1 => ite_c (fun _ => q0.2.2.1.symm) (fun n2 => ite_c (fun _ => q0.1.symm) (fun n3 => ite_c (fun _ => fl_sum R) (fun n4 => ite_c (fun _ => q0.2.1.symm) (fun n5 => ite_c (fun _ => smI_congr 6 (fun k hk => (R.2.2.2.2.1 k hk).1.2.2.2.2.2.2.2.symm)) (fun n6 => ite_c (fun _ => smI_congr 16 (fun i hi => (R.2.2.1 i hi).1.symm)) (fun n7 => ite_c (fun _ => q0.2.2.2.2.2.1.symm) (fun n8 => ite_c (fun _ => q0.2.2.2.2.2.2.1.symm) (fun n9 => ?_))))))))))
  have m0 : ¬ j = 0 := fun z => n0 (by rw [ej, z]; decide)
  have m1 : ¬ j = 1 := fun z => n1 (by rw [ej, z]; decide)
  have m2 : ¬ j = 2 := fun z => n2 (by rw [ej, z]; decide)
  have m3 : ¬ j = 3 := fun z => n3 (by rw [ej, z]; decide)
  have m4 : ¬ j = 4 := fun z => n4 (by rw [ej, z]; decide)
  have m5 : ¬ j = 5 := fun z => n5 (by rw [ej, z]; decide)
  have m6 : ¬ j = 6 := fun z => n6 (by rw [ej, z]; decide)
  have m7 : ¬ j = 7 := fun z => n7 (by rw [ej, z]; decide)
  have m8 : ¬ j = 8 := fun z => n8 (by rw [ej, z]; decide)
  have m9 : ¬ j = 9 := fun z => n9 (by rw [ej, z]; decide)
  rcases (show j = 10 ∨ j = 11 ∨ j = 12 by omega) with z | z | z
  · have e : x = 10 := by rw [ej, z]; decide
    have e2 : ix (x - 10) = 0 := by rw [e]; decide
    rw [if_pos e, e2, h8 0 (by omega)]
  · have e : x = 11 := by rw [ej, z]; decide
    have e2 : ix (x - 10) = 1 := by rw [e]; decide
    rw [if_neg (by rw [e]; decide), if_pos e, e2, h8 1 (by omega)]
  · have e : x = 12 := by rw [ej, z]; decide
    have e2 : ix (x - 10) = 2 := by rw [e]; decide
    rw [if_neg (by rw [e]; decide), if_neg (by rw [e]; decide), e2, h8 2 (by omega)]
/-! nets by coracles -/
theorem fi_sp (p : Nat → Int32) : ∀ n i, (fiN p i n = -1 ∧ ∀ j, i ≤ j → j < i + n → p j = 0) ∨ ∃ j, i ≤ j ∧ j < i + n ∧ fiN p i n = nI j ∧ ¬ p j = 0
  | 0, i => Or.inl ⟨rfl, fun j h1 h2 => absurd h2 (by omega)⟩
  | n + 1, i => by
    by_cases hp : p i = 0
    · rw [fiN_n hp]
      rcases fi_sp p n (i + 1) with ⟨h1, h2⟩ | ⟨j, h1, h2, h3, h4⟩
      · refine Or.inl ⟨h1, fun j g1 g2 => ?_⟩
        by_cases e : j = i
        · rw [e]; exact hp
        · exact h2 j (by omega) (by omega)
      · exact Or.inr ⟨j, by omega, by omega, h3, h4⟩
    · exact Or.inr ⟨i, by omega, by omega, fiN_y hp, hp⟩
theorem fiN_congr {p q : Nat → Int32} : ∀ n i, (∀ j, i ≤ j → j < i + n → p j = q j) → fiN p i n = fiN q i n
  | 0, _, _ => rfl
  | n + 1, i, h => by
    show (if p i = 0 then fiN p (i + 1) n else nI i) = if q i = 0 then fiN q (i + 1) n else nI i
    rw [h i (by omega) (by omega), fiN_congr n (i + 1) (fun j h1 h2 => h j (by omega) (by omega))]
theorem nI_nm {j : Nat} (h : j < 2 ^ 31) : ¬ nI j = -1 := fun z => by
  have h2 := congrArg Int32.toInt z
  rw [nI_toInt h] at h2
  have h3 : (-1 : Int32).toInt = -1 := by decide
  rw [h3] at h2
  omega
/-- the net of a coracle by the model, and its partner by the class -/
theorem mate_ok {B : Nat} {K V G U : FV} (R : RI B K V G U) {k : Nat} (hk : k < 6) : maF G (nI k) = ptn V k ∧ (noF G (nI k) = -1 ↔ ptn V k = -1) := by
  obtain ⟨h0, hK, hS, hH, hc, hnn, p1, p2, p3⟩ := R
  have hT4 := in_ix h0.2.2.2.2.2.2.2.2.1
  have hM7 := in_ix h0.2.2.2.2.2.2.2.1
  have eT : ix (G 0 2) = ix (V 0 3) := by rw [h0.2.1]
  have eN : ∀ n, n < 3 → ∃ a b : Nat, a < 6 ∧ b < 6 ∧ V (n + 11) 0 = nI a ∧ V (n + 11) 1 = nI b ∧ G 6 n = nI a ∧ G 7 n = nI b ∧ nA V n = a ∧ nB V n = b := fun n hn => by
    obtain ⟨f1, f2, -, f4, f5⟩ := hnn n hn
    obtain ⟨a, ha, ea⟩ := in_ex f4 (by decide)
    obtain ⟨b, hb, eb⟩ := in_ex f5 (by decide)
    exact ⟨a, b, ha, hb, ea, eb, f1.trans ea, f2.trans eb, by unfold nA; rw [ea, ix_nI (by omega)], by unfold nB; rw [eb, ix_nI (by omega)]⟩
  rcases fi_sp (npF G (nI k)) (ix (G 0 2)) 0 with ⟨h1, h2⟩ | ⟨n, h1, h2, h3, h4⟩
  · have e : ptn V k = -1 := by
      rcases p2 k hk with h | ⟨n, hn, h⟩
      · exact h
      · exfalso
        obtain ⟨a, b, ha, hb, e1, e2, e3, e4, e5, e6⟩ := eN n (by omega)
        have hz := h2 n (by omega) (by omega)
        unfold npF at hz
        rcases h with h | h
        · rw [if_pos (by rw [e3, ← h, e5])] at hz; exact absurd hz (by decide)
        · by_cases hq : G 6 n = nI k
          · rw [if_pos hq] at hz; exact absurd hz (by decide)
          · rw [if_neg hq, if_pos (by rw [e4, ← h, e6])] at hz; exact absurd hz (by decide)
    have en : noF G (nI k) = -1 := h1
    refine ⟨?_, fun _ => e, fun _ => en⟩
    unfold maF
    rw [if_pos en, e]
  · obtain ⟨a, b, ha, hb, e1, e2, e3, e4, e5, e6⟩ := eN n (by omega)
    obtain ⟨q1, q2, q3, q4, q5⟩ := p1 n (by omega)
    have en : noF G (nI k) = nI n := h3
    have hne : ¬ nI n = -1 := nI_nm (by omega)
    have key : G 6 n + G 7 n - nI k = ptn V k ∧ ¬ ptn V k = -1 := by
      unfold npF at h4
      by_cases g6 : G 6 n = nI k
      · have ek : a = k := (nI_eq (by omega) (by omega)).mp (e3.symm.trans g6)
        have e : ptn V k = nI b := by rw [← ek, ← e5, q4, e2]
        rw [e, e3, e4, ek, Int32.add_comm, Int32.add_sub_cancel]
        exact ⟨rfl, nI_nm (by omega)⟩
      · rw [if_neg g6] at h4
        by_cases g7 : G 7 n = nI k
        · have ek : b = k := (nI_eq (by omega) (by omega)).mp (e4.symm.trans g7)
          have e : ptn V k = nI a := by rw [← ek, ← e6, q5, e1]
          rw [e, e3, e4, ek, Int32.add_sub_cancel]
          exact ⟨rfl, nI_nm (by omega)⟩
        · rw [if_neg g7] at h4; exact absurd rfl h4
    refine ⟨?_, fun h => absurd (en.symm.trans h) hne, fun h => absurd h key.2⟩
    unfold maF
    rw [en, if_neg hne, ix_nI (by omega)]
    exact key.1
theorem tl_ct {B : Nat} {K V G U : FV} (R : RI B K V G U) {c x : Int32} (hc : vp_in c 6) (hm : ix c < ix (V 0 2)) : tlF (V (ix c + 5)) x = ctM G U c x := by
  obtain ⟨k, hk, ek⟩ := in_ex hc (by decide)
  have eix : ix c = k := by rw [ek, ix_nI (by omega)]
  rw [eix] at hm
  have h := R.2.2.2.2.1 k hk
  unfold tlF ctM
  rw [eix]
  refine ite_c (fun _ => h.1.1.symm) (fun _ => ite_c (fun _ => h.1.2.1.symm) (fun _ => ite_c (fun _ => h.1.2.2.1.symm) (fun _ => ite_c (fun _ => h.1.2.2.2.1.symm) (fun _ => ite_c (fun _ => h.1.2.2.2.2.1.symm) (fun _ => ite_c (fun _ => h.1.2.2.2.2.2.1.symm) (fun _ => ite_c (fun _ => h.1.2.2.2.2.2.2.1.symm) (fun _ => ite_c (fun _ => h.1.2.2.2.2.2.2.2.symm) (fun _ => ite_c (fun _ => ?_) (fun _ => ?_)))))))))
  · rcases st_ok h hm with ⟨h8, h7⟩ | ⟨h8, h7⟩
    · rw [if_neg (by rw [h8]; decide), if_pos h7]
    · rw [if_pos h8, if_neg (by rw [h7]; decide)]
  · rw [ek]; exact (mate_ok R hk).1.symm
theorem tn_nu {B : Nat} {K V G U : FV} (R : RI B K V G U) {n : Nat} (x : Int32) (hn : n < ix (V 0 3)) : tnF V n x = nuM G U n x := by
  obtain ⟨f1, f2, f3, -, -⟩ := R.2.2.2.2.2.1 n (nAB R hn).1
  unfold tnF nuM
  exact ite_c (fun _ => f1.symm) (fun _ => ite_c (fun _ => f2.symm) (fun _ => ite_c (fun _ => f3.symm) (fun _ => wc_ca R hn)))
theorem tr_rt {B : Nat} {K V G U : FV} (R : RI B K V G U) {r : Int32} (x : Int32) (hr : vp_in r 16) : trF V r x = rtM G U r x := by
  unfold trF rtM
  exact ite_c (fun _ => (R.2.2.1 _ (in_ix hr)).1.symm) (fun _ => ar_sum R r)
theorem me_mn {B : Nat} {K V G U : FV} (R : RI B K V G U) : meF V = mnM G U := by
  unfold meF mnM
  rw [R.1.1]
  refine ite_c (fun _ => rfl) (fun _ => ?_)
  have e := ta_sum R
  rw [R.1.1] at e
  rw [e]
theorem dgS_congr {f g : Nat → Int32} {d : Int64} : ∀ n, (∀ k, k < n → f k = g k) → dgS f d n = dgS g d n
  | 0, _ => rfl
  | n + 1, h => by
    show dgW (dgS f d n) (f n) = dgW (dgS g d n) (g n)
    rw [dgS_congr n (fun k hk => h k (by omega)), h n (by omega)]
theorem dgS_app (f : Nat → Int32) (d : Int64) (m : Nat) : ∀ n, dgS f d (m + n) = dgS (fun k => f (m + k)) (dgS f d m) n
  | 0 => rfl
  | n + 1 => by
    show dgW (dgS f d (m + n)) (f (m + n)) = dgW (dgS (fun k => f (m + k)) (dgS f d m) n) (f (m + n))
    rw [dgS_app f d m n]
theorem dg2_flat (f : Nat → Nat → Int32) {N : Nat} (hN : 0 < N) (d : Int64) : ∀ M, dg2 f N d M = dgS (fun k => f (k / N) (k % N)) d (N * M)
  | 0 => rfl
  | M + 1 => by
    show dgS (f M) (dg2 f N d M) N = _
    rw [dg2_flat f hN d M, Nat.mul_succ, dgS_app]
    refine dgS_congr N (fun k hk => ?_)
    show f M k = f ((N * M + k) / N) ((N * M + k) % N)
    rw [Nat.mul_add_div hN, Nat.div_eq_of_lt hk, Nat.mul_add_mod, Nat.mod_eq_of_lt hk, Nat.add_zero]
theorem dgT_congr {K G : FV} {d : Int64} : ∀ n, (∀ k, k < n → K 1 k = G 1 k ∧ K 2 k = G 2 k) → dgT K d n = dgT G d n
  | 0, _ => rfl
  | n + 1, h => by
    show dgW (dgW (dgT K d n) (K 1 n)) (K 2 n) = dgW (dgW (dgT G d n) (G 1 n)) (G 2 n)
    rw [dgT_congr n (fun k hk => h k (by omega)), (h n (by omega)).1, (h n (by omega)).2]
theorem dg_eq {B : Nat} {K V G U : FV} (R : RI B K V G U) : dgF K V = dgM G U := by
  have hT4 := in_ix R.1.2.2.2.2.2.2.2.2.1
  have hM7 := in_ix R.1.2.2.2.2.2.2.2.1
  unfold dgF dgM
  rw [dg2_flat _ (by omega), dg2_flat _ (by omega), dg2_flat _ (by omega), R.1.1, R.1.2.1]
  have e1 : dgS (cnT V) 1487 13 = dgS (d1M G U) 1487 13 := dgS_congr 13 (fun k hk => tc_cu R (vp_in_nI hk (by decide)))
  have e2 : ∀ d, dgT K d 8 = dgT G d 8 := fun d => dgT_congr 8 (fun k hk => ⟨(R.2.1 k hk).1.symm, (R.2.1 k hk).2.1.symm⟩)
  have e3 : ∀ d, dgS (fun k => coT V (k / 10) (k % 10)) d (10 * ix (V 0 2)) = dgS (d3M G U) d (10 * ix (V 0 2)) := fun d => dgS_congr _ (fun k hk => by
    have h1 : k / 10 < ix (V 0 2) := by omega
    have h2 := tl_ct R (c := nI (k / 10)) (x := nI (k % 10)) (vp_in_nI (by omega) (by decide)) (by rw [ix_nI (by omega)]; exact h1)
    rw [ix_nI (by omega)] at h2
    exact h2)
  have e4 : ∀ d, dgS (fun k => neT V (k / 4) (k % 4)) d (4 * ix (V 0 3)) = dgS (d4M G U) d (4 * ix (V 0 3)) := fun d => dgS_congr _ (fun k hk => tn_nu R _ (by omega))
  have e5 : ∀ d, dgS (fun k => reT V (k / 2) (k % 2)) d (2 * 16) = dgS (d5M G U) d 32 := fun d => dgS_congr 32 (fun k hk => tr_rt R _ (vp_in_nI (by omega) (by decide)))
  rw [e1, e2, e3, e4, e5]
