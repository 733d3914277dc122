/-! ===== the first values ===== -/
theorem z0_1 : ∀ i, i < 8 → th mo0 1 i = kI 8 1 i ∧ th mo0 2 i = kI 8 2 i ∧ ¬ (kI 8 1 i < 0 ∨ 6 ≤ (kI 8 1 i).toNatClampNeg) ∧ ¬ (kI 8 2 i < 0 ∨ 10 ≤ (kI 8 2 i).toNatClampNeg) := by decide +kernel
theorem z0_2 : ∀ i, i < 16 → stI 16 1 i = rv0 3 i ∧ ¬ (rv0 3 i < 0 ∨ 61 ≤ (rv0 3 i).toNatClampNeg) := by decide +kernel
theorem z0_3 : ∀ i, i < 4 → rv0 4 i = nI (if i = 3 then 50 else 3) := by decide +kernel
theorem z0_4 : ∀ i, i < 3 → th mo0 8 i = rv0 4 i := by decide +kernel
theorem z0_5 : ∀ k, k < 6 → (th mo0 3 k = rv0 (k + 5) 0 ∧ th mo0 4 k = rv0 (k + 5) 1 ∧ th mo0 5 k = rv0 (k + 5) 2 ∧ stI 16 2 k = rv0 (k + 5) 3 ∧ stI 16 3 k = rv0 (k + 5) 4 ∧ stI 16 4 k = rv0 (k + 5) 5 ∧ stI 16 5 k = rv0 (k + 5) 6 ∧ stI 16 6 k = rv0 (k + 5) 7) := by decide +kernel
theorem z0_6 : ∀ k, k < 6 → (rv0 (k + 5) 0 = 0 ∧ rv0 (k + 5) 1 = 0 ∧ rv0 (k + 5) 2 = 0 ∧ rv0 (k + 5) 3 = 0 ∧ rv0 (k + 5) 4 = 0 ∧ rv0 (k + 5) 5 = 0 ∧ rv0 (k + 5) 7 = 0 ∧ rv0 (k + 5) 8 = 0 ∧ stI 16 7 k = 0 ∧ rv0 (k + 5) 9 = -1) := by decide +kernel
theorem z0_7 : ∀ n, n < 3 → th mo0 6 n = rv0 (n + 11) 0 ∧ th mo0 7 n = rv0 (n + 11) 1 ∧ stI 16 8 n = rv0 (n + 11) 2 ∧ rv0 (n + 11) 0 = 0 ∧ rv0 (n + 11) 1 = 0 := by decide +kernel
theorem z0_8 : ptC (ptn rv0) 6 = 0 := by decide +kernel
theorem in_0 {n : Nat} (h : 0 < n) (h2 : n < 2 ^ 31) : vp_in 0 n := by rw [← nI_0]; exact vp_in_nI h h2
theorem ix_0 : ix 0 = 0 := by decide
theorem ri_0 : RI 0 (kI 8) rv0 (th mo0) (stI 16) := by
  have e2 : ix (rv0 0 2) = 0 := by decide
  have e3 : ix (rv0 0 3) = 0 := by decide
  refine ⟨⟨by decide, by decide, by decide, by decide, by decide, by decide, by decide, in_0 (by decide) (by decide), in_0 (by decide) (by decide), 0, Nat.le_refl 0, by decide⟩, z0_1, z0_2, ⟨fun i hi => ⟨_, ?_, z0_3 i hi⟩, z0_4⟩, fun k hk => ?_, fun n hn => ?_, ?_, ?_, ?_⟩
  · split <;> omega
  · obtain ⟨w0, w1, w2, w3, w4, w5, w7, w8, u7, w9⟩ := z0_6 k hk
    refine ⟨z0_5 k hk, ⟨?_, ?_, ?_, ?_, ?_, 0, 0, by omega, by omega, by rw [w0, nI_0], by rw [w7, nI_0]⟩, Or.inr ⟨by rw [e2]; omega, w8, u7, w5, w7⟩⟩
    · rw [w1]; exact in_0 (by decide) (by decide)
    · rw [w2]; exact in_0 (by decide) (by decide)
    · rw [w3]; exact in_0 (by decide) (by decide)
    · rw [w4]; exact in_0 (by decide) (by decide)
    · rw [w5]; exact in_0 (by decide) (by decide)
  · obtain ⟨g6, g7, u8, w0, w1⟩ := z0_7 n hn
    refine ⟨g6, g7, u8, ?_, ?_⟩
    · rw [w0]; exact in_0 (by decide) (by decide)
    · rw [w1]; exact in_0 (by decide) (by decide)
  · intro n hn
    rw [e3] at hn
    exact absurd hn (by omega)
  · intro k hk
    exact Or.inl (z0_6 k hk).2.2.2.2.2.2.2.2.2
  · rw [e3]; exact z0_8
theorem aD_rot {A : Nat → Prop} {x y z : List Nat} (h : aD A ((x ++ y) ++ z)) : aD A ((z ++ x) ++ y) :=
  aD_app (aD_app (aD_r h) (aD_l (aD_l h)) (fun a b ha hb e => aD_ne h (List.mem_append_left _ hb) ha e.symm)) (aD_r (aD_l h)) (fun a b ha hb e => (List.mem_append.mp ha).elim (fun ha => aD_ne h (List.mem_append_right _ hb) ha e.symm) (fun ha => aD_ne (aD_l h) ha hb e))
set_option maxHeartbeats 4000000 in
set_option maxRecDepth 100000 in
/-- THE LAW, from its entry -/
theorem whole_start {p : Program} {e : Env} {s : State} {m : MethodId} {below : List Frame} {meth : Method} {c : Code} (l : Launch) (hflags : l.flags = flags0) {b L : Nat} {xs : Nat → Int32} (hL : L ≤ 2048) (C0 : lw_At p s m meth c b L xs) : W p l e room_1 s m #[Value.ref b] below meth c s.heap [] 0 0 (lw_Z below #[Value.ref b] s) (entryFrame m ([Value.ref b] : List Value).toArray 9) := by
  obtain ⟨hx, hb, hr, hml, hown, hts0, hXs, hbl, hlocks, hgv⟩ := id C0
  have hown : s.vm.findClass RL = some m.cls := hown
  have hts : ∀ w ∈ wsL_law, w.before #[Value.ref b] s = true := fun w h => hts0 w (wsL_law_in w h)
  have hg := flat_of_before _ hgv
  have hN := nw_s hts0
  have hE := ex_s hts0 hg
  have hX := sx_s hts0 hg
  obtain ⟨D, y, hK⟩ := K_s hts0
  have hst : l.stackTraces = false := by
    unfold Launch.stackTraces
    rw [hflags]
    decide +kernel
  have hA : ∀ q : Nat, s.heap.size ≤ q → lwA s q := fun _ h => h
  have hS : va_S (lwA s) s.heap s.heap [] := va_S.rf
  have hP : va_P D vwCl ([] : va_W) s.heap := P_nil D vwCl s.heap
  have hD : aD (lwA s) ([] : List Nat) := ⟨fun i j a h => by simp at h, fun k a h => by simp at h⟩
  have hl := lv_entry ([.ref b]) (n := 9) (Nat.le_of_ble_eq_true rfl)
  rw [lg_entry_eq]
  generalize (lg_sl ([.ref b]) ++ List.replicate (9 - (lg_sl ([.ref b])).length) Slot.unset).toArray = ls at hl ⊢
  have hl : lv_has ls 9 [(0, .ref b)] := hl
  refine va_new (ci := 3) (fs := [.null, .null, .null, .null]) (C := RX3) (T := TX3) (N := 4) hx hb hts inlX3 tyX3 tyX3_ok hown (hts (.classLink RL 8 RX3) (by decide +kernel)) (hts (.instantiable RX3 4) (by decide +kernel)) (hts (.initialized RX3) (by decide +kernel)) hK hP (aD_D hD rfl) hS hA rfl (by decide) (Nat.le_of_ble_eq_true rfl) (Nat.le_of_ble_eq_true rfl) dL_law_0 (fun q1 H hP hD9 hS => ?_)
  have hD : aD (lwA s) (([] : va_W).map Prod.fst ++ [q1]) := by have h9 := aD_of hD9; rw [List.map_append] at h9; exact h9
  refine lv_dup hx hb dL_law_3 rfl ?_
  refine cNw_I (As := []) (rest := [.ref q1]) ⟨hx, hb, hml, hown, hts⟩ (c_X3_init l D y _ q1) (cwI 0 hts gL_law_X3_init rfl rfl rfl (hts (.initialized RX3) (by decide +kernel)) (hts (.methodLink RL 69 yX3_init) (by decide +kernel)) (hts (.instanceMethod yX3_init) (by decide +kernel)) rfl (by decide +kernel) ⟨Nat.le_of_ble_eq_true rfl, Nat.le_of_ble_eq_true rfl⟩) hK hN hP hD hS hA rfl hl.1 rfl (Nat.le_of_ble_eq_true rfl) dL_law_4 ⟨Nat.le_of_ble_eq_true rfl, Nat.le_of_ble_eq_true rfl⟩ (fun u H locs hu hPn hDn hSn => ?_)
  obtain ⟨ac, an, ar⟩ := u
  have hu : ac 0 = q1 := hu
  subst hu
  have hS := hSn
  have hP : va_P D vwCl (cmA y ac an ar (kI 8) rv0 rv0) H := hPn
  have hD : aD (lwA s) (wa 3 ac ++ (wa 14 an ++ wa 14 ar)) := hDn
  refine lv_astore_n (lv' := [(1, .ref (ac 0)), (0, .ref b)]) hx hb dL_law_7 rfl hl (by decide) rfl (fun ls hl => ?_)
  refine va_new (ci := 5) (fs := [.int 0, .null, .null, .int 0, .null, .null, .null, .int 0, .null, .null, .int 0, .null, .null, .null]) (C := RX5) (T := TX5) (N := 14) hx hb hts inlX5 tyX5 tyX5_ok hown (hts (.classLink RL 70 RX5) (by decide +kernel)) (hts (.instantiable RX5 14) (by decide +kernel)) (hts (.initialized RX5) (by decide +kernel)) hK hP (aD_D hD (cmA_fst y ac an ar (kI 8) rv0 rv0)) hS hA rfl (by decide) (Nat.le_of_ble_eq_true rfl) (Nat.le_of_ble_eq_true rfl) dL_law_8 (fun q2 H hP hD9 hS => ?_)
  have hD : aD (lwA s) ((cmA y ac an ar (kI 8) rv0 rv0).map Prod.fst ++ [q2]) := by have h9 := aD_of hD9; rw [List.map_append] at h9; exact h9
  refine lv_dup hx hb dL_law_11 rfl ?_
  refine cNw_I (As := []) (rest := [.ref q2]) ⟨hx, hb, hml, hown, hts⟩ (c_X5_init l D y _ q2) (cwI 0 hts gL_law_X5_init rfl rfl rfl (hts (.initialized RX5) (by decide +kernel)) (hts (.methodLink RL 72 yX5_init) (by decide +kernel)) (hts (.instanceMethod yX5_init) (by decide +kernel)) rfl (by decide +kernel) ⟨Nat.le_of_ble_eq_true rfl, Nat.le_of_ble_eq_true rfl⟩) hK hN hP hD hS hA rfl hl.1 rfl (Nat.le_of_ble_eq_true rfl) dL_law_12 ⟨Nat.le_of_ble_eq_true rfl, Nat.le_of_ble_eq_true rfl⟩ (fun u H locs hu hPn hDn hSn => ?_)
  obtain ⟨am, bs, ba⟩ := u
  have hu : am 0 = q2 := hu
  subst hu
  have hS := hSn
  have hP : va_P D vwCl (cmA y ac an ar (kI 8) rv0 rv0 ++ moA y am bs ba mo0 (stI 16) (stI 0)) H := hPn
  have hD : aD (lwA s) ((wa 3 ac ++ (wa 14 an ++ wa 14 ar)) ++ (wa 9 am ++ (wa 9 bs ++ wa 9 ba))) := by rw [cmA_fst] at hDn; exact hDn
  refine lv_astore_n (lv' := [(2, .ref (am 0)), (1, .ref (ac 0)), (0, .ref b)]) hx hb dL_law_15 rfl hl (by decide) rfl (fun ls hl => ?_)
  refine lv_iconst (v := 1) hx hb dL_law_16 (by decide) ?_
  refine va_newa (atype := .long) (ty := .long) (a0 := (1, .inr (.inl (fun _ => 0)))) (N' := 1) hx hb (hts (.arrayClass .long) (by decide +kernel)) rfl hK hP (aD_D hD (show List.map Prod.fst (cmA y ac an ar (kI 8) rv0 rv0 ++ moA y am bs ba mo0 (stI 16) (stI 0)) = _ from by rw [List.map_append, cmA_fst, moA_fst])) hS hA (fun _ => rfl) (by decide) (by decide) (by decide) (Nat.le_of_ble_eq_true rfl) (Nat.le_of_ble_eq_true rfl) dL_law_17 (fun q3 cA H hK9 hP hD9 hS => ?_)
  have eA := K_uniq hK9 (i := 5) (j := 2) rfl rfl
  subst eA
  have hD : aD (lwA s) (((wa 3 ac ++ (wa 14 an ++ wa 14 ar)) ++ (wa 9 am ++ (wa 9 bs ++ wa 9 ba))) ++ wa 1 (fun _ => q3)) := by
    have h9 := aD_of hD9
    rw [List.map_append, List.map_append, cmA_fst, moA_fst] at h9
    exact h9
  have hD : aD (lwA s) (lawL (fun _ => q3) ac an ar am bs ba) := aD_rot hD
  have hP : va_P D vwCl (lawW y (fun _ => q3) ac an ar am bs ba (fun _ => 0) (kI 8) rv0 rv0 mo0 (stI 16) (stI 0)) H := P_mem hP (fun q hq => by
    rcases List.mem_append.mp hq with h | h
    · rcases List.mem_append.mp h with h | h
      · exact List.mem_append_right _ h
      · exact List.mem_append_left _ (List.mem_append_left _ h)
    · exact List.mem_append_left _ (List.mem_append_right _ h))
  refine lv_astore_n (lv' := [(3, .ref q3), (2, .ref (am 0)), (1, .ref (ac 0)), (0, .ref b)]) hx hb dL_law_19 rfl hl (by decide) rfl (fun ls hl => ?_)
  refine lv_iconst (v := 0) hx hb dL_law_20 (by decide) ?_
  refine lv_istore (lv' := [(4, .int 0), (3, .ref q3), (2, .ref (am 0)), (1, .ref (ac 0)), (0, .ref b)]) hx hb dL_law_21 hl (by decide) rfl (fun ls hl => ?_)
  have hl : lv_has ls 9 [(4, .int (nI 0)), (3, .ref q3), (2, .ref (am 0)), (1, .ref (ac 0)), (0, .ref b)] := hl
  have Cx : LCx p l s m meth c b L xs D y (fun _ => q3) ac an ar am bs ba := ⟨hx, hb, hr, hml, hown, hts, hXs, hbl, hlocks, hK, hN, hE, hX, hD, hst⟩
  refine W.widen (k := 100) (n := 1000) (Nat.le_of_ble_eq_true rfl) (Nat.le_of_ble_eq_true rfl) ?_
  exact law_loop Cx hL rfl L 0 (Nat.zero_le L) (by omega) (fun _ => 0) (kI 8) rv0 rv0 mo0 (stI 16) (stI 0) H _ ls ri_0 hP hS (lv_sub hl [4, 3, 2, 1, 0] rfl)
