set_option maxHeartbeats 4000000 in
set_option maxRecDepth 100000 in
/-- the end of the loop -/
theorem law_exit {p : Program} {l : Launch} {e : Env} {s : State} {m : MethodId} {below : List Frame} {meth : Method} {c : Code} {b L : Nat} {xs : Nat → Int32} {Q : State → Prop} {D : va_G} {y : Nat → ClassId} {ao ac an ar am bs ba : Nat → Nat} (C0 : LCx p l s m meth c b L xs D y ao ac an ar am bs ba) {i B cells slots : Nat} (hq : Q = lw_Z below #[Value.ref b] s) (hcl : cells ≤ 667962) (hsl : slots ≤ 7092219) : ∀ (H : Heap) (locs : List Loc) (ls : Array Slot), va_S (lwA s) s.heap H locs → W p l e room_1 s m #[Value.ref b] below meth c H locs cells slots Q (F0 m 1285 ls []) := by
  obtain ⟨hx, hb, hr, hml, hown, hts, hXs, hbl, hlocks, hK, hN, hE, hX, hD, hst⟩ := C0
  intro H locs ls hS
  subst hq
  refine lv_iconst (v := 1) hx hb dL_law_1285 (by decide) ?_
  refine va_forget (fun q hq => hS.2.2 q hq) ?_
  refine W.widen (k := 667962) (n := 7092219) hcl hsl ?_
  refine W.base ?_
  exact lw_ret (Drawn.sameBut.refl s.drawn lw_cs) hx hb hr hlocks dL_law_1286
theorem i4_le {i L : Nat} (hL : L ≤ 2048) (hi : i ≤ L) (h : ¬ nI L - 4 < nI i) : i + 4 ≤ L := by
  by_cases h4 : 4 ≤ L
  · rw [← nI_l4, nI_sub h4, nI_ltI (by omega) (by omega)] at h
    omega
  · exfalso
    have : ∀ L, L < 4 → ∀ i, i < 4 → nI L - 4 < nI i := by decide +kernel
    exact h (this L (by omega) i (by omega))
set_option maxHeartbeats 4000000 in
set_option maxRecDepth 100000 in
/-- one round of the loop: from its head to its head -/
theorem law_round {p : Program} {l : Launch} {e : Env} {s : State} {m : MethodId} {below : List Frame} {meth : Method} {c : Code} {b L : Nat} {xs : Nat → Int32} {Q : State → Prop} {D : va_G} {y : Nat → ClassId} {ao ac an ar am bs ba : Nat → Nat} (C0 : LCx p l s m meth c b L xs D y ao ac an ar am bs ba) {i B cells slots : Nat} (hi9 : i ≤ L) (hL : L ≤ 2048) (hB : B + 200 < 2 ^ 31) (hcl : cells + 4 ≤ 667962) (hsl : slots + 24 ≤ 7092219) (hq : Q = lw_Z below #[Value.ref b] s) (next : i + 4 ≤ L → LGo p l e s m below meth c b Q D y ao ac an ar am bs ba 23 (i + 4) (B + 40) (cells + 4) (slots + 24)) : LGo p l e s m below meth c b Q D y ao ac an ar am bs ba 23 i B cells slots := by
  obtain ⟨hx, hb, hr, hml, hown, hts, hXs, hbl, hlocks, hK, hN, hE, hX, hD, hst⟩ := id C0
  intro v K V U F S X H locs ls R hP hS hl
  have hbA : ¬ lwA s b := Nat.not_le.mpr hbl
  refine lv_iload hx hb dL_law_23 (lv_at hl 4 rfl) ?_
  refine lv_aload_n hx hb dL_law_25 rfl (lv_at hl 0 rfl) ?_
  refine va_slen hx hb hXs hbl hbA hS dL_law_26 ?_
  refine lv_iconst (v := 4) hx hb dL_law_27 (by decide) ?_
  refine lv_isub hx hb dL_law_28 ?_
  refine lv_icmp_gt (tgt := 1285) hx hb dL_law_29 (by decide) (fun _ => law_exit C0 (i := i) (B := B) hq (by omega) (by omega) H locs ls hS) (fun c9 => ?_)
  have hi : i + 4 ≤ L := i4_le hL hi9 c9
  have nx : LGo p l e s m below meth c b Q D y ao ac an ar am bs ba 1279 i (B + 40) (cells + 4) (slots + 24) := by
    intro v K V U F S X H locs ls R hP hS hl
    refine lv_iinc (v := nI (i + 4)) (lv' := [(4, .int (nI (i + 4))), (0, .ref b), (1, .ref (ac 0)), (2, .ref (am 0)), (3, .ref (ao 0))]) hx hb dL_law_1279 hl (k := 4) rfl (by rw [← nI_add]; rfl) (by decide) rfl (fun ls hl => ?_)
    refine lv_goto (tgt := 23) hx hb dL_law_1282 (by decide) ?_
    exact next hi v K V U F S X H locs ls R hP hS (lv_sub hl [1, 2, 3, 4, 0] rfl)
  have a0 : vp_in (nI i) L := vp_in_nI (by omega) (by omega)
  refine lv_aload_n hx hb dL_law_32 rfl (lv_at hl 0 rfl) ?_
  refine lv_iload hx hb dL_law_33 (lv_at hl 4 rfl) ?_
  refine va_sld hx hb hXs hbl hbA hS a0 dL_law_35 ?_
  refine lv_bipush (v := 31) hx hb dL_law_36 (by decide) ?_
  refine lv_iand hx hb dL_law_38 ?_
  refine lv_topi (fun z ez => ?_)
  by_cases h0 : z = nI 0
  · rw [h0]
    refine lv_tableIn (off := 89) (tgt := 128) hx hb dL_law_39 (by decide) (by decide) (by decide) (by decide) ?_
    exact lc_setDrift C0 hi hL hB hcl hsl nx v K V U F S X H locs ls R hP hS hl
  by_cases h1 : z = nI 1
  · rw [h1]
    refine lv_tableIn (off := 157) (tgt := 196) hx hb dL_law_39 (by decide) (by decide) (by decide) (by decide) ?_
    exact lc_setRun C0 hi hL hB hcl hsl nx v K V U F S X H locs ls R hP hS hl
  by_cases h2 : z = nI 2
  · rw [h2]
    refine lv_tableIn (off := 225) (tgt := 264) hx hb dL_law_39 (by decide) (by decide) (by decide) (by decide) ?_
    exact lc_buy C0 hi hL hB hcl hsl nx v K V U F S X H locs ls R hP hS hl
  by_cases h3 : z = nI 3
  · rw [h3]
    refine lv_tableIn (off := 293) (tgt := 332) hx hb dL_law_39 (by decide) (by decide) (by decide) (by decide) ?_
    exact lc_make C0 hi hL hB hcl hsl nx v K V U F S X H locs ls R hP hS hl
  by_cases h4 : z = nI 4
  · rw [h4]
    refine lv_tableIn (off := 373) (tgt := 412) hx hb dL_law_39 (by decide) (by decide) (by decide) (by decide) ?_
    exact lc_net C0 hi hL hB hcl hsl nx v K V U F S X H locs ls R hP hS hl
  by_cases h5 : z = nI 5
  · rw [h5]
    refine lv_tableIn (off := 441) (tgt := 480) hx hb dL_law_39 (by decide) (by decide) (by decide) (by decide) ?_
    exact lc_send C0 hi hL hB hcl hsl nx v K V U F S X H locs ls R hP hS hl
  by_cases h6 : z = nI 6
  · rw [h6]
    refine lv_tableIn (off := 509) (tgt := 548) hx hb dL_law_39 (by decide) (by decide) (by decide) (by decide) ?_
    exact lc_tar C0 hi hL hB hcl hsl nx v K V U F S X H locs ls R hP hS hl
  by_cases h7 : z = nI 7
  · rw [h7]
    refine lv_tableIn (off := 565) (tgt := 604) hx hb dL_law_39 (by decide) (by decide) (by decide) (by decide) ?_
    exact lc_land C0 hi hL hB hcl hsl nx v K V U F S X H locs ls R hP hS hl
  by_cases h8 : z = nI 8
  · rw [h8]
    refine lv_tableIn (off := 621) (tgt := 660) hx hb dL_law_39 (by decide) (by decide) (by decide) (by decide) ?_
    exact lc_about C0 hi hL hB hcl hsl nx v K V U F S X H locs ls R hP hS hl
  by_cases h9 : z = nI 9
  · rw [h9]
    refine lv_tableIn (off := 689) (tgt := 728) hx hb dL_law_39 (by decide) (by decide) (by decide) (by decide) ?_
    exact lc_told C0 hi hL hB hcl hsl nx v K V U F S X H locs ls R hP hS hl
  by_cases h10 : z = nI 10
  · rw [h10]
    refine lv_tableIn (off := 757) (tgt := 796) hx hb dL_law_39 (by decide) (by decide) (by decide) (by decide) ?_
    exact lc_reach C0 hi hL hB hcl hsl nx v K V U F S X H locs ls R hP hS hl
  by_cases h11 : z = nI 11
  · rw [h11]
    refine lv_tableIn (off := 825) (tgt := 864) hx hb dL_law_39 (by decide) (by decide) (by decide) (by decide) ?_
    exact lc_count C0 hi hL hB hcl hsl nx v K V U F S X H locs ls R hP hS hl
  by_cases h12 : z = nI 12
  · rw [h12]
    refine lv_tableIn (off := 881) (tgt := 920) hx hb dL_law_39 (by decide) (by decide) (by decide) (by decide) ?_
    exact lc_pass C0 hi hL hB hcl hsl nx v K V U F S X H locs ls R hP hS hl
  by_cases h13 : z = nI 13
  · rw [h13]
    refine lv_tableIn (off := 937) (tgt := 976) hx hb dL_law_39 (by decide) (by decide) (by decide) (by decide) ?_
    exact lc_meets C0 hi hL hB hcl hsl nx v K V U F S X H locs ls R hP hS hl
  by_cases h14 : z = nI 14
  · rw [h14]
    refine lv_tableIn (off := 993) (tgt := 1032) hx hb dL_law_39 (by decide) (by decide) (by decide) (by decide) ?_
    exact lc_sinks C0 hi hL hB hcl hsl nx v K V U F S X H locs ls R hP hS hl
  by_cases h15 : z = nI 15
  · rw [h15]
    refine lv_tableIn (off := 1049) (tgt := 1088) hx hb dL_law_39 (by decide) (by decide) (by decide) (by decide) ?_
    exact lc_foresee C0 hi hL hB hcl hsl nx v K V U F S X H locs ls R hP hS hl
  by_cases h16 : z = nI 16
  · rw [h16]
    refine lv_tableIn (off := 1117) (tgt := 1156) hx hb dL_law_39 (by decide) (by decide) (by decide) (by decide) ?_
    exact lc_advise C0 hi hL hB hcl hsl nx v K V U F S X H locs ls R hP hS hl
  by_cases h17 : z = nI 17
  · rw [h17]
    refine lv_tableIn (off := 1185) (tgt := 1224) hx hb dL_law_39 (by decide) (by decide) (by decide) (by decide) ?_
    exact lc_mean C0 hi hL hB hcl hsl nx v K V U F S X H locs ls R hP hS hl
  by_cases h18 : z = nI 18
  · rw [h18]
    refine lv_tableIn (off := 1226) (tgt := 1265) hx hb dL_law_39 (by decide) (by decide) (by decide) (by decide) ?_
    exact lc_digest C0 hi hL hB hcl hsl nx v K V U F S X H locs ls R hP hS hl
  refine lv_tableOut (tgt := 1279) hx hb dL_law_39 (sw_out z (n := 19) (hi := 18) (by decide) (by decide) (fun j hj ej => ?_)) (by decide) ?_
  · rcases (show j = 0 ∨ j = 1 ∨ j = 2 ∨ j = 3 ∨ j = 4 ∨ j = 5 ∨ j = 6 ∨ j = 7 ∨ j = 8 ∨ j = 9 ∨ j = 10 ∨ j = 11 ∨ j = 12 ∨ j = 13 ∨ j = 14 ∨ j = 15 ∨ j = 16 ∨ j = 17 ∨ j = 18 by omega) with e | e | e | e | e | e | e | e | e | e | e | e | e | e | e | e | e | e | e <;> subst e
    · exact h0 ej
    · exact h1 ej
    · exact h2 ej
    · exact h3 ej
    · exact h4 ej
    · exact h5 ej
    · exact h6 ej
    · exact h7 ej
    · exact h8 ej
    · exact h9 ej
    · exact h10 ej
    · exact h11 ej
    · exact h12 ej
    · exact h13 ej
    · exact h14 ej
    · exact h15 ej
    · exact h16 ej
    · exact h17 ej
    · exact h18 ej
  · refine W.widen (k := cells + 4) (n := slots + 24) (by omega) (by omega) ?_
    exact nx v K V U F S X H locs ls (RI_up R (by omega)) hP hS hl
/-- the loop -/
theorem law_loop {p : Program} {l : Launch} {e : Env} {s : State} {m : MethodId} {below : List Frame} {meth : Method} {c : Code} {b L : Nat} {xs : Nat → Int32} {Q : State → Prop} {D : va_G} {y : Nat → ClassId} {ao ac an ar am bs ba : Nat → Nat} (C0 : LCx p l s m meth c b L xs D y ao ac an ar am bs ba) (hL : L ≤ 2048) (hq : Q = lw_Z below #[Value.ref b] s) : ∀ n i, i ≤ L → L - i ≤ n → LGo p l e s m below meth c b Q D y ao ac an ar am bs ba 23 i (10 * i) (100 + i) (1000 + 6 * i)
  | 0, i, h1, h2 => law_round C0 h1 hL (by omega) (by omega) (by omega) hq (fun h => absurd h (by omega))
  | n + 1, i, h1, h2 => law_round C0 h1 hL (by omega) (by omega) (by omega) hq (fun h => by
    have ih := law_loop (e := e) C0 hL hq n (i + 4) h (by omega)
    rw [show 10 * (i + 4) = 10 * i + 40 by omega, show 100 + (i + 4) = 100 + i + 4 by omega, show 1000 + 6 * (i + 4) = 1000 + 6 * i + 24 by omega] at ih
    exact ih)
