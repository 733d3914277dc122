/-! ===== the model: a state becomes another ===== -/
def stQ (U X : Nat → Nat → Int32) : Prop := (∀ i, i < 4 → U 0 i = X 0 i) ∧ (∀ i, i < 16 → U 1 i = X 1 i) ∧ (∀ r, 2 ≤ r → r ≤ 7 → ∀ i, i < 6 → U r i = X r i) ∧ ∀ i, i < 3 → U 8 i = X 8 i
theorem st_cong {D : va_G} {y : Nat → ClassId} {bs : Nat → Nat} {o0 : Nat} {U X : Nat → Nat → Int32} {H : Heap} (h : stQ U X) (hP : va_P D vwCl (stW y bs o0 U) H) : va_P D vwCl (stW y bs o0 X) H := by
  obtain ⟨h0, h1, hr, h8⟩ := h
  refine P_cong hP (fun j hj hat => ?_)
  rcases (show j = 0 ∨ j = 1 ∨ j = 2 ∨ j = 3 ∨ j = 4 ∨ j = 5 ∨ j = 6 ∨ j = 7 ∨ j = 8 by omega) with e | e | e | e | e | e | e | e | e <;> subst e
  · have e : stE y bs o0 U 0 = stE y bs o0 X 0 := by
      show (Sum.inr _ : va_E) = Sum.inr _
      rw [h0 0 (by omega), h0 1 (by omega), h0 2 (by omega), h0 3 (by omega)]
    rw [← e]; exact hat
  · exact at_int (f := U 1) hat h1
  · exact at_int (f := U 2) hat (hr 2 (by omega) (by omega))
  · exact at_int (f := U 3) hat (hr 3 (by omega) (by omega))
  · exact at_int (f := U 4) hat (hr 4 (by omega) (by omega))
  · exact at_int (f := U 5) hat (hr 5 (by omega) (by omega))
  · exact at_int (f := U 6) hat (hr 6 (by omega) (by omega))
  · exact at_int (f := U 7) hat (hr 7 (by omega) (by omega))
  · exact at_int (f := U 8) hat h8
theorem st_congR {D : va_G} {x : va_W} {y : Nat → ClassId} {bs : Nat → Nat} {o0 : Nat} {U X : Nat → Nat → Int32} {H : Heap} (h : stQ U X) (hP : va_P D vwCl (x ++ stW y bs o0 U) H) : va_P D vwCl (x ++ stW y bs o0 X) H := va_P.app (P_l hP) (st_cong h (P_r hP))
theorem sb_end (X U : Nat → Nat → Int32) (f : Nat → Nat → Int32) : stQ (va_up (va_up (va_up (va_up (va_up (va_up (va_up (va_up (vU (vU (vU (vU X 0 0 (U 0 0)) 0 1 (U 0 1)) 0 2 (U 0 2)) 0 3 (U 0 3)) 1 (va_cpy (U 1) (f 1) 0 0 16)) 2 (va_cpy (U 2) (f 2) 0 0 6)) 3 (va_cpy (U 3) (f 3) 0 0 6)) 4 (va_cpy (U 4) (f 4) 0 0 6)) 5 (va_cpy (U 5) (f 5) 0 0 6)) 6 (va_cpy (U 6) (f 6) 0 0 6)) 7 (va_cpy (U 7) (f 7) 0 0 6)) 8 (va_cpy (U 8) (f 8) 0 0 3)) U := by
  refine ⟨fun i hi => ?_, fun i hi => ?_, fun r h2 h7 i hi => ?_, fun i hi => ?_⟩
  · rw [va_up_ne _ _ (by omega), va_up_ne _ _ (by omega), va_up_ne _ _ (by omega), va_up_ne _ _ (by omega), va_up_ne _ _ (by omega), va_up_ne _ _ (by omega), va_up_ne _ _ (by omega), va_up_ne _ _ (by omega)]
    simp only [vU_at]
    rcases (show i = 0 ∨ i = 1 ∨ i = 2 ∨ i = 3 by omega) with h | h | h | h <;> subst h <;> simp
  · simp [va_up, va_cpy, hi]
  · rcases (show r = 2 ∨ r = 3 ∨ r = 4 ∨ r = 5 ∨ r = 6 ∨ r = 7 by omega) with h | h | h | h | h | h <;> subst h <;> simp [va_up, va_cpy, hi]
  · simp [va_up, va_cpy, hi]
abbrev rmX4_become : Room := { frames := 1, cells := 0, slots := 0, locals := 48 }
set_option maxHeartbeats 4000000 in
set_option maxRecDepth 100000 in
/-- become(o): o is at bs -/
theorem c_X4_become (l : Launch) (D : va_G) (y : Nat → ClassId) (sz : Nat) (bs ba : Nat → Nat) (o0 o1 : Nat) (U X : Nat → Nat → Int32) (hB9 : ∀ i, i < 6 → isB (U 7 i)) : WrV l D y yX4_become wsX4_become rmX4_become [.ref (ba 0), .ref (bs 0)] (stW y bs o0 U ++ stW y ba o1 X) sz (stW y bs o0 U ++ stW y ba o1 U) := by
  refine mW (fun A => va_Qv (fun (_ : Unit) => True) (fun _ t9 => Bp D y (stW y bs o0 U ++ stW y ba o1 U) t9) A) (C := RX4) (cc := cX4_become) (maxL := 2) (ret := none) (by decide) rfl rfl (Nat.le_of_ble_eq_true rfl) ?_
  intro p e s m a below meth c ls A Q hQ hsz hx hb hr hts hown hlocks hin hml hP hK hN hD hA hS hl
  have hl : lv_has ls 2 [(0, .ref (ba 0)), (1, .ref (bs 0))] := hl
  rw [st2_fst] at hD
  refine lv_aload_n hx hb dX4_become_0 rfl (lv_at hl 0 rfl) ?_
  refine lv_aload_n hx hb dX4_become_1 rfl (lv_at hl 1 rfl) ?_
  have hin4 : ∀ w ∈ u_ws RX4 TX4 13, w ∈ wsX4_become := by decide +kernel
  have hf45 := hts (.fieldLink RX4 45 "CoracleMakersModel$State" "hour" "I") (by decide +kernel)
  refine va_get (D := D) (ci := 4) (v := .int (U 0 0)) (C := RX4) (T := TX4) (N := 13) hx hb hts hin4 hown hK hP 0 (ap_l (wf_at (by decide) rfl)) rfl 0 (by decide) hf45 (fun _ h9 => h9) rfl dX4_become_2 ?_
  obtain ⟨X61, hX61⟩ : ∃ z, z = va_up X 0 (upd (X 0) 0 (U 0 0)) := ⟨_, rfl⟩
  refine va_put (D := D) (ci := 4) (v := .int (U 0 0)) (ty := .int) (C := RX4) (T := TX4) (N := 13) hx hb hts hin4 tyX4 tyX4_ok nmX4 hown hK hP (aD_D hD (show List.map Prod.fst (stW y bs o0 U ++ stW y ba o1 X) = _ from by rw [List.map_append, st_fst y bs _ _, st_fst y ba _ _])) hS (9 + 0) (ap_r (wf_len 9 _ _) (wf_at (by decide) rfl)) rfl 0 (by decide) hf45 (fun _ h9 => h9) rfl (by decide +kernel) rfl rfl (Nat.le_of_ble_eq_true rfl) dX4_become_5 (fun H locs hP _ hS => ?_)
  have hP : va_P D vwCl (stW y bs o0 U ++ stW y ba o1 X61) H := (by rw [hX61]; exact P_eq (ap_set_r (wf_len 9 _ _) (st_set (k := 0) (upd (X 0) 0 (U 0 0)) (by decide) rfl)) hP)
  refine lv_aload_n hx hb dX4_become_8 rfl (lv_at hl 0 rfl) ?_
  refine lv_aload_n hx hb dX4_become_9 rfl (lv_at hl 1 rfl) ?_
  have hf15 := hts (.fieldLink RX4 15 "CoracleMakersModel$State" "coins" "I") (by decide +kernel)
  refine va_get (D := D) (ci := 4) (v := .int (U 0 1)) (C := RX4) (T := TX4) (N := 13) hx hb hts hin4 hown hK hP 0 (ap_l (wf_at (by decide) rfl)) rfl 1 (by decide) hf15 (fun _ h9 => h9) rfl dX4_become_10 ?_
  obtain ⟨X62, hX62⟩ : ∃ z, z = va_up X61 0 (upd (X61 0) 1 (U 0 1)) := ⟨_, rfl⟩
  refine va_put (D := D) (ci := 4) (v := .int (U 0 1)) (ty := .int) (C := RX4) (T := TX4) (N := 13) hx hb hts hin4 tyX4 tyX4_ok nmX4 hown hK hP (aD_D hD (show List.map Prod.fst (stW y bs o0 U ++ stW y ba o1 X61) = _ from by rw [List.map_append, st_fst y bs _ _, st_fst y ba _ _])) hS (9 + 0) (ap_r (wf_len 9 _ _) (wf_at (by decide) rfl)) rfl 1 (by decide) hf15 (fun _ h9 => h9) rfl (by decide +kernel) rfl rfl (Nat.le_of_ble_eq_true rfl) dX4_become_13 (fun H locs hP _ hS => ?_)
  have hP : va_P D vwCl (stW y bs o0 U ++ stW y ba o1 X62) H := (by rw [hX62]; exact P_eq (ap_set_r (wf_len 9 _ _) (st_set (k := 0) (upd (X61 0) 1 (U 0 1)) (by decide) rfl)) hP)
  refine lv_aload_n hx hb dX4_become_16 rfl (lv_at hl 0 rfl) ?_
  refine lv_aload_n hx hb dX4_become_17 rfl (lv_at hl 1 rfl) ?_
  have hf48 := hts (.fieldLink RX4 48 "CoracleMakersModel$State" "sold" "I") (by decide +kernel)
  refine va_get (D := D) (ci := 4) (v := .int (U 0 2)) (C := RX4) (T := TX4) (N := 13) hx hb hts hin4 hown hK hP 0 (ap_l (wf_at (by decide) rfl)) rfl 2 (by decide) hf48 (fun _ h9 => h9) rfl dX4_become_18 ?_
  obtain ⟨X63, hX63⟩ : ∃ z, z = va_up X62 0 (upd (X62 0) 2 (U 0 2)) := ⟨_, rfl⟩
  refine va_put (D := D) (ci := 4) (v := .int (U 0 2)) (ty := .int) (C := RX4) (T := TX4) (N := 13) hx hb hts hin4 tyX4 tyX4_ok nmX4 hown hK hP (aD_D hD (show List.map Prod.fst (stW y bs o0 U ++ stW y ba o1 X62) = _ from by rw [List.map_append, st_fst y bs _ _, st_fst y ba _ _])) hS (9 + 0) (ap_r (wf_len 9 _ _) (wf_at (by decide) rfl)) rfl 2 (by decide) hf48 (fun _ h9 => h9) rfl (by decide +kernel) rfl rfl (Nat.le_of_ble_eq_true rfl) dX4_become_21 (fun H locs hP _ hS => ?_)
  have hP : va_P D vwCl (stW y bs o0 U ++ stW y ba o1 X63) H := (by rw [hX63]; exact P_eq (ap_set_r (wf_len 9 _ _) (st_set (k := 0) (upd (X62 0) 2 (U 0 2)) (by decide) rfl)) hP)
  refine lv_aload_n hx hb dX4_become_24 rfl (lv_at hl 0 rfl) ?_
  refine lv_aload_n hx hb dX4_become_25 rfl (lv_at hl 1 rfl) ?_
  have hf51 := hts (.fieldLink RX4 51 "CoracleMakersModel$State" "spawned" "I") (by decide +kernel)
  refine va_get (D := D) (ci := 4) (v := .int (U 0 3)) (C := RX4) (T := TX4) (N := 13) hx hb hts hin4 hown hK hP 0 (ap_l (wf_at (by decide) rfl)) rfl 3 (by decide) hf51 (fun _ h9 => h9) rfl dX4_become_26 ?_
  obtain ⟨X64, hX64⟩ : ∃ z, z = va_up X63 0 (upd (X63 0) 3 (U 0 3)) := ⟨_, rfl⟩
  refine va_put (D := D) (ci := 4) (v := .int (U 0 3)) (ty := .int) (C := RX4) (T := TX4) (N := 13) hx hb hts hin4 tyX4 tyX4_ok nmX4 hown hK hP (aD_D hD (show List.map Prod.fst (stW y bs o0 U ++ stW y ba o1 X63) = _ from by rw [List.map_append, st_fst y bs _ _, st_fst y ba _ _])) hS (9 + 0) (ap_r (wf_len 9 _ _) (wf_at (by decide) rfl)) rfl 3 (by decide) hf51 (fun _ h9 => h9) rfl (by decide +kernel) rfl rfl (Nat.le_of_ble_eq_true rfl) dX4_become_29 (fun H locs hP _ hS => ?_)
  have hP : va_P D vwCl (stW y bs o0 U ++ stW y ba o1 X64) H := (by rw [hX64]; exact P_eq (ap_set_r (wf_len 9 _ _) (st_set (k := 0) (upd (X63 0) 3 (U 0 3)) (by decide) rfl)) hP)
  refine lv_aload_n hx hb dX4_become_32 rfl (lv_at hl 1 rfl) ?_
  have hf19 := hts (.fieldLink RX4 19 "CoracleMakersModel$State" "salmon" "[I") (by decide +kernel)
  refine va_get (D := D) (ci := 4) (v := .ref (bs 1)) (C := RX4) (T := TX4) (N := 13) hx hb hts hin4 hown hK hP 0 (ap_l (wf_at (by decide) rfl)) rfl 4 (by decide) hf19 (fun _ h9 => h9) rfl dX4_become_33 ?_
  refine lv_iconst (v := 0) hx hb dX4_become_36 (by decide) ?_
  refine lv_aload_n hx hb dX4_become_37 rfl (lv_at hl 0 rfl) ?_
  refine va_get (D := D) (ci := 4) (v := .ref (ba 1)) (C := RX4) (T := TX4) (N := 13) hx hb hts hin4 hown hK hP (9 + 0) (ap_r (wf_len 9 _ _) (wf_at (by decide) rfl)) rfl 4 (by decide) hf19 (fun _ h9 => h9) rfl dX4_become_38 ?_
  refine lv_iconst (v := 0) hx hb dX4_become_41 (by decide) ?_
  refine lv_bipush (v := 16) hx hb dX4_become_42 (by decide) ?_
  refine va_copyi hx hb (hml.trans hl.1.symm) hown (hts (.methodLink RX4 54 arraycopyName) (by decide +kernel)) (hts (.native arraycopyName) (by decide +kernel)) (hts (.static arraycopyName) (by decide +kernel)) (hts (.initialized "java/lang/System") (by decide +kernel)) hK hP (aD_D hD (show List.map Prod.fst (stW y bs o0 U ++ stW y ba o1 X64) = _ from by rw [List.map_append, st_fst y bs _ _, st_fst y ba _ _])) hS 1 (9 + 1) 0 0 (ty := .int) (ap_l (wf_at (by decide) rfl)) (ap_r (wf_len 9 _ _) (wf_at (by decide) rfl)) rfl rfl rfl (by decide) (by decide) (by decide) (by decide) (by decide) (fun _ _ => rfl) (Nat.le_of_ble_eq_true rfl) (Nat.le_of_ble_eq_true rfl) dX4_become_44 (fun H locs hP _ hS => ?_)
  obtain ⟨X65, hX65⟩ : ∃ z, z = va_up X64 1 (va_cpy (U 1) (X64 1) 0 0 16) := ⟨_, rfl⟩
  have hP : va_P D vwCl (stW y bs o0 U ++ stW y ba o1 X65) H := (by rw [hX65]; exact P_eq (ap_set_r (wf_len 9 _ _) (st_set (k := 1) (va_cpy (U 1) (X64 1) 0 0 16) (by decide) rfl)) hP)
  refine lv_aload_n hx hb dX4_become_47 rfl (lv_at hl 1 rfl) ?_
  have hf23 := hts (.fieldLink RX4 23 "CoracleMakersModel$State" "at" "[I") (by decide +kernel)
  refine va_get (D := D) (ci := 4) (v := .ref (bs 2)) (C := RX4) (T := TX4) (N := 13) hx hb hts hin4 hown hK hP 0 (ap_l (wf_at (by decide) rfl)) rfl 5 (by decide) hf23 (fun _ h9 => h9) rfl dX4_become_48 ?_
  refine lv_iconst (v := 0) hx hb dX4_become_51 (by decide) ?_
  refine lv_aload_n hx hb dX4_become_52 rfl (lv_at hl 0 rfl) ?_
  refine va_get (D := D) (ci := 4) (v := .ref (ba 2)) (C := RX4) (T := TX4) (N := 13) hx hb hts hin4 hown hK hP (9 + 0) (ap_r (wf_len 9 _ _) (wf_at (by decide) rfl)) rfl 5 (by decide) hf23 (fun _ h9 => h9) rfl dX4_become_53 ?_
  refine lv_iconst (v := 0) hx hb dX4_become_56 (by decide) ?_
  refine lv_bipush (v := 6) hx hb dX4_become_57 (by decide) ?_
  refine va_copyi hx hb (hml.trans hl.1.symm) hown (hts (.methodLink RX4 54 arraycopyName) (by decide +kernel)) (hts (.native arraycopyName) (by decide +kernel)) (hts (.static arraycopyName) (by decide +kernel)) (hts (.initialized "java/lang/System") (by decide +kernel)) hK hP (aD_D hD (show List.map Prod.fst (stW y bs o0 U ++ stW y ba o1 X65) = _ from by rw [List.map_append, st_fst y bs _ _, st_fst y ba _ _])) hS 2 (9 + 2) 0 0 (ty := .int) (ap_l (wf_at (by decide) rfl)) (ap_r (wf_len 9 _ _) (wf_at (by decide) rfl)) rfl rfl rfl (by decide) (by decide) (by decide) (by decide) (by decide) (fun _ _ => rfl) (Nat.le_of_ble_eq_true rfl) (Nat.le_of_ble_eq_true rfl) dX4_become_59 (fun H locs hP _ hS => ?_)
  obtain ⟨X66, hX66⟩ : ∃ z, z = va_up X65 2 (va_cpy (U 2) (X65 2) 0 0 6) := ⟨_, rfl⟩
  have hP : va_P D vwCl (stW y bs o0 U ++ stW y ba o1 X66) H := (by rw [hX66]; exact P_eq (ap_set_r (wf_len 9 _ _) (st_set (k := 2) (va_cpy (U 2) (X65 2) 0 0 6) (by decide) rfl)) hP)
  refine lv_aload_n hx hb dX4_become_62 rfl (lv_at hl 1 rfl) ?_
  have hf26 := hts (.fieldLink RX4 26 "CoracleMakersModel$State" "goal" "[I") (by decide +kernel)
  refine va_get (D := D) (ci := 4) (v := .ref (bs 3)) (C := RX4) (T := TX4) (N := 13) hx hb hts hin4 hown hK hP 0 (ap_l (wf_at (by decide) rfl)) rfl 6 (by decide) hf26 (fun _ h9 => h9) rfl dX4_become_63 ?_
  refine lv_iconst (v := 0) hx hb dX4_become_66 (by decide) ?_
  refine lv_aload_n hx hb dX4_become_67 rfl (lv_at hl 0 rfl) ?_
  refine va_get (D := D) (ci := 4) (v := .ref (ba 3)) (C := RX4) (T := TX4) (N := 13) hx hb hts hin4 hown hK hP (9 + 0) (ap_r (wf_len 9 _ _) (wf_at (by decide) rfl)) rfl 6 (by decide) hf26 (fun _ h9 => h9) rfl dX4_become_68 ?_
  refine lv_iconst (v := 0) hx hb dX4_become_71 (by decide) ?_
  refine lv_bipush (v := 6) hx hb dX4_become_72 (by decide) ?_
  refine va_copyi hx hb (hml.trans hl.1.symm) hown (hts (.methodLink RX4 54 arraycopyName) (by decide +kernel)) (hts (.native arraycopyName) (by decide +kernel)) (hts (.static arraycopyName) (by decide +kernel)) (hts (.initialized "java/lang/System") (by decide +kernel)) hK hP (aD_D hD (show List.map Prod.fst (stW y bs o0 U ++ stW y ba o1 X66) = _ from by rw [List.map_append, st_fst y bs _ _, st_fst y ba _ _])) hS 3 (9 + 3) 0 0 (ty := .int) (ap_l (wf_at (by decide) rfl)) (ap_r (wf_len 9 _ _) (wf_at (by decide) rfl)) rfl rfl rfl (by decide) (by decide) (by decide) (by decide) (by decide) (fun _ _ => rfl) (Nat.le_of_ble_eq_true rfl) (Nat.le_of_ble_eq_true rfl) dX4_become_74 (fun H locs hP _ hS => ?_)
  obtain ⟨X67, hX67⟩ : ∃ z, z = va_up X66 3 (va_cpy (U 3) (X66 3) 0 0 6) := ⟨_, rfl⟩
  have hP : va_P D vwCl (stW y bs o0 U ++ stW y ba o1 X67) H := (by rw [hX67]; exact P_eq (ap_set_r (wf_len 9 _ _) (st_set (k := 3) (va_cpy (U 3) (X66 3) 0 0 6) (by decide) rfl)) hP)
  refine lv_aload_n hx hb dX4_become_77 rfl (lv_at hl 1 rfl) ?_
  have hf29 := hts (.fieldLink RX4 29 "CoracleMakersModel$State" "tar" "[I") (by decide +kernel)
  refine va_get (D := D) (ci := 4) (v := .ref (bs 4)) (C := RX4) (T := TX4) (N := 13) hx hb hts hin4 hown hK hP 0 (ap_l (wf_at (by decide) rfl)) rfl 7 (by decide) hf29 (fun _ h9 => h9) rfl dX4_become_78 ?_
  refine lv_iconst (v := 0) hx hb dX4_become_81 (by decide) ?_
  refine lv_aload_n hx hb dX4_become_82 rfl (lv_at hl 0 rfl) ?_
  refine va_get (D := D) (ci := 4) (v := .ref (ba 4)) (C := RX4) (T := TX4) (N := 13) hx hb hts hin4 hown hK hP (9 + 0) (ap_r (wf_len 9 _ _) (wf_at (by decide) rfl)) rfl 7 (by decide) hf29 (fun _ h9 => h9) rfl dX4_become_83 ?_
  refine lv_iconst (v := 0) hx hb dX4_become_86 (by decide) ?_
  refine lv_bipush (v := 6) hx hb dX4_become_87 (by decide) ?_
  refine va_copyi hx hb (hml.trans hl.1.symm) hown (hts (.methodLink RX4 54 arraycopyName) (by decide +kernel)) (hts (.native arraycopyName) (by decide +kernel)) (hts (.static arraycopyName) (by decide +kernel)) (hts (.initialized "java/lang/System") (by decide +kernel)) hK hP (aD_D hD (show List.map Prod.fst (stW y bs o0 U ++ stW y ba o1 X67) = _ from by rw [List.map_append, st_fst y bs _ _, st_fst y ba _ _])) hS 4 (9 + 4) 0 0 (ty := .int) (ap_l (wf_at (by decide) rfl)) (ap_r (wf_len 9 _ _) (wf_at (by decide) rfl)) rfl rfl rfl (by decide) (by decide) (by decide) (by decide) (by decide) (fun _ _ => rfl) (Nat.le_of_ble_eq_true rfl) (Nat.le_of_ble_eq_true rfl) dX4_become_89 (fun H locs hP _ hS => ?_)
  obtain ⟨X68, hX68⟩ : ∃ z, z = va_up X67 4 (va_cpy (U 4) (X67 4) 0 0 6) := ⟨_, rfl⟩
  have hP : va_P D vwCl (stW y bs o0 U ++ stW y ba o1 X68) H := (by rw [hX68]; exact P_eq (ap_set_r (wf_len 9 _ _) (st_set (k := 4) (va_cpy (U 4) (X67 4) 0 0 6) (by decide) rfl)) hP)
  refine lv_aload_n hx hb dX4_become_92 rfl (lv_at hl 1 rfl) ?_
  have hf32 := hts (.fieldLink RX4 32 "CoracleMakersModel$State" "water" "[I") (by decide +kernel)
  refine va_get (D := D) (ci := 4) (v := .ref (bs 5)) (C := RX4) (T := TX4) (N := 13) hx hb hts hin4 hown hK hP 0 (ap_l (wf_at (by decide) rfl)) rfl 8 (by decide) hf32 (fun _ h9 => h9) rfl dX4_become_93 ?_
  refine lv_iconst (v := 0) hx hb dX4_become_96 (by decide) ?_
  refine lv_aload_n hx hb dX4_become_97 rfl (lv_at hl 0 rfl) ?_
  refine va_get (D := D) (ci := 4) (v := .ref (ba 5)) (C := RX4) (T := TX4) (N := 13) hx hb hts hin4 hown hK hP (9 + 0) (ap_r (wf_len 9 _ _) (wf_at (by decide) rfl)) rfl 8 (by decide) hf32 (fun _ h9 => h9) rfl dX4_become_98 ?_
  refine lv_iconst (v := 0) hx hb dX4_become_101 (by decide) ?_
  refine lv_bipush (v := 6) hx hb dX4_become_102 (by decide) ?_
  refine va_copyi hx hb (hml.trans hl.1.symm) hown (hts (.methodLink RX4 54 arraycopyName) (by decide +kernel)) (hts (.native arraycopyName) (by decide +kernel)) (hts (.static arraycopyName) (by decide +kernel)) (hts (.initialized "java/lang/System") (by decide +kernel)) hK hP (aD_D hD (show List.map Prod.fst (stW y bs o0 U ++ stW y ba o1 X68) = _ from by rw [List.map_append, st_fst y bs _ _, st_fst y ba _ _])) hS 5 (9 + 5) 0 0 (ty := .int) (ap_l (wf_at (by decide) rfl)) (ap_r (wf_len 9 _ _) (wf_at (by decide) rfl)) rfl rfl rfl (by decide) (by decide) (by decide) (by decide) (by decide) (fun _ _ => rfl) (Nat.le_of_ble_eq_true rfl) (Nat.le_of_ble_eq_true rfl) dX4_become_104 (fun H locs hP _ hS => ?_)
  obtain ⟨X69, hX69⟩ : ∃ z, z = va_up X68 5 (va_cpy (U 5) (X68 5) 0 0 6) := ⟨_, rfl⟩
  have hP : va_P D vwCl (stW y bs o0 U ++ stW y ba o1 X69) H := (by rw [hX69]; exact P_eq (ap_set_r (wf_len 9 _ _) (st_set (k := 5) (va_cpy (U 5) (X68 5) 0 0 6) (by decide) rfl)) hP)
  refine lv_aload_n hx hb dX4_become_107 rfl (lv_at hl 1 rfl) ?_
  have hf35 := hts (.fieldLink RX4 35 "CoracleMakersModel$State" "load" "[I") (by decide +kernel)
  refine va_get (D := D) (ci := 4) (v := .ref (bs 6)) (C := RX4) (T := TX4) (N := 13) hx hb hts hin4 hown hK hP 0 (ap_l (wf_at (by decide) rfl)) rfl 9 (by decide) hf35 (fun _ h9 => h9) rfl dX4_become_108 ?_
  refine lv_iconst (v := 0) hx hb dX4_become_111 (by decide) ?_
  refine lv_aload_n hx hb dX4_become_112 rfl (lv_at hl 0 rfl) ?_
  refine va_get (D := D) (ci := 4) (v := .ref (ba 6)) (C := RX4) (T := TX4) (N := 13) hx hb hts hin4 hown hK hP (9 + 0) (ap_r (wf_len 9 _ _) (wf_at (by decide) rfl)) rfl 9 (by decide) hf35 (fun _ h9 => h9) rfl dX4_become_113 ?_
  refine lv_iconst (v := 0) hx hb dX4_become_116 (by decide) ?_
  refine lv_bipush (v := 6) hx hb dX4_become_117 (by decide) ?_
  refine va_copyi hx hb (hml.trans hl.1.symm) hown (hts (.methodLink RX4 54 arraycopyName) (by decide +kernel)) (hts (.native arraycopyName) (by decide +kernel)) (hts (.static arraycopyName) (by decide +kernel)) (hts (.initialized "java/lang/System") (by decide +kernel)) hK hP (aD_D hD (show List.map Prod.fst (stW y bs o0 U ++ stW y ba o1 X69) = _ from by rw [List.map_append, st_fst y bs _ _, st_fst y ba _ _])) hS 6 (9 + 6) 0 0 (ty := .int) (ap_l (wf_at (by decide) rfl)) (ap_r (wf_len 9 _ _) (wf_at (by decide) rfl)) rfl rfl rfl (by decide) (by decide) (by decide) (by decide) (by decide) (fun _ _ => rfl) (Nat.le_of_ble_eq_true rfl) (Nat.le_of_ble_eq_true rfl) dX4_become_119 (fun H locs hP _ hS => ?_)
  obtain ⟨X70, hX70⟩ : ∃ z, z = va_up X69 6 (va_cpy (U 6) (X69 6) 0 0 6) := ⟨_, rfl⟩
  have hP : va_P D vwCl (stW y bs o0 U ++ stW y ba o1 X70) H := (by rw [hX70]; exact P_eq (ap_set_r (wf_len 9 _ _) (st_set (k := 6) (va_cpy (U 6) (X69 6) 0 0 6) (by decide) rfl)) hP)
  refine lv_aload_n hx hb dX4_become_122 rfl (lv_at hl 1 rfl) ?_
  have hf38 := hts (.fieldLink RX4 38 "CoracleMakersModel$State" "hasSunk" "[Z") (by decide +kernel)
  refine va_get (D := D) (ci := 4) (v := .ref (bs 7)) (C := RX4) (T := TX4) (N := 13) hx hb hts hin4 hown hK hP 0 (ap_l (wf_at (by decide) rfl)) rfl 10 (by decide) hf38 (fun _ h9 => h9) rfl dX4_become_123 ?_
  refine lv_iconst (v := 0) hx hb dX4_become_126 (by decide) ?_
  refine lv_aload_n hx hb dX4_become_127 rfl (lv_at hl 0 rfl) ?_
  refine va_get (D := D) (ci := 4) (v := .ref (ba 7)) (C := RX4) (T := TX4) (N := 13) hx hb hts hin4 hown hK hP (9 + 0) (ap_r (wf_len 9 _ _) (wf_at (by decide) rfl)) rfl 10 (by decide) hf38 (fun _ h9 => h9) rfl dX4_become_128 ?_
  refine lv_iconst (v := 0) hx hb dX4_become_131 (by decide) ?_
  refine lv_bipush (v := 6) hx hb dX4_become_132 (by decide) ?_
  refine va_copyi hx hb (hml.trans hl.1.symm) hown (hts (.methodLink RX4 54 arraycopyName) (by decide +kernel)) (hts (.native arraycopyName) (by decide +kernel)) (hts (.static arraycopyName) (by decide +kernel)) (hts (.initialized "java/lang/System") (by decide +kernel)) hK hP (aD_D hD (show List.map Prod.fst (stW y bs o0 U ++ stW y ba o1 X70) = _ from by rw [List.map_append, st_fst y bs _ _, st_fst y ba _ _])) hS 7 (9 + 7) 1 1 (ty := .boolean) (ap_l (wf_at (by decide) rfl)) (ap_r (wf_len 9 _ _) (wf_at (by decide) rfl)) rfl rfl rfl (by decide) (by decide) (by decide) (by decide) (by decide) (fun i hi => fb_z (hB9 _ (show 0 + i < 6 from (Nat.zero_add i).symm ▸ hi))) (Nat.le_of_ble_eq_true rfl) (Nat.le_of_ble_eq_true rfl) dX4_become_134 (fun H locs hP _ hS => ?_)
  obtain ⟨X71, hX71⟩ : ∃ z, z = va_up X70 7 (va_cpy (U 7) (X70 7) 0 0 6) := ⟨_, rfl⟩
  have hP : va_P D vwCl (stW y bs o0 U ++ stW y ba o1 X71) H := (by rw [hX71]; exact P_eq (ap_set_r (wf_len 9 _ _) (st_set (k := 7) (va_cpy (U 7) (X70 7) 0 0 6) (by decide) rfl)) hP)
  refine lv_aload_n hx hb dX4_become_137 rfl (lv_at hl 1 rfl) ?_
  have hf42 := hts (.fieldLink RX4 42 "CoracleMakersModel$State" "caught" "[I") (by decide +kernel)
  refine va_get (D := D) (ci := 4) (v := .ref (bs 8)) (C := RX4) (T := TX4) (N := 13) hx hb hts hin4 hown hK hP 0 (ap_l (wf_at (by decide) rfl)) rfl 11 (by decide) hf42 (fun _ h9 => h9) rfl dX4_become_138 ?_
  refine lv_iconst (v := 0) hx hb dX4_become_141 (by decide) ?_
  refine lv_aload_n hx hb dX4_become_142 rfl (lv_at hl 0 rfl) ?_
  refine va_get (D := D) (ci := 4) (v := .ref (ba 8)) (C := RX4) (T := TX4) (N := 13) hx hb hts hin4 hown hK hP (9 + 0) (ap_r (wf_len 9 _ _) (wf_at (by decide) rfl)) rfl 11 (by decide) hf42 (fun _ h9 => h9) rfl dX4_become_143 ?_
  refine lv_iconst (v := 0) hx hb dX4_become_146 (by decide) ?_
  refine lv_iconst (v := 3) hx hb dX4_become_147 (by decide) ?_
  refine va_copyi hx hb (hml.trans hl.1.symm) hown (hts (.methodLink RX4 54 arraycopyName) (by decide +kernel)) (hts (.native arraycopyName) (by decide +kernel)) (hts (.static arraycopyName) (by decide +kernel)) (hts (.initialized "java/lang/System") (by decide +kernel)) hK hP (aD_D hD (show List.map Prod.fst (stW y bs o0 U ++ stW y ba o1 X71) = _ from by rw [List.map_append, st_fst y bs _ _, st_fst y ba _ _])) hS 8 (9 + 8) 0 0 (ty := .int) (ap_l (wf_at (by decide) rfl)) (ap_r (wf_len 9 _ _) (wf_at (by decide) rfl)) rfl rfl rfl (by decide) (by decide) (by decide) (by decide) (by decide) (fun _ _ => rfl) (Nat.le_of_ble_eq_true rfl) (Nat.le_of_ble_eq_true rfl) dX4_become_148 (fun H locs hP _ hS => ?_)
  obtain ⟨X72, hX72⟩ : ∃ z, z = va_up X71 8 (va_cpy (U 8) (X71 8) 0 0 3) := ⟨_, rfl⟩
  have hP : va_P D vwCl (stW y bs o0 U ++ stW y ba o1 X72) H := (by rw [hX72]; exact P_eq (ap_set_r (wf_len 9 _ _) (st_set (k := 8) (va_cpy (U 8) (X71 8) 0 0 3) (by decide) rfl)) hP)
  have hP : va_P D vwCl (stW y bs o0 U ++ stW y ba o1 U) H := st_congR (by subst hX72 hX71 hX70 hX69 hX68 hX67 hX66 hX65 hX64 hX63 hX62 hX61; exact sb_end X U X) hP
  subst hQ
  exact W.vret hx hb hr (fun t ht hW => ⟨⟨(), rfl, trivial, bp_at hK hN hP t ht hW⟩, hS.F ht⟩) hS.2.2 dX4_become_151
