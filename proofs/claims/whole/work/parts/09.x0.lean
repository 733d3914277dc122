/-! ===== Coracle ===== -/
theorem upd_upd (w : Nat → Int32) (k : Nat) (x z : Int32) : upd (upd w k x) k z = upd w k z := by
  funext j; unfold upd; by_cases h : j = k <;> simp [h]
abbrev coW (h0 : Nat) (w : Nat → Int32) : va_W := [(h0, coE w)]
abbrev neW (h0 : Nat) (w : Nat → Int32) : va_W := [(h0, neE w)]
/-- isAfloatAt -/
def atF (w : Nat → Int32) (x : Int32) : Int32 := if w 8 = 0 then 0 else if w 3 = x then 1 else 0
/-- move: by the drift, then towards the goal -/
def mvR (w : Nat → Int32) (d : Int32) : Int32 := mn 15 (w 3 + d)
def mvF (w : Nat → Int32) (d : Int32) : Nat → Int32 := upd w 3 (if w 4 ≤ mvR w d then mx (w 4) (mvR w d - w 2) else mn (w 4) (mvR w d + w 2))
/-- leak, by the tar as it is then -/
def lkF (w : Nat → Int32) : Int32 := if w 1 = 0 then (if w 5 = 0 then 1 else 0) else if w 1 = 1 then (if 8 ≤ w 5 then 0 else 1) else if w 5 = 0 then 3 else if 8 ≤ w 5 then 0 else 2
/-- wear: the tar, then the water -/
def wrA (w : Nat → Int32) : Nat → Int32 := upd w 5 (mx 0 (w 5 - 1))
def wrB (w : Nat → Int32) : Nat → Int32 := upd (wrA w) 6 (w 6 + lkF (wrA w))
def wrF (w : Nat → Int32) : Nat → Int32 := if wrB w 6 < 2 * w 0 then wrB w else upd (upd (wrB w) 8 0) 7 0
/-- tell -/
def tlF (w : Nat → Int32) (x : Int32) : Int32 := if x = 0 then w 0 else if x = 1 then w 1 else if x = 2 then w 2 else if x = 3 then w 3 else if x = 4 then w 4 else if x = 5 then w 5 else if x = 6 then w 6 else if x = 7 then w 7 else if x = 8 then (if w 8 = 0 then 0 else 1) else w 9
/-- becomeNew, becomeLike -/
def bnF (w : Nat → Int32) (a b c : Int32) : Nat → Int32 := upd (upd (upd (upd (upd w 0 a) 1 b) 2 c) 5 30) 8 1
abbrev rmX0_room : Room := { frames := 0, cells := 0, slots := 0, locals := 0 }
set_option maxHeartbeats 4000000 in
set_option maxRecDepth 100000 in
/-- room() -/
theorem c_X0_room (l : Launch) (D : va_G) (y : Nat → ClassId) (h0 : Nat) (w : Nat → Int32) : RdI l D y yX0_room wsX0_room rmX0_room [.ref h0] (coW h0 w) (w 0 - w 7) := by
  refine mR (C := RX0) (cc := cX0_room) (maxL := 1) (ret := (some .int)) (by decide) rfl rfl (Nat.le_of_ble_eq_true rfl) ?_
  intro p e s m a below meth c ls Q hQ hx hb hr hts hown hlocks hml hP hK hN hl
  have hl : lv_has ls 1 [(0, .ref h0)] := hl
  refine lv_aload_n hx hb dX0_room_0 rfl (lv_at hl 0 rfl) ?_
  have hin0 : ∀ w ∈ u_ws RX0 TX0 10, w ∈ wsX0_room := by decide +kernel
  have hf15 := hts (.fieldLink RX0 15 "CoracleMakers$Coracle" "laths" "I") (by decide +kernel)
  refine va_get (D := D) (ci := 0) (v := .int (w 0)) (C := RX0) (T := TX0) (N := 10) hx hb hts hin0 hown hK hP 0 rfl rfl 0 (by decide) hf15 (fun _ h9 => h9) rfl dX0_room_1 ?_
  refine lv_aload_n hx hb dX0_room_4 rfl (lv_at hl 0 rfl) ?_
  have hf40 := hts (.fieldLink RX0 40 "CoracleMakers$Coracle" "load" "I") (by decide +kernel)
  refine va_get (D := D) (ci := 0) (v := .int (w 7)) (C := RX0) (T := TX0) (N := 10) hx hb hts hin0 hown hK hP 0 rfl rfl 7 (by decide) hf40 (fun _ h9 => h9) rfl dX0_room_5 ?_
  refine lv_isub hx hb dX0_room_8 ?_
  subst hQ
  exact W.iret (v := (w 0) - (w 7)) hx hb hr (fun t ht hW => ⟨_, rfl, rfl, ht⟩) (fun _ h => by cases h) dX0_room_9
abbrev rmX0_isAfloatAt : Room := { frames := 0, cells := 0, slots := 0, locals := 0 }
set_option maxHeartbeats 4000000 in
set_option maxRecDepth 100000 in
/-- isAfloatAt(x) -/
theorem c_X0_isAfloatAt (l : Launch) (D : va_G) (y : Nat → ClassId) (h0 : Nat) (w : Nat → Int32) (x : Int32) : RdI l D y yX0_isAfloatAt wsX0_isAfloatAt rmX0_isAfloatAt [.ref h0, .int x] (coW h0 w) (atF w x) := by
  refine mR (C := RX0) (cc := cX0_isAfloatAt) (maxL := 2) (ret := (some .boolean)) (by decide) rfl rfl (Nat.le_of_ble_eq_true rfl) ?_
  intro p e s m a below meth c ls Q hQ hx hb hr hts hown hlocks hml hP hK hN hl
  have hl : lv_has ls 2 [(0, .ref h0), (1, .int x)] := hl
  refine lv_aload_n hx hb dX0_isAfloatAt_0 rfl (lv_at hl 0 rfl) ?_
  have hin0 : ∀ w ∈ u_ws RX0 TX0 10, w ∈ wsX0_isAfloatAt := by decide +kernel
  have hf27 := hts (.fieldLink RX0 27 "CoracleMakers$Coracle" "afloat" "Z") (by decide +kernel)
  refine va_get (D := D) (ci := 0) (v := .int (w 8)) (C := RX0) (T := TX0) (N := 10) hx hb hts hin0 hown hK hP 0 rfl rfl 8 (by decide) hf27 (fun _ h9 => h9) rfl dX0_isAfloatAt_1 ?_
  refine lv_if_eq (tgt := 19) hx hb dX0_isAfloatAt_4 (by decide) (fun c_1 => ?_) (fun c_1 => ?_)
  · refine lv_iconst (v := 0) hx hb dX0_isAfloatAt_19 (by decide) ?_
    subst hQ
    exact W.zret (v := 0) hx hb hr rfl (fun t ht hW => ⟨_, rfl, (by simp [atF, c_1]), ht⟩) (fun _ h => by cases h) dX0_isAfloatAt_20
  · refine lv_aload_n hx hb dX0_isAfloatAt_7 rfl (lv_at hl 0 rfl) ?_
    have hf31 := hts (.fieldLink RX0 31 "CoracleMakers$Coracle" "reach" "I") (by decide +kernel)
    refine va_get (D := D) (ci := 0) (v := .int (w 3)) (C := RX0) (T := TX0) (N := 10) hx hb hts hin0 hown hK hP 0 rfl rfl 3 (by decide) hf31 (fun _ h9 => h9) rfl dX0_isAfloatAt_8 ?_
    refine lv_iload_n hx hb dX0_isAfloatAt_11 rfl (lv_at hl 1 rfl) ?_
    refine lv_icmp_ne (tgt := 19) hx hb dX0_isAfloatAt_12 (by decide) (fun c_2 => ?_) (fun c_2 => ?_)
    · refine lv_iconst (v := 0) hx hb dX0_isAfloatAt_19 (by decide) ?_
      subst hQ
      exact W.zret (v := 0) hx hb hr rfl (fun t ht hW => ⟨_, rfl, (by simp [atF, c_1, c_2]), ht⟩) (fun _ h => by cases h) dX0_isAfloatAt_20
    · refine lv_iconst (v := 1) hx hb dX0_isAfloatAt_15 (by decide) ?_
      refine lv_goto (tgt := 20) hx hb dX0_isAfloatAt_16 (by decide) ?_
      subst hQ
      exact W.zret (v := 1) hx hb hr rfl (fun t ht hW => ⟨_, rfl, (by simp [atF, c_1, c_2]), ht⟩) (fun _ h => by cases h) dX0_isAfloatAt_20
abbrev rmX0_leak : Room := { frames := 0, cells := 0, slots := 0, locals := 0 }
set_option maxHeartbeats 4000000 in
set_option maxRecDepth 100000 in
/-- leak() -/
theorem c_X0_leak (l : Launch) (D : va_G) (y : Nat → ClassId) (h0 : Nat) (w : Nat → Int32) : RdI l D y yX0_leak wsX0_leak rmX0_leak [.ref h0] (coW h0 w) (lkF w) := by
  refine mR (C := RX0) (cc := cX0_leak) (maxL := 1) (ret := (some .int)) (by decide) rfl rfl (Nat.le_of_ble_eq_true rfl) ?_
  intro p e s m a below meth c ls Q hQ hx hb hr hts hown hlocks hml hP hK hN hl
  have hl : lv_has ls 1 [(0, .ref h0)] := hl
  refine lv_aload_n hx hb dX0_leak_0 rfl (lv_at hl 0 rfl) ?_
  have hin0 : ∀ w ∈ u_ws RX0 TX0 10, w ∈ wsX0_leak := by decide +kernel
  have hf18 := hts (.fieldLink RX0 18 "CoracleMakers$Coracle" "hide" "I") (by decide +kernel)
  refine va_get (D := D) (ci := 0) (v := .int (w 1)) (C := RX0) (T := TX0) (N := 10) hx hb hts hin0 hown hK hP 0 rfl rfl 1 (by decide) hf18 (fun _ h9 => h9) rfl dX0_leak_1 ?_
  refine lv_if_ne (tgt := 20) hx hb dX0_leak_4 (by decide) (fun c_3 => ?_) (fun c_3 => ?_)
  · refine lv_aload_n hx hb dX0_leak_20 rfl (lv_at hl 0 rfl) ?_
    refine va_get (D := D) (ci := 0) (v := .int (w 1)) (C := RX0) (T := TX0) (N := 10) hx hb hts hin0 hown hK hP 0 rfl rfl 1 (by decide) hf18 (fun _ h9 => h9) rfl dX0_leak_21 ?_
    refine lv_iconst (v := 1) hx hb dX0_leak_24 (by decide) ?_
    refine lv_icmp_ne (tgt := 43) hx hb dX0_leak_25 (by decide) (fun c_4 => ?_) (fun c_4 => ?_)
    · refine lv_aload_n hx hb dX0_leak_43 rfl (lv_at hl 0 rfl) ?_
      have hf24 := hts (.fieldLink RX0 24 "CoracleMakers$Coracle" "tar" "I") (by decide +kernel)
      refine va_get (D := D) (ci := 0) (v := .int (w 5)) (C := RX0) (T := TX0) (N := 10) hx hb hts hin0 hown hK hP 0 rfl rfl 5 (by decide) hf24 (fun _ h9 => h9) rfl dX0_leak_44 ?_
      refine lv_if_ne (tgt := 52) hx hb dX0_leak_47 (by decide) (fun c_5 => ?_) (fun c_5 => ?_)
      · refine lv_aload_n hx hb dX0_leak_52 rfl (lv_at hl 0 rfl) ?_
        refine va_get (D := D) (ci := 0) (v := .int (w 5)) (C := RX0) (T := TX0) (N := 10) hx hb hts hin0 hown hK hP 0 rfl rfl 5 (by decide) hf24 (fun _ h9 => h9) rfl dX0_leak_53 ?_
        refine lv_bipush (v := 8) hx hb dX0_leak_56 (by decide) ?_
        refine lv_icmp_ge (tgt := 65) hx hb dX0_leak_58 (by decide) (fun c_6 => ?_) (fun c_6 => ?_)
        · refine lv_iconst (v := 0) hx hb dX0_leak_65 (by decide) ?_
          subst hQ
          exact W.iret (v := 0) hx hb hr (fun t ht hW => ⟨_, rfl, (by simp [lkF, c_3, c_4, c_5, c_6]), ht⟩) (fun _ h => by cases h) dX0_leak_66
        · refine lv_iconst (v := 2) hx hb dX0_leak_61 (by decide) ?_
          refine lv_goto (tgt := 66) hx hb dX0_leak_62 (by decide) ?_
          subst hQ
          exact W.iret (v := 2) hx hb hr (fun t ht hW => ⟨_, rfl, (by simp [lkF, c_3, c_4, c_5, c_6]), ht⟩) (fun _ h => by cases h) dX0_leak_66
      · refine lv_iconst (v := 3) hx hb dX0_leak_50 (by decide) ?_
        subst hQ
        exact W.iret (v := 3) hx hb hr (fun t ht hW => ⟨_, rfl, (by simp [lkF, c_3, c_4, c_5]), ht⟩) (fun _ h => by cases h) dX0_leak_51
    · refine lv_aload_n hx hb dX0_leak_28 rfl (lv_at hl 0 rfl) ?_
      have hf24 := hts (.fieldLink RX0 24 "CoracleMakers$Coracle" "tar" "I") (by decide +kernel)
      refine va_get (D := D) (ci := 0) (v := .int (w 5)) (C := RX0) (T := TX0) (N := 10) hx hb hts hin0 hown hK hP 0 rfl rfl 5 (by decide) hf24 (fun _ h9 => h9) rfl dX0_leak_29 ?_
      refine lv_bipush (v := 8) hx hb dX0_leak_32 (by decide) ?_
      refine lv_icmp_ge (tgt := 41) hx hb dX0_leak_34 (by decide) (fun c_7 => ?_) (fun c_7 => ?_)
      · refine lv_iconst (v := 0) hx hb dX0_leak_41 (by decide) ?_
        subst hQ
        exact W.iret (v := 0) hx hb hr (fun t ht hW => ⟨_, rfl, (by simp [lkF, c_3, c_4, c_7]), ht⟩) (fun _ h => by cases h) dX0_leak_42
      · refine lv_iconst (v := 1) hx hb dX0_leak_37 (by decide) ?_
        refine lv_goto (tgt := 42) hx hb dX0_leak_38 (by decide) ?_
        subst hQ
        exact W.iret (v := 1) hx hb hr (fun t ht hW => ⟨_, rfl, (by simp [lkF, c_3, c_4, c_7]), ht⟩) (fun _ h => by cases h) dX0_leak_42
  · refine lv_aload_n hx hb dX0_leak_7 rfl (lv_at hl 0 rfl) ?_
    have hf24 := hts (.fieldLink RX0 24 "CoracleMakers$Coracle" "tar" "I") (by decide +kernel)
    refine va_get (D := D) (ci := 0) (v := .int (w 5)) (C := RX0) (T := TX0) (N := 10) hx hb hts hin0 hown hK hP 0 rfl rfl 5 (by decide) hf24 (fun _ h9 => h9) rfl dX0_leak_8 ?_
    refine lv_if_ne (tgt := 18) hx hb dX0_leak_11 (by decide) (fun c_8 => ?_) (fun c_8 => ?_)
    · refine lv_iconst (v := 0) hx hb dX0_leak_18 (by decide) ?_
      subst hQ
      exact W.iret (v := 0) hx hb hr (fun t ht hW => ⟨_, rfl, (by simp [lkF, c_3, c_8]), ht⟩) (fun _ h => by cases h) dX0_leak_19
    · refine lv_iconst (v := 1) hx hb dX0_leak_14 (by decide) ?_
      refine lv_goto (tgt := 19) hx hb dX0_leak_15 (by decide) ?_
      subst hQ
      exact W.iret (v := 1) hx hb hr (fun t ht hW => ⟨_, rfl, (by simp [lkF, c_3, c_8]), ht⟩) (fun _ h => by cases h) dX0_leak_19
abbrev rmX0_tell : Room := { frames := 0, cells := 0, slots := 0, locals := 0 }
set_option maxHeartbeats 4000000 in
set_option maxRecDepth 100000 in
/-- tell(x) -/
theorem c_X0_tell (l : Launch) (D : va_G) (y : Nat → ClassId) (h0 : Nat) (w : Nat → Int32) (x : Int32) : RdI l D y yX0_tell wsX0_tell rmX0_tell [.ref h0, .int x] (coW h0 w) (tlF w x) := by
  refine mR (C := RX0) (cc := cX0_tell) (maxL := 2) (ret := (some .int)) (by decide) rfl rfl (Nat.le_of_ble_eq_true rfl) ?_
  intro p e s m a below meth c ls Q hQ hx hb hr hts hown hlocks hml hP hK hN hl
  have hl : lv_has ls 2 [(0, .ref h0), (1, .int x)] := hl
  refine lv_iload_n hx hb dX0_tell_0 rfl (lv_at hl 1 rfl) ?_
  by_cases c0 : x = 0
  · refine lv_tableIn (tgt := 52) hx hb dX0_tell_1 (by rw [c0]; decide) (by rw [c0]; decide) (by rw [c0]; rfl) (by decide) ?_
    refine lv_aload_n hx hb dX0_tell_52 rfl (lv_at hl 0 rfl) ?_
    have hin0 : ∀ w ∈ u_ws RX0 TX0 10, w ∈ wsX0_tell := by decide +kernel
    have hf15 := hts (.fieldLink RX0 15 "CoracleMakers$Coracle" "laths" "I") (by decide +kernel)
    refine va_get (D := D) (ci := 0) (v := .int (w 0)) (C := RX0) (T := TX0) (N := 10) hx hb hts hin0 hown hK hP 0 rfl rfl 0 (by decide) hf15 (fun _ h9 => h9) rfl dX0_tell_53 ?_
    subst hQ
    exact W.iret (v := w 0) hx hb hr (fun t ht hW => ⟨_, rfl, (by simp [tlF, c0]), ht⟩) (fun _ h => by cases h) dX0_tell_56
  by_cases c1 : x = 1
  · refine lv_tableIn (tgt := 57) hx hb dX0_tell_1 (by rw [c1]; decide) (by rw [c1]; decide) (by rw [c1]; rfl) (by decide) ?_
    refine lv_aload_n hx hb dX0_tell_57 rfl (lv_at hl 0 rfl) ?_
    have hin0 : ∀ w ∈ u_ws RX0 TX0 10, w ∈ wsX0_tell := by decide +kernel
    have hf18 := hts (.fieldLink RX0 18 "CoracleMakers$Coracle" "hide" "I") (by decide +kernel)
    refine va_get (D := D) (ci := 0) (v := .int (w 1)) (C := RX0) (T := TX0) (N := 10) hx hb hts hin0 hown hK hP 0 rfl rfl 1 (by decide) hf18 (fun _ h9 => h9) rfl dX0_tell_58 ?_
    subst hQ
    exact W.iret (v := w 1) hx hb hr (fun t ht hW => ⟨_, rfl, (by simp [tlF, c0, c1]), ht⟩) (fun _ h => by cases h) dX0_tell_61
  by_cases c2 : x = 2
  · refine lv_tableIn (tgt := 62) hx hb dX0_tell_1 (by rw [c2]; decide) (by rw [c2]; decide) (by rw [c2]; rfl) (by decide) ?_
    refine lv_aload_n hx hb dX0_tell_62 rfl (lv_at hl 0 rfl) ?_
    have hin0 : ∀ w ∈ u_ws RX0 TX0 10, w ∈ wsX0_tell := by decide +kernel
    have hf21 := hts (.fieldLink RX0 21 "CoracleMakers$Coracle" "skill" "I") (by decide +kernel)
    refine va_get (D := D) (ci := 0) (v := .int (w 2)) (C := RX0) (T := TX0) (N := 10) hx hb hts hin0 hown hK hP 0 rfl rfl 2 (by decide) hf21 (fun _ h9 => h9) rfl dX0_tell_63 ?_
    subst hQ
    exact W.iret (v := w 2) hx hb hr (fun t ht hW => ⟨_, rfl, (by simp [tlF, c0, c1, c2]), ht⟩) (fun _ h => by cases h) dX0_tell_66
  by_cases c3 : x = 3
  · refine lv_tableIn (tgt := 67) hx hb dX0_tell_1 (by rw [c3]; decide) (by rw [c3]; decide) (by rw [c3]; rfl) (by decide) ?_
    refine lv_aload_n hx hb dX0_tell_67 rfl (lv_at hl 0 rfl) ?_
    have hin0 : ∀ w ∈ u_ws RX0 TX0 10, w ∈ wsX0_tell := by decide +kernel
    have hf31 := hts (.fieldLink RX0 31 "CoracleMakers$Coracle" "reach" "I") (by decide +kernel)
    refine va_get (D := D) (ci := 0) (v := .int (w 3)) (C := RX0) (T := TX0) (N := 10) hx hb hts hin0 hown hK hP 0 rfl rfl 3 (by decide) hf31 (fun _ h9 => h9) rfl dX0_tell_68 ?_
    subst hQ
    exact W.iret (v := w 3) hx hb hr (fun t ht hW => ⟨_, rfl, (by simp [tlF, c0, c1, c2, c3]), ht⟩) (fun _ h => by cases h) dX0_tell_71
  by_cases c4 : x = 4
  · refine lv_tableIn (tgt := 72) hx hb dX0_tell_1 (by rw [c4]; decide) (by rw [c4]; decide) (by rw [c4]; rfl) (by decide) ?_
    refine lv_aload_n hx hb dX0_tell_72 rfl (lv_at hl 0 rfl) ?_
    have hin0 : ∀ w ∈ u_ws RX0 TX0 10, w ∈ wsX0_tell := by decide +kernel
    have hf34 := hts (.fieldLink RX0 34 "CoracleMakers$Coracle" "goal" "I") (by decide +kernel)
    refine va_get (D := D) (ci := 0) (v := .int (w 4)) (C := RX0) (T := TX0) (N := 10) hx hb hts hin0 hown hK hP 0 rfl rfl 4 (by decide) hf34 (fun _ h9 => h9) rfl dX0_tell_73 ?_
    subst hQ
    exact W.iret (v := w 4) hx hb hr (fun t ht hW => ⟨_, rfl, (by simp [tlF, c0, c1, c2, c3, c4]), ht⟩) (fun _ h => by cases h) dX0_tell_76
  by_cases c5 : x = 5
  · refine lv_tableIn (tgt := 77) hx hb dX0_tell_1 (by rw [c5]; decide) (by rw [c5]; decide) (by rw [c5]; rfl) (by decide) ?_
    refine lv_aload_n hx hb dX0_tell_77 rfl (lv_at hl 0 rfl) ?_
    have hin0 : ∀ w ∈ u_ws RX0 TX0 10, w ∈ wsX0_tell := by decide +kernel
    have hf24 := hts (.fieldLink RX0 24 "CoracleMakers$Coracle" "tar" "I") (by decide +kernel)
    refine va_get (D := D) (ci := 0) (v := .int (w 5)) (C := RX0) (T := TX0) (N := 10) hx hb hts hin0 hown hK hP 0 rfl rfl 5 (by decide) hf24 (fun _ h9 => h9) rfl dX0_tell_78 ?_
    subst hQ
    exact W.iret (v := w 5) hx hb hr (fun t ht hW => ⟨_, rfl, (by simp [tlF, c0, c1, c2, c3, c4, c5]), ht⟩) (fun _ h => by cases h) dX0_tell_81
  by_cases c6 : x = 6
  · refine lv_tableIn (tgt := 82) hx hb dX0_tell_1 (by rw [c6]; decide) (by rw [c6]; decide) (by rw [c6]; rfl) (by decide) ?_
    refine lv_aload_n hx hb dX0_tell_82 rfl (lv_at hl 0 rfl) ?_
    have hin0 : ∀ w ∈ u_ws RX0 TX0 10, w ∈ wsX0_tell := by decide +kernel
    have hf37 := hts (.fieldLink RX0 37 "CoracleMakers$Coracle" "water" "I") (by decide +kernel)
    refine va_get (D := D) (ci := 0) (v := .int (w 6)) (C := RX0) (T := TX0) (N := 10) hx hb hts hin0 hown hK hP 0 rfl rfl 6 (by decide) hf37 (fun _ h9 => h9) rfl dX0_tell_83 ?_
    subst hQ
    exact W.iret (v := w 6) hx hb hr (fun t ht hW => ⟨_, rfl, (by simp [tlF, c0, c1, c2, c3, c4, c5, c6]), ht⟩) (fun _ h => by cases h) dX0_tell_86
  by_cases c7 : x = 7
  · refine lv_tableIn (tgt := 87) hx hb dX0_tell_1 (by rw [c7]; decide) (by rw [c7]; decide) (by rw [c7]; rfl) (by decide) ?_
    refine lv_aload_n hx hb dX0_tell_87 rfl (lv_at hl 0 rfl) ?_
    have hin0 : ∀ w ∈ u_ws RX0 TX0 10, w ∈ wsX0_tell := by decide +kernel
    have hf40 := hts (.fieldLink RX0 40 "CoracleMakers$Coracle" "load" "I") (by decide +kernel)
    refine va_get (D := D) (ci := 0) (v := .int (w 7)) (C := RX0) (T := TX0) (N := 10) hx hb hts hin0 hown hK hP 0 rfl rfl 7 (by decide) hf40 (fun _ h9 => h9) rfl dX0_tell_88 ?_
    subst hQ
    exact W.iret (v := w 7) hx hb hr (fun t ht hW => ⟨_, rfl, (by simp [tlF, c0, c1, c2, c3, c4, c5, c6, c7]), ht⟩) (fun _ h => by cases h) dX0_tell_91
  by_cases c8 : x = 8
  · refine lv_tableIn (tgt := 92) hx hb dX0_tell_1 (by rw [c8]; decide) (by rw [c8]; decide) (by rw [c8]; rfl) (by decide) ?_
    refine lv_aload_n hx hb dX0_tell_92 rfl (lv_at hl 0 rfl) ?_
    have hin0 : ∀ w ∈ u_ws RX0 TX0 10, w ∈ wsX0_tell := by decide +kernel
    have hf27 := hts (.fieldLink RX0 27 "CoracleMakers$Coracle" "afloat" "Z") (by decide +kernel)
    refine va_get (D := D) (ci := 0) (v := .int (w 8)) (C := RX0) (T := TX0) (N := 10) hx hb hts hin0 hown hK hP 0 rfl rfl 8 (by decide) hf27 (fun _ h9 => h9) rfl dX0_tell_93 ?_
    refine lv_if_eq (tgt := 103) hx hb dX0_tell_96 (by decide) (fun c_9 => ?_) (fun c_9 => ?_)
    · refine lv_iconst (v := 0) hx hb dX0_tell_103 (by decide) ?_
      subst hQ
      exact W.iret (v := 0) hx hb hr (fun t ht hW => ⟨_, rfl, (by simp [tlF, c0, c1, c2, c3, c4, c5, c6, c7, c8, c_9]), ht⟩) (fun _ h => by cases h) dX0_tell_104
    · refine lv_iconst (v := 1) hx hb dX0_tell_99 (by decide) ?_
      refine lv_goto (tgt := 104) hx hb dX0_tell_100 (by decide) ?_
      subst hQ
      exact W.iret (v := 1) hx hb hr (fun t ht hW => ⟨_, rfl, (by simp [tlF, c0, c1, c2, c3, c4, c5, c6, c7, c8, c_9]), ht⟩) (fun _ h => by cases h) dX0_tell_104
  refine lv_tableOut (tgt := 105) hx hb dX0_tell_1 (sw_out x (n := 9) (by decide) (by decide) (fun j hj e => match j, hj, e with | 0, _, e => c0 e | 1, _, e => c1 e | 2, _, e => c2 e | 3, _, e => c3 e | 4, _, e => c4 e | 5, _, e => c5 e | 6, _, e => c6 e | 7, _, e => c7 e | 8, _, e => c8 e | j + 9, hj, _ => absurd hj (by omega))) (by decide) ?_
  refine lv_aload_n hx hb dX0_tell_105 rfl (lv_at hl 0 rfl) ?_
  have hin0 : ∀ w ∈ u_ws RX0 TX0 10, w ∈ wsX0_tell := by decide +kernel
  have hf9 := hts (.fieldLink RX0 9 "CoracleMakers$Coracle" "partner" "I") (by decide +kernel)
  refine va_get (D := D) (ci := 0) (v := .int (w 9)) (C := RX0) (T := TX0) (N := 10) hx hb hts hin0 hown hK hP 0 rfl rfl 9 (by decide) hf9 (fun _ h9 => h9) rfl dX0_tell_106 ?_
  subst hQ
  exact W.iret (v := w 9) hx hb hr (fun t ht hW => ⟨_, rfl, (by simp [tlF, c0, c1, c2, c3, c4, c5, c6, c7, c8]), ht⟩) (fun _ h => by cases h) dX0_tell_109
abbrev rmX0_becomeNew : Room := { frames := 0, cells := 0, slots := 0, locals := 0 }
set_option maxHeartbeats 4000000 in
set_option maxRecDepth 100000 in
/-- becomeNew(a, b, c) -/
theorem c_X0_becomeNew (l : Launch) (D : va_G) (y : Nat → ClassId) (sz : Nat) (h0 : Nat) (w : Nat → Int32) (xa xb xc : Int32) : WrV l D y yX0_becomeNew wsX0_becomeNew rmX0_becomeNew [.ref h0, .int xa, .int xb, .int xc] (coW h0 w) sz (coW h0 (bnF w xa xb xc)) := by
  refine mW (fun A => va_Qv (fun (_ : Unit) => True) (fun _ t9 => Bp D y (coW h0 (bnF w xa xb xc)) t9) A) (C := RX0) (cc := cX0_becomeNew) (maxL := 4) (ret := none) (by decide) rfl rfl (Nat.le_of_ble_eq_true rfl) ?_
  intro p e s m a below meth c ls A Q hQ hsz hx hb hr hts hown hlocks hin hml hP hK hN hD hA hS hl
  have hl : lv_has ls 4 [(0, .ref h0), (1, .int xa), (2, .int xb), (3, .int xc)] := hl
  refine lv_aload_n hx hb dX0_becomeNew_0 rfl (lv_at hl 0 rfl) ?_
  refine lv_iload_n hx hb dX0_becomeNew_1 rfl (lv_at hl 1 rfl) ?_
  have hin0 : ∀ w ∈ u_ws RX0 TX0 10, w ∈ wsX0_becomeNew := by decide +kernel
  have hf15 := hts (.fieldLink RX0 15 "CoracleMakers$Coracle" "laths" "I") (by decide +kernel)
  refine va_put (D := D) (ci := 0) (v := .int xa) (ty := .int) (C := RX0) (T := TX0) (N := 10) hx hb hts hin0 tyX0 tyX0_ok nmX0 hown hK hP (aD_D hD rfl) hS 0 rfl rfl 0 (by decide) hf15 (fun _ h9 => h9) rfl (by decide +kernel) rfl rfl (Nat.le_of_ble_eq_true rfl) dX0_becomeNew_2 (fun H locs hP _ hS => ?_)
  have hP : va_P D vwCl [(h0, coE (upd w 0 xa))] H := hP
  refine lv_aload_n hx hb dX0_becomeNew_5 rfl (lv_at hl 0 rfl) ?_
  refine lv_iload_n hx hb dX0_becomeNew_6 rfl (lv_at hl 2 rfl) ?_
  have hf18 := hts (.fieldLink RX0 18 "CoracleMakers$Coracle" "hide" "I") (by decide +kernel)
  refine va_put (D := D) (ci := 0) (v := .int xb) (ty := .int) (C := RX0) (T := TX0) (N := 10) hx hb hts hin0 tyX0 tyX0_ok nmX0 hown hK hP (aD_D hD rfl) hS 0 rfl rfl 1 (by decide) hf18 (fun _ h9 => h9) rfl (by decide +kernel) rfl rfl (Nat.le_of_ble_eq_true rfl) dX0_becomeNew_7 (fun H locs hP _ hS => ?_)
  have hP : va_P D vwCl [(h0, coE (upd (upd w 0 xa) 1 xb))] H := hP
  refine lv_aload_n hx hb dX0_becomeNew_10 rfl (lv_at hl 0 rfl) ?_
  refine lv_iload_n hx hb dX0_becomeNew_11 rfl (lv_at hl 3 rfl) ?_
  have hf21 := hts (.fieldLink RX0 21 "CoracleMakers$Coracle" "skill" "I") (by decide +kernel)
  refine va_put (D := D) (ci := 0) (v := .int xc) (ty := .int) (C := RX0) (T := TX0) (N := 10) hx hb hts hin0 tyX0 tyX0_ok nmX0 hown hK hP (aD_D hD rfl) hS 0 rfl rfl 2 (by decide) hf21 (fun _ h9 => h9) rfl (by decide +kernel) rfl rfl (Nat.le_of_ble_eq_true rfl) dX0_becomeNew_12 (fun H locs hP _ hS => ?_)
  have hP : va_P D vwCl [(h0, coE (upd (upd (upd w 0 xa) 1 xb) 2 xc))] H := hP
  refine lv_aload_n hx hb dX0_becomeNew_15 rfl (lv_at hl 0 rfl) ?_
  refine lv_bipush (v := 30) hx hb dX0_becomeNew_16 (by decide) ?_
  have hf24 := hts (.fieldLink RX0 24 "CoracleMakers$Coracle" "tar" "I") (by decide +kernel)
  refine va_put (D := D) (ci := 0) (v := .int 30) (ty := .int) (C := RX0) (T := TX0) (N := 10) hx hb hts hin0 tyX0 tyX0_ok nmX0 hown hK hP (aD_D hD rfl) hS 0 rfl rfl 5 (by decide) hf24 (fun _ h9 => h9) rfl (by decide +kernel) rfl rfl (Nat.le_of_ble_eq_true rfl) dX0_becomeNew_18 (fun H locs hP _ hS => ?_)
  have hP : va_P D vwCl [(h0, coE (upd (upd (upd (upd w 0 xa) 1 xb) 2 xc) 5 30))] H := hP
  refine lv_aload_n hx hb dX0_becomeNew_21 rfl (lv_at hl 0 rfl) ?_
  refine lv_iconst (v := 1) hx hb dX0_becomeNew_22 (by decide) ?_
  have hf27 := hts (.fieldLink RX0 27 "CoracleMakers$Coracle" "afloat" "Z") (by decide +kernel)
  refine va_put (D := D) (ci := 0) (v := .int 1) (ty := .boolean) (C := RX0) (T := TX0) (N := 10) hx hb hts hin0 tyX0 tyX0_ok nmX0 hown hK hP (aD_D hD rfl) hS 0 rfl rfl 8 (by decide) hf27 (fun _ h9 => h9) rfl (by decide +kernel) rfl rfl (Nat.le_of_ble_eq_true rfl) dX0_becomeNew_23 (fun H locs hP _ hS => ?_)
  have hP : va_P D vwCl [(h0, coE (upd (upd (upd (upd (upd w 0 xa) 1 xb) 2 xc) 5 30) 8 1))] H := hP
  subst hQ
  exact W.vret hx hb hr (fun t ht hW => ⟨⟨(), rfl, trivial, bp_at hK hN hP t ht hW⟩, hS.F ht⟩) hS.2.2 dX0_becomeNew_26
abbrev rmX0_move : Room := { frames := 1, cells := 0, slots := 0, locals := 24 }
set_option maxHeartbeats 4000000 in
set_option maxRecDepth 100000 in
/-- move(d) -/
theorem c_X0_move (l : Launch) (D : va_G) (y : Nat → ClassId) (sz : Nat) (h0 : Nat) (w : Nat → Int32) (d : Int32) : WrV l D y yX0_move wsX0_move rmX0_move [.ref h0, .int d] (coW h0 w) sz (coW h0 (mvF w d)) := by
  refine mW (fun A => va_Qv (fun (_ : Unit) => True) (fun _ t9 => Bp D y (coW h0 (mvF w d)) t9) A) (C := RX0) (cc := cX0_move) (maxL := 2) (ret := none) (by decide) rfl rfl (Nat.le_of_ble_eq_true rfl) ?_
  intro p e s m a below meth c ls A Q hQ hsz hx hb hr hts hown hlocks hin hml hP hK hN hD hA hS hl
  have hl : lv_has ls 2 [(0, .ref h0), (1, .int d)] := hl
  refine lv_aload_n hx hb dX0_move_0 rfl (lv_at hl 0 rfl) ?_
  refine lv_bipush (v := 15) hx hb dX0_move_1 (by decide) ?_
  refine lv_aload_n hx hb dX0_move_3 rfl (lv_at hl 0 rfl) ?_
  have hin0 : ∀ w ∈ u_ws RX0 TX0 10, w ∈ wsX0_move := by decide +kernel
  have hf31 := hts (.fieldLink RX0 31 "CoracleMakers$Coracle" "reach" "I") (by decide +kernel)
  refine va_get (D := D) (ci := 0) (v := .int (w 3)) (C := RX0) (T := TX0) (N := 10) hx hb hts hin0 hown hK hP 0 rfl rfl 3 (by decide) hf31 (fun _ h9 => h9) rfl dX0_move_4 ?_
  refine lv_iload_n hx hb dX0_move_7 rfl (lv_at hl 1 rfl) ?_
  refine lv_iadd hx hb dX0_move_8 ?_
  refine va_mmin hx hb (hml.trans hl.1.symm) hown (hts (.methodLink RX0 43 Lib.Math.min.name) (by decide +kernel)) (hts (.static Lib.Math.min.name) (by decide +kernel)) (hts (.initialized "java/lang/Math") (by decide +kernel)) (hts (.code Lib.Math.min.name Lib.Math.min.code 2 (some .int)) (by decide +kernel)) (Nat.le_of_ble_eq_true rfl) (Nat.le_of_ble_eq_true rfl) (Nat.le_of_ble_eq_true rfl) (Nat.le_of_ble_eq_true rfl) dX0_move_9 ?_
  refine W.eq (g2 := F0 m 12 ls (.int (mn 15 ((w 3) + d)) :: .ref h0 :: [])) rfl ?_
  refine lv_topi (fun x_10 ex_10 => ?_)
  refine va_put (D := D) (ci := 0) (v := .int x_10) (ty := .int) (C := RX0) (T := TX0) (N := 10) hx hb hts hin0 tyX0 tyX0_ok nmX0 hown hK hP (aD_D hD rfl) hS 0 rfl rfl 3 (by decide) hf31 (fun _ h9 => h9) rfl (by decide +kernel) rfl rfl (Nat.le_of_ble_eq_true rfl) dX0_move_12 (fun H locs hP _ hS => ?_)
  have hP : va_P D vwCl [(h0, coE (upd w 3 x_10))] H := hP
  refine lv_aload_n hx hb dX0_move_15 rfl (lv_at hl 0 rfl) ?_
  have hf34 := hts (.fieldLink RX0 34 "CoracleMakers$Coracle" "goal" "I") (by decide +kernel)
  refine va_get (D := D) (ci := 0) (v := .int (w 4)) (C := RX0) (T := TX0) (N := 10) hx hb hts hin0 hown hK hP 0 rfl rfl 4 (by decide) hf34 (fun _ h9 => h9) rfl dX0_move_16 ?_
  refine lv_aload_n hx hb dX0_move_19 rfl (lv_at hl 0 rfl) ?_
  refine va_get (D := D) (ci := 0) (v := .int x_10) (C := RX0) (T := TX0) (N := 10) hx hb hts hin0 hown hK hP 0 rfl rfl 3 (by decide) hf31 (fun _ h9 => h9) rfl dX0_move_20 ?_
  refine lv_icmp_le (tgt := 49) hx hb dX0_move_23 (by decide) (fun c_11 => ?_) (fun c_11 => ?_)
  · refine lv_aload_n hx hb dX0_move_49 rfl (lv_at hl 0 rfl) ?_
    refine lv_aload_n hx hb dX0_move_50 rfl (lv_at hl 0 rfl) ?_
    refine va_get (D := D) (ci := 0) (v := .int (w 4)) (C := RX0) (T := TX0) (N := 10) hx hb hts hin0 hown hK hP 0 rfl rfl 4 (by decide) hf34 (fun _ h9 => h9) rfl dX0_move_51 ?_
    refine lv_aload_n hx hb dX0_move_54 rfl (lv_at hl 0 rfl) ?_
    refine va_get (D := D) (ci := 0) (v := .int x_10) (C := RX0) (T := TX0) (N := 10) hx hb hts hin0 hown hK hP 0 rfl rfl 3 (by decide) hf31 (fun _ h9 => h9) rfl dX0_move_55 ?_
    refine lv_aload_n hx hb dX0_move_58 rfl (lv_at hl 0 rfl) ?_
    have hf21 := hts (.fieldLink RX0 21 "CoracleMakers$Coracle" "skill" "I") (by decide +kernel)
    refine va_get (D := D) (ci := 0) (v := .int (w 2)) (C := RX0) (T := TX0) (N := 10) hx hb hts hin0 hown hK hP 0 rfl rfl 2 (by decide) hf21 (fun _ h9 => h9) rfl dX0_move_59 ?_
    refine lv_isub hx hb dX0_move_62 ?_
    refine va_mmax hx hb (hml.trans hl.1.symm) hown (hts (.methodLink RX0 49 Lib.Math.max.name) (by decide +kernel)) (hts (.static Lib.Math.max.name) (by decide +kernel)) (hts (.initialized "java/lang/Math") (by decide +kernel)) (hts (.code Lib.Math.max.name Lib.Math.max.code 2 (some .int)) (by decide +kernel)) (Nat.le_of_ble_eq_true rfl) (Nat.le_of_ble_eq_true rfl) (Nat.le_of_ble_eq_true rfl) (Nat.le_of_ble_eq_true rfl) dX0_move_63 ?_
    refine W.eq (g2 := F0 m 66 ls (.int (mx (w 4) (x_10 - (w 2))) :: .ref h0 :: [])) rfl ?_
    refine lv_topi (fun x_12 ex_12 => ?_)
    refine va_put (D := D) (ci := 0) (v := .int x_12) (ty := .int) (C := RX0) (T := TX0) (N := 10) hx hb hts hin0 tyX0 tyX0_ok nmX0 hown hK hP (aD_D hD rfl) hS 0 rfl rfl 3 (by decide) hf31 (fun _ h9 => h9) rfl (by decide +kernel) rfl rfl (Nat.le_of_ble_eq_true rfl) dX0_move_66 (fun H locs hP _ hS => ?_)
    have hP : va_P D vwCl [(h0, coE (upd (upd w 3 x_10) 3 x_12))] H := hP
    have e9 : mvF w d = (upd (upd w 3 x_10) 3 x_12) := by subst ex_12 ex_10; unfold mvF; rw [if_pos (show w 4 ≤ mvR w d from c_11)]; exact (upd_upd _ _ _ _).symm
    have hP : va_P D vwCl (coW h0 (mvF w d)) H := (by rw [e9]; exact hP)
    subst hQ
    exact W.vret hx hb hr (fun t ht hW => ⟨⟨(), rfl, trivial, bp_at hK hN hP t ht hW⟩, hS.F ht⟩) hS.2.2 dX0_move_69
  · refine lv_aload_n hx hb dX0_move_26 rfl (lv_at hl 0 rfl) ?_
    refine lv_aload_n hx hb dX0_move_27 rfl (lv_at hl 0 rfl) ?_
    refine va_get (D := D) (ci := 0) (v := .int (w 4)) (C := RX0) (T := TX0) (N := 10) hx hb hts hin0 hown hK hP 0 rfl rfl 4 (by decide) hf34 (fun _ h9 => h9) rfl dX0_move_28 ?_
    refine lv_aload_n hx hb dX0_move_31 rfl (lv_at hl 0 rfl) ?_
    refine va_get (D := D) (ci := 0) (v := .int x_10) (C := RX0) (T := TX0) (N := 10) hx hb hts hin0 hown hK hP 0 rfl rfl 3 (by decide) hf31 (fun _ h9 => h9) rfl dX0_move_32 ?_
    refine lv_aload_n hx hb dX0_move_35 rfl (lv_at hl 0 rfl) ?_
    have hf21 := hts (.fieldLink RX0 21 "CoracleMakers$Coracle" "skill" "I") (by decide +kernel)
    refine va_get (D := D) (ci := 0) (v := .int (w 2)) (C := RX0) (T := TX0) (N := 10) hx hb hts hin0 hown hK hP 0 rfl rfl 2 (by decide) hf21 (fun _ h9 => h9) rfl dX0_move_36 ?_
    refine lv_iadd hx hb dX0_move_39 ?_
    refine va_mmin hx hb (hml.trans hl.1.symm) hown (hts (.methodLink RX0 43 Lib.Math.min.name) (by decide +kernel)) (hts (.static Lib.Math.min.name) (by decide +kernel)) (hts (.initialized "java/lang/Math") (by decide +kernel)) (hts (.code Lib.Math.min.name Lib.Math.min.code 2 (some .int)) (by decide +kernel)) (Nat.le_of_ble_eq_true rfl) (Nat.le_of_ble_eq_true rfl) (Nat.le_of_ble_eq_true rfl) (Nat.le_of_ble_eq_true rfl) dX0_move_40 ?_
    refine W.eq (g2 := F0 m 43 ls (.int (mn (w 4) (x_10 + (w 2))) :: .ref h0 :: [])) rfl ?_
    refine lv_topi (fun x_13 ex_13 => ?_)
    refine va_put (D := D) (ci := 0) (v := .int x_13) (ty := .int) (C := RX0) (T := TX0) (N := 10) hx hb hts hin0 tyX0 tyX0_ok nmX0 hown hK hP (aD_D hD rfl) hS 0 rfl rfl 3 (by decide) hf31 (fun _ h9 => h9) rfl (by decide +kernel) rfl rfl (Nat.le_of_ble_eq_true rfl) dX0_move_43 (fun H locs hP _ hS => ?_)
    have hP : va_P D vwCl [(h0, coE (upd (upd w 3 x_10) 3 x_13))] H := hP
    refine lv_goto (tgt := 69) hx hb dX0_move_46 (by decide) ?_
    have e9 : mvF w d = (upd (upd w 3 x_10) 3 x_13) := by subst ex_13 ex_10; unfold mvF; rw [if_neg (show ¬ w 4 ≤ mvR w d from c_11)]; exact (upd_upd _ _ _ _).symm
    have hP : va_P D vwCl (coW h0 (mvF w d)) H := (by rw [e9]; exact hP)
    subst hQ
    exact W.vret hx hb hr (fun t ht hW => ⟨⟨(), rfl, trivial, bp_at hK hN hP t ht hW⟩, hS.F ht⟩) hS.2.2 dX0_move_69
abbrev rmX0_wear : Room := { frames := 1, cells := 0, slots := 0, locals := 24 }
set_option maxHeartbeats 4000000 in
set_option maxRecDepth 100000 in
/-- wear() -/
theorem c_X0_wear (l : Launch) (D : va_G) (y : Nat → ClassId) (sz : Nat) (h0 : Nat) (w : Nat → Int32) : WrV l D y yX0_wear wsX0_wear rmX0_wear [.ref h0] (coW h0 w) sz (coW h0 (wrF w)) := by
  refine mW (fun A => va_Qv (fun (_ : Unit) => True) (fun _ t9 => Bp D y (coW h0 (wrF w)) t9) A) (C := RX0) (cc := cX0_wear) (maxL := 1) (ret := none) (by decide) rfl rfl (Nat.le_of_ble_eq_true rfl) ?_
  intro p e s m a below meth c ls A Q hQ hsz hx hb hr hts hown hlocks hin hml hP hK hN hD hA hS hl
  have hl : lv_has ls 1 [(0, .ref h0)] := hl
  refine lv_aload_n hx hb dX0_wear_0 rfl (lv_at hl 0 rfl) ?_
  refine lv_iconst (v := 0) hx hb dX0_wear_1 (by decide) ?_
  refine lv_aload_n hx hb dX0_wear_2 rfl (lv_at hl 0 rfl) ?_
  have hin0 : ∀ w ∈ u_ws RX0 TX0 10, w ∈ wsX0_wear := by decide +kernel
  have hf24 := hts (.fieldLink RX0 24 "CoracleMakers$Coracle" "tar" "I") (by decide +kernel)
  refine va_get (D := D) (ci := 0) (v := .int (w 5)) (C := RX0) (T := TX0) (N := 10) hx hb hts hin0 hown hK hP 0 rfl rfl 5 (by decide) hf24 (fun _ h9 => h9) rfl dX0_wear_3 ?_
  refine lv_iconst (v := 1) hx hb dX0_wear_6 (by decide) ?_
  refine lv_isub hx hb dX0_wear_7 ?_
  refine va_mmax hx hb (hml.trans hl.1.symm) hown (hts (.methodLink RX0 49 Lib.Math.max.name) (by decide +kernel)) (hts (.static Lib.Math.max.name) (by decide +kernel)) (hts (.initialized "java/lang/Math") (by decide +kernel)) (hts (.code Lib.Math.max.name Lib.Math.max.code 2 (some .int)) (by decide +kernel)) (Nat.le_of_ble_eq_true rfl) (Nat.le_of_ble_eq_true rfl) (Nat.le_of_ble_eq_true rfl) (Nat.le_of_ble_eq_true rfl) dX0_wear_8 ?_
  refine W.eq (g2 := F0 m 11 ls (.int (mx 0 ((w 5) - 1)) :: .ref h0 :: [])) rfl ?_
  refine lv_topi (fun x_14 ex_14 => ?_)
  refine va_put (D := D) (ci := 0) (v := .int x_14) (ty := .int) (C := RX0) (T := TX0) (N := 10) hx hb hts hin0 tyX0 tyX0_ok nmX0 hown hK hP (aD_D hD rfl) hS 0 rfl rfl 5 (by decide) hf24 (fun _ h9 => h9) rfl (by decide +kernel) rfl rfl (Nat.le_of_ble_eq_true rfl) dX0_wear_11 (fun H locs hP _ hS => ?_)
  have hP : va_P D vwCl [(h0, coE (upd w 5 x_14))] H := hP
  refine lv_aload_n hx hb dX0_wear_14 rfl (lv_at hl 0 rfl) ?_
  refine lv_dup hx hb dX0_wear_15 rfl ?_
  have hf37 := hts (.fieldLink RX0 37 "CoracleMakers$Coracle" "water" "I") (by decide +kernel)
  refine va_get (D := D) (ci := 0) (v := .int (w 6)) (C := RX0) (T := TX0) (N := 10) hx hb hts hin0 hown hK hP 0 rfl rfl 6 (by decide) hf37 (fun _ h9 => h9) rfl dX0_wear_16 ?_
  refine lv_aload_n hx hb dX0_wear_19 rfl (lv_at hl 0 rfl) ?_
  have hPl : va_P D vwCl (coW h0 (wrA w)) H := by subst ex_14; exact hP
  refine cRI_V (As := []) (rest := [.int (w 6), .ref h0]) ⟨hx, hb, hml, hown, hts⟩ (c_X0_leak l D y h0 (wrA w)) (cwV 0 hts gX0_wear_X0_leak rfl rfl rfl (by decide +kernel) ⟨Nat.le_of_ble_eq_true rfl, Nat.le_of_ble_eq_true rfl⟩) hK hN hPl (va_recv hK hPl (ci := 0) (q0 := 0) rfl rfl) rfl hl.1 rfl (Nat.le_of_ble_eq_true rfl) dX0_wear_20 ⟨Nat.le_of_ble_eq_true rfl, Nat.le_of_ble_eq_true rfl⟩ ?_
  refine lv_iadd hx hb dX0_wear_23 ?_
  refine lv_topi (fun x_15 ex_15 => ?_)
  refine va_put (D := D) (ci := 0) (v := .int x_15) (ty := .int) (C := RX0) (T := TX0) (N := 10) hx hb hts hin0 tyX0 tyX0_ok nmX0 hown hK hP (aD_D hD rfl) hS 0 rfl rfl 6 (by decide) hf37 (fun _ h9 => h9) rfl (by decide +kernel) rfl rfl (Nat.le_of_ble_eq_true rfl) dX0_wear_24 (fun H locs hP _ hS => ?_)
  have hP : va_P D vwCl [(h0, coE (upd (upd w 5 x_14) 6 x_15))] H := hP
  refine lv_aload_n hx hb dX0_wear_27 rfl (lv_at hl 0 rfl) ?_
  refine va_get (D := D) (ci := 0) (v := .int x_15) (C := RX0) (T := TX0) (N := 10) hx hb hts hin0 hown hK hP 0 rfl rfl 6 (by decide) hf37 (fun _ h9 => h9) rfl dX0_wear_28 ?_
  refine lv_iconst (v := 2) hx hb dX0_wear_31 (by decide) ?_
  refine lv_aload_n hx hb dX0_wear_32 rfl (lv_at hl 0 rfl) ?_
  have hf15 := hts (.fieldLink RX0 15 "CoracleMakers$Coracle" "laths" "I") (by decide +kernel)
  refine va_get (D := D) (ci := 0) (v := .int (w 0)) (C := RX0) (T := TX0) (N := 10) hx hb hts hin0 hown hK hP 0 rfl rfl 0 (by decide) hf15 (fun _ h9 => h9) rfl dX0_wear_33 ?_
  refine lv_imul hx hb dX0_wear_36 ?_
  refine lv_icmp_lt (tgt := 50) hx hb dX0_wear_37 (by decide) (fun c_16 => ?_) (fun c_16 => ?_)
  · have e9 : wrF w = (upd (upd w 5 x_14) 6 x_15) := by subst ex_15 ex_14; unfold wrF; rw [if_pos (show wrB w 6 < 2 * w 0 from c_16)]; rfl
    have hP : va_P D vwCl (coW h0 (wrF w)) H := (by rw [e9]; exact hP)
    subst hQ
    exact W.vret hx hb hr (fun t ht hW => ⟨⟨(), rfl, trivial, bp_at hK hN hP t ht hW⟩, hS.F ht⟩) hS.2.2 dX0_wear_50
  · refine lv_aload_n hx hb dX0_wear_40 rfl (lv_at hl 0 rfl) ?_
    refine lv_iconst (v := 0) hx hb dX0_wear_41 (by decide) ?_
    have hf27 := hts (.fieldLink RX0 27 "CoracleMakers$Coracle" "afloat" "Z") (by decide +kernel)
    refine va_put (D := D) (ci := 0) (v := .int 0) (ty := .boolean) (C := RX0) (T := TX0) (N := 10) hx hb hts hin0 tyX0 tyX0_ok nmX0 hown hK hP (aD_D hD rfl) hS 0 rfl rfl 8 (by decide) hf27 (fun _ h9 => h9) rfl (by decide +kernel) rfl rfl (Nat.le_of_ble_eq_true rfl) dX0_wear_42 (fun H locs hP _ hS => ?_)
    have hP : va_P D vwCl [(h0, coE (upd (upd (upd w 5 x_14) 6 x_15) 8 0))] H := hP
    refine lv_aload_n hx hb dX0_wear_45 rfl (lv_at hl 0 rfl) ?_
    refine lv_iconst (v := 0) hx hb dX0_wear_46 (by decide) ?_
    have hf40 := hts (.fieldLink RX0 40 "CoracleMakers$Coracle" "load" "I") (by decide +kernel)
    refine va_put (D := D) (ci := 0) (v := .int 0) (ty := .int) (C := RX0) (T := TX0) (N := 10) hx hb hts hin0 tyX0 tyX0_ok nmX0 hown hK hP (aD_D hD rfl) hS 0 rfl rfl 7 (by decide) hf40 (fun _ h9 => h9) rfl (by decide +kernel) rfl rfl (Nat.le_of_ble_eq_true rfl) dX0_wear_47 (fun H locs hP _ hS => ?_)
    have hP : va_P D vwCl [(h0, coE (upd (upd (upd (upd w 5 x_14) 6 x_15) 8 0) 7 0))] H := hP
    have e9 : wrF w = (upd (upd (upd (upd w 5 x_14) 6 x_15) 8 0) 7 0) := by subst ex_15 ex_14; unfold wrF; rw [if_neg (show ¬ wrB w 6 < 2 * w 0 from c_16)]; rfl
    have hP : va_P D vwCl (coW h0 (wrF w)) H := (by rw [e9]; exact hP)
    subst hQ
    exact W.vret hx hb hr (fun t ht hW => ⟨⟨(), rfl, trivial, bp_at hK hN hP t ht hW⟩, hS.F ht⟩) hS.2.2 dX0_wear_50
abbrev rmX0_becomeLike : Room := { frames := 0, cells := 0, slots := 0, locals := 0 }
set_option maxHeartbeats 4000000 in
set_option maxRecDepth 100000 in
/-- becomeLike(o): all of the other; o is at h1 -/
theorem c_X0_becomeLike (l : Launch) (D : va_G) (y : Nat → ClassId) (sz : Nat) (h0 h1 : Nat) (w v : Nat → Int32) (hv8 : isB (v 8)) : WrV l D y yX0_becomeLike wsX0_becomeLike rmX0_becomeLike [.ref h0, .ref h1] ([(h0, coE w), (h1, coE v)]) sz ([(h0, coE v), (h1, coE v)]) := by
  refine mW (fun A => va_Qv (fun (_ : Unit) => True) (fun _ t9 => Bp D y ([(h0, coE v), (h1, coE v)]) t9) A) (C := RX0) (cc := cX0_becomeLike) (maxL := 2) (ret := none) (by decide) rfl rfl (Nat.le_of_ble_eq_true rfl) ?_
  intro p e s m a below meth c ls A Q hQ hsz hx hb hr hts hown hlocks hin hml hP hK hN hD hA hS hl
  have hl : lv_has ls 2 [(0, .ref h0), (1, .ref h1)] := hl
  refine lv_aload_n hx hb dX0_becomeLike_0 rfl (lv_at hl 0 rfl) ?_
  refine lv_aload_n hx hb dX0_becomeLike_1 rfl (lv_at hl 1 rfl) ?_
  have hin0 : ∀ w ∈ u_ws RX0 TX0 10, w ∈ wsX0_becomeLike := by decide +kernel
  have hf15 := hts (.fieldLink RX0 15 "CoracleMakers$Coracle" "laths" "I") (by decide +kernel)
  refine va_get (D := D) (ci := 0) (v := .int (v 0)) (C := RX0) (T := TX0) (N := 10) hx hb hts hin0 hown hK hP 1 rfl rfl 0 (by decide) hf15 (fun _ h9 => h9) rfl dX0_becomeLike_2 ?_
  refine va_put (D := D) (ci := 0) (v := .int (v 0)) (ty := .int) (C := RX0) (T := TX0) (N := 10) hx hb hts hin0 tyX0 tyX0_ok nmX0 hown hK hP (aD_D hD rfl) hS 0 rfl rfl 0 (by decide) hf15 (fun _ h9 => h9) rfl (by decide +kernel) rfl rfl (Nat.le_of_ble_eq_true rfl) dX0_becomeLike_5 (fun H locs hP _ hS => ?_)
  have hP : va_P D vwCl [(h0, coE (upd w 0 (v 0))), (h1, coE v)] H := hP
  refine lv_aload_n hx hb dX0_becomeLike_8 rfl (lv_at hl 0 rfl) ?_
  refine lv_aload_n hx hb dX0_becomeLike_9 rfl (lv_at hl 1 rfl) ?_
  have hf18 := hts (.fieldLink RX0 18 "CoracleMakers$Coracle" "hide" "I") (by decide +kernel)
  refine va_get (D := D) (ci := 0) (v := .int (v 1)) (C := RX0) (T := TX0) (N := 10) hx hb hts hin0 hown hK hP 1 rfl rfl 1 (by decide) hf18 (fun _ h9 => h9) rfl dX0_becomeLike_10 ?_
  refine va_put (D := D) (ci := 0) (v := .int (v 1)) (ty := .int) (C := RX0) (T := TX0) (N := 10) hx hb hts hin0 tyX0 tyX0_ok nmX0 hown hK hP (aD_D hD rfl) hS 0 rfl rfl 1 (by decide) hf18 (fun _ h9 => h9) rfl (by decide +kernel) rfl rfl (Nat.le_of_ble_eq_true rfl) dX0_becomeLike_13 (fun H locs hP _ hS => ?_)
  have hP : va_P D vwCl [(h0, coE (upd (upd w 0 (v 0)) 1 (v 1))), (h1, coE v)] H := hP
  refine lv_aload_n hx hb dX0_becomeLike_16 rfl (lv_at hl 0 rfl) ?_
  refine lv_aload_n hx hb dX0_becomeLike_17 rfl (lv_at hl 1 rfl) ?_
  have hf21 := hts (.fieldLink RX0 21 "CoracleMakers$Coracle" "skill" "I") (by decide +kernel)
  refine va_get (D := D) (ci := 0) (v := .int (v 2)) (C := RX0) (T := TX0) (N := 10) hx hb hts hin0 hown hK hP 1 rfl rfl 2 (by decide) hf21 (fun _ h9 => h9) rfl dX0_becomeLike_18 ?_
  refine va_put (D := D) (ci := 0) (v := .int (v 2)) (ty := .int) (C := RX0) (T := TX0) (N := 10) hx hb hts hin0 tyX0 tyX0_ok nmX0 hown hK hP (aD_D hD rfl) hS 0 rfl rfl 2 (by decide) hf21 (fun _ h9 => h9) rfl (by decide +kernel) rfl rfl (Nat.le_of_ble_eq_true rfl) dX0_becomeLike_21 (fun H locs hP _ hS => ?_)
  have hP : va_P D vwCl [(h0, coE (upd (upd (upd w 0 (v 0)) 1 (v 1)) 2 (v 2))), (h1, coE v)] H := hP
  refine lv_aload_n hx hb dX0_becomeLike_24 rfl (lv_at hl 0 rfl) ?_
  refine lv_aload_n hx hb dX0_becomeLike_25 rfl (lv_at hl 1 rfl) ?_
  have hf31 := hts (.fieldLink RX0 31 "CoracleMakers$Coracle" "reach" "I") (by decide +kernel)
  refine va_get (D := D) (ci := 0) (v := .int (v 3)) (C := RX0) (T := TX0) (N := 10) hx hb hts hin0 hown hK hP 1 rfl rfl 3 (by decide) hf31 (fun _ h9 => h9) rfl dX0_becomeLike_26 ?_
  refine va_put (D := D) (ci := 0) (v := .int (v 3)) (ty := .int) (C := RX0) (T := TX0) (N := 10) hx hb hts hin0 tyX0 tyX0_ok nmX0 hown hK hP (aD_D hD rfl) hS 0 rfl rfl 3 (by decide) hf31 (fun _ h9 => h9) rfl (by decide +kernel) rfl rfl (Nat.le_of_ble_eq_true rfl) dX0_becomeLike_29 (fun H locs hP _ hS => ?_)
  have hP : va_P D vwCl [(h0, coE (upd (upd (upd (upd w 0 (v 0)) 1 (v 1)) 2 (v 2)) 3 (v 3))), (h1, coE v)] H := hP
  refine lv_aload_n hx hb dX0_becomeLike_32 rfl (lv_at hl 0 rfl) ?_
  refine lv_aload_n hx hb dX0_becomeLike_33 rfl (lv_at hl 1 rfl) ?_
  have hf34 := hts (.fieldLink RX0 34 "CoracleMakers$Coracle" "goal" "I") (by decide +kernel)
  refine va_get (D := D) (ci := 0) (v := .int (v 4)) (C := RX0) (T := TX0) (N := 10) hx hb hts hin0 hown hK hP 1 rfl rfl 4 (by decide) hf34 (fun _ h9 => h9) rfl dX0_becomeLike_34 ?_
  refine va_put (D := D) (ci := 0) (v := .int (v 4)) (ty := .int) (C := RX0) (T := TX0) (N := 10) hx hb hts hin0 tyX0 tyX0_ok nmX0 hown hK hP (aD_D hD rfl) hS 0 rfl rfl 4 (by decide) hf34 (fun _ h9 => h9) rfl (by decide +kernel) rfl rfl (Nat.le_of_ble_eq_true rfl) dX0_becomeLike_37 (fun H locs hP _ hS => ?_)
  have hP : va_P D vwCl [(h0, coE (upd (upd (upd (upd (upd w 0 (v 0)) 1 (v 1)) 2 (v 2)) 3 (v 3)) 4 (v 4))), (h1, coE v)] H := hP
  refine lv_aload_n hx hb dX0_becomeLike_40 rfl (lv_at hl 0 rfl) ?_
  refine lv_aload_n hx hb dX0_becomeLike_41 rfl (lv_at hl 1 rfl) ?_
  have hf24 := hts (.fieldLink RX0 24 "CoracleMakers$Coracle" "tar" "I") (by decide +kernel)
  refine va_get (D := D) (ci := 0) (v := .int (v 5)) (C := RX0) (T := TX0) (N := 10) hx hb hts hin0 hown hK hP 1 rfl rfl 5 (by decide) hf24 (fun _ h9 => h9) rfl dX0_becomeLike_42 ?_
  refine va_put (D := D) (ci := 0) (v := .int (v 5)) (ty := .int) (C := RX0) (T := TX0) (N := 10) hx hb hts hin0 tyX0 tyX0_ok nmX0 hown hK hP (aD_D hD rfl) hS 0 rfl rfl 5 (by decide) hf24 (fun _ h9 => h9) rfl (by decide +kernel) rfl rfl (Nat.le_of_ble_eq_true rfl) dX0_becomeLike_45 (fun H locs hP _ hS => ?_)
  have hP : va_P D vwCl [(h0, coE (upd (upd (upd (upd (upd (upd w 0 (v 0)) 1 (v 1)) 2 (v 2)) 3 (v 3)) 4 (v 4)) 5 (v 5))), (h1, coE v)] H := hP
  refine lv_aload_n hx hb dX0_becomeLike_48 rfl (lv_at hl 0 rfl) ?_
  refine lv_aload_n hx hb dX0_becomeLike_49 rfl (lv_at hl 1 rfl) ?_
  have hf37 := hts (.fieldLink RX0 37 "CoracleMakers$Coracle" "water" "I") (by decide +kernel)
  refine va_get (D := D) (ci := 0) (v := .int (v 6)) (C := RX0) (T := TX0) (N := 10) hx hb hts hin0 hown hK hP 1 rfl rfl 6 (by decide) hf37 (fun _ h9 => h9) rfl dX0_becomeLike_50 ?_
  refine va_put (D := D) (ci := 0) (v := .int (v 6)) (ty := .int) (C := RX0) (T := TX0) (N := 10) hx hb hts hin0 tyX0 tyX0_ok nmX0 hown hK hP (aD_D hD rfl) hS 0 rfl rfl 6 (by decide) hf37 (fun _ h9 => h9) rfl (by decide +kernel) rfl rfl (Nat.le_of_ble_eq_true rfl) dX0_becomeLike_53 (fun H locs hP _ hS => ?_)
  have hP : va_P D vwCl [(h0, coE (upd (upd (upd (upd (upd (upd (upd w 0 (v 0)) 1 (v 1)) 2 (v 2)) 3 (v 3)) 4 (v 4)) 5 (v 5)) 6 (v 6))), (h1, coE v)] H := hP
  refine lv_aload_n hx hb dX0_becomeLike_56 rfl (lv_at hl 0 rfl) ?_
  refine lv_aload_n hx hb dX0_becomeLike_57 rfl (lv_at hl 1 rfl) ?_
  have hf40 := hts (.fieldLink RX0 40 "CoracleMakers$Coracle" "load" "I") (by decide +kernel)
  refine va_get (D := D) (ci := 0) (v := .int (v 7)) (C := RX0) (T := TX0) (N := 10) hx hb hts hin0 hown hK hP 1 rfl rfl 7 (by decide) hf40 (fun _ h9 => h9) rfl dX0_becomeLike_58 ?_
  refine va_put (D := D) (ci := 0) (v := .int (v 7)) (ty := .int) (C := RX0) (T := TX0) (N := 10) hx hb hts hin0 tyX0 tyX0_ok nmX0 hown hK hP (aD_D hD rfl) hS 0 rfl rfl 7 (by decide) hf40 (fun _ h9 => h9) rfl (by decide +kernel) rfl rfl (Nat.le_of_ble_eq_true rfl) dX0_becomeLike_61 (fun H locs hP _ hS => ?_)
  have hP : va_P D vwCl [(h0, coE (upd (upd (upd (upd (upd (upd (upd (upd w 0 (v 0)) 1 (v 1)) 2 (v 2)) 3 (v 3)) 4 (v 4)) 5 (v 5)) 6 (v 6)) 7 (v 7))), (h1, coE v)] H := hP
  refine lv_aload_n hx hb dX0_becomeLike_64 rfl (lv_at hl 0 rfl) ?_
  refine lv_aload_n hx hb dX0_becomeLike_65 rfl (lv_at hl 1 rfl) ?_
  have hf27 := hts (.fieldLink RX0 27 "CoracleMakers$Coracle" "afloat" "Z") (by decide +kernel)
  refine va_get (D := D) (ci := 0) (v := .int (v 8)) (C := RX0) (T := TX0) (N := 10) hx hb hts hin0 hown hK hP 1 rfl rfl 8 (by decide) hf27 (fun _ h9 => h9) rfl dX0_becomeLike_66 ?_
  refine va_put (D := D) (ci := 0) (v := .int (v 8)) (ty := .boolean) (C := RX0) (T := TX0) (N := 10) hx hb hts hin0 tyX0 tyX0_ok nmX0 hown hK hP (aD_D hD rfl) hS 0 rfl rfl 8 (by decide) hf27 (fun _ h9 => h9) rfl (by decide +kernel) (nb_z hv8) (fb_z hv8) (Nat.le_of_ble_eq_true rfl) dX0_becomeLike_69 (fun H locs hP _ hS => ?_)
  have hP : va_P D vwCl [(h0, coE (upd (upd (upd (upd (upd (upd (upd (upd (upd w 0 (v 0)) 1 (v 1)) 2 (v 2)) 3 (v 3)) 4 (v 4)) 5 (v 5)) 6 (v 6)) 7 (v 7)) 8 (v 8))), (h1, coE v)] H := hP
  refine lv_aload_n hx hb dX0_becomeLike_72 rfl (lv_at hl 0 rfl) ?_
  refine lv_aload_n hx hb dX0_becomeLike_73 rfl (lv_at hl 1 rfl) ?_
  have hf9 := hts (.fieldLink RX0 9 "CoracleMakers$Coracle" "partner" "I") (by decide +kernel)
  refine va_get (D := D) (ci := 0) (v := .int (v 9)) (C := RX0) (T := TX0) (N := 10) hx hb hts hin0 hown hK hP 1 rfl rfl 9 (by decide) hf9 (fun _ h9 => h9) rfl dX0_becomeLike_74 ?_
  refine va_put (D := D) (ci := 0) (v := .int (v 9)) (ty := .int) (C := RX0) (T := TX0) (N := 10) hx hb hts hin0 tyX0 tyX0_ok nmX0 hown hK hP (aD_D hD rfl) hS 0 rfl rfl 9 (by decide) hf9 (fun _ h9 => h9) rfl (by decide +kernel) rfl rfl (Nat.le_of_ble_eq_true rfl) dX0_becomeLike_77 (fun H locs hP _ hS => ?_)
  have hP : va_P D vwCl [(h0, coE (upd (upd (upd (upd (upd (upd (upd (upd (upd (upd w 0 (v 0)) 1 (v 1)) 2 (v 2)) 3 (v 3)) 4 (v 4)) 5 (v 5)) 6 (v 6)) 7 (v 7)) 8 (v 8)) 9 (v 9))), (h1, coE v)] H := hP
  subst hQ
  exact W.vret hx hb hr (fun t ht hW => ⟨⟨(), rfl, trivial, bp_at hK hN hP t ht hW⟩, hS.F ht⟩) hS.2.2 dX0_becomeLike_80
abbrev rmX1_becomeLike : Room := { frames := 0, cells := 0, slots := 0, locals := 0 }
set_option maxHeartbeats 4000000 in
set_option maxRecDepth 100000 in
/-- becomeLike(o): all of the other; o is at h1 -/
theorem c_X1_becomeLike (l : Launch) (D : va_G) (y : Nat → ClassId) (sz : Nat) (h0 h1 : Nat) (w v : Nat → Int32) : WrV l D y yX1_becomeLike wsX1_becomeLike rmX1_becomeLike [.ref h0, .ref h1] ([(h0, neE w), (h1, neE v)]) sz ([(h0, neE v), (h1, neE v)]) := by
  refine mW (fun A => va_Qv (fun (_ : Unit) => True) (fun _ t9 => Bp D y ([(h0, neE v), (h1, neE v)]) t9) A) (C := RX1) (cc := cX1_becomeLike) (maxL := 2) (ret := none) (by decide) rfl rfl (Nat.le_of_ble_eq_true rfl) ?_
  intro p e s m a below meth c ls A Q hQ hsz hx hb hr hts hown hlocks hin hml hP hK hN hD hA hS hl
  have hl : lv_has ls 2 [(0, .ref h0), (1, .ref h1)] := hl
  refine lv_aload_n hx hb dX1_becomeLike_0 rfl (lv_at hl 0 rfl) ?_
  refine lv_aload_n hx hb dX1_becomeLike_1 rfl (lv_at hl 1 rfl) ?_
  have hin1 : ∀ w ∈ u_ws RX1 TX1 3, w ∈ wsX1_becomeLike := by decide +kernel
  have hf7 := hts (.fieldLink RX1 7 "CoracleMakers$Net" "first" "I") (by decide +kernel)
  refine va_get (D := D) (ci := 1) (v := .int (v 0)) (C := RX1) (T := TX1) (N := 3) hx hb hts hin1 hown hK hP 1 rfl rfl 0 (by decide) hf7 (fun _ h9 => h9) rfl dX1_becomeLike_2 ?_
  refine va_put (D := D) (ci := 1) (v := .int (v 0)) (ty := .int) (C := RX1) (T := TX1) (N := 3) hx hb hts hin1 tyX1 tyX1_ok nmX1 hown hK hP (aD_D hD rfl) hS 0 rfl rfl 0 (by decide) hf7 (fun _ h9 => h9) rfl (by decide +kernel) rfl rfl (Nat.le_of_ble_eq_true rfl) dX1_becomeLike_5 (fun H locs hP _ hS => ?_)
  have hP : va_P D vwCl [(h0, neE (upd w 0 (v 0))), (h1, neE v)] H := hP
  refine lv_aload_n hx hb dX1_becomeLike_8 rfl (lv_at hl 0 rfl) ?_
  refine lv_aload_n hx hb dX1_becomeLike_9 rfl (lv_at hl 1 rfl) ?_
  have hf13 := hts (.fieldLink RX1 13 "CoracleMakers$Net" "second" "I") (by decide +kernel)
  refine va_get (D := D) (ci := 1) (v := .int (v 1)) (C := RX1) (T := TX1) (N := 3) hx hb hts hin1 hown hK hP 1 rfl rfl 1 (by decide) hf13 (fun _ h9 => h9) rfl dX1_becomeLike_10 ?_
  refine va_put (D := D) (ci := 1) (v := .int (v 1)) (ty := .int) (C := RX1) (T := TX1) (N := 3) hx hb hts hin1 tyX1 tyX1_ok nmX1 hown hK hP (aD_D hD rfl) hS 0 rfl rfl 1 (by decide) hf13 (fun _ h9 => h9) rfl (by decide +kernel) rfl rfl (Nat.le_of_ble_eq_true rfl) dX1_becomeLike_13 (fun H locs hP _ hS => ?_)
  have hP : va_P D vwCl [(h0, neE (upd (upd w 0 (v 0)) 1 (v 1))), (h1, neE v)] H := hP
  refine lv_aload_n hx hb dX1_becomeLike_16 rfl (lv_at hl 0 rfl) ?_
  refine lv_aload_n hx hb dX1_becomeLike_17 rfl (lv_at hl 1 rfl) ?_
  have hf16 := hts (.fieldLink RX1 16 "CoracleMakers$Net" "caught" "I") (by decide +kernel)
  refine va_get (D := D) (ci := 1) (v := .int (v 2)) (C := RX1) (T := TX1) (N := 3) hx hb hts hin1 hown hK hP 1 rfl rfl 2 (by decide) hf16 (fun _ h9 => h9) rfl dX1_becomeLike_18 ?_
  refine va_put (D := D) (ci := 1) (v := .int (v 2)) (ty := .int) (C := RX1) (T := TX1) (N := 3) hx hb hts hin1 tyX1 tyX1_ok nmX1 hown hK hP (aD_D hD rfl) hS 0 rfl rfl 2 (by decide) hf16 (fun _ h9 => h9) rfl (by decide +kernel) rfl rfl (Nat.le_of_ble_eq_true rfl) dX1_becomeLike_21 (fun H locs hP _ hS => ?_)
  have hP : va_P D vwCl [(h0, neE (upd (upd (upd w 0 (v 0)) 1 (v 1)) 2 (v 2))), (h1, neE v)] H := hP
  subst hQ
  exact W.vret hx hb hr (fun t ht hW => ⟨⟨(), rfl, trivial, bp_at hK hN hP t ht hW⟩, hS.F ht⟩) hS.2.2 dX1_becomeLike_24
