/-! ===== River.becomeLike ===== -/
theorem ap_l {x z : va_W} {k : Nat} {q : Nat × va_E} (h : x[k]? = some q) : (x ++ z)[k]? = some q := by
  have hl := (List.getElem?_eq_some_iff.mp h).1
  rw [List.getElem?_append_left hl]; exact h
theorem ap_r {x z : va_W} {k o : Nat} {q : Nat × va_E} (ho : x.length = o) (h : z[k]? = some q) : (x ++ z)[o + k]? = some q := by
  rw [List.getElem?_append_right (by omega), ho, Nat.add_sub_cancel_left]; exact h
theorem ap_set_r {x z z2 : va_W} {k o : Nat} {q : Nat × va_E} (ho : x.length = o) (h : z.set k q = z2) : (x ++ z).set (o + k) q = x ++ z2 := by
  rw [List.set_append_right _ _ (by omega), ho, Nat.add_sub_cancel_left, h]
theorem ap_set_l {x z x2 : va_W} {k : Nat} {q : Nat × va_E} (hk : k < x.length) (h : x.set k q = x2) : (x ++ z).set k q = x2 ++ z := by
  rw [List.set_append_left _ _ hk, h]
theorem rv2_fst (y : Nat → ClassId) (ao ad : Nat → Nat) (X V : Nat → Nat → Int32) : (rvW y ao X ++ rvW y ad V).map Prod.fst = wa 14 ao ++ wa 14 ad := by rw [List.map_append, rv_fst, rv_fst]
/-- the callee had the cell k of the right part, and read the cell j of the left one -/
theorem fr_2 {D : va_G} {cl : List vw_C} {x z : va_W} {A : Nat → Prop} {H H1 : Heap} {k j a b : Nat} {e e' eb : va_E} (hP : va_P D cl (x ++ z) H) (hD : aD A (x.map Prod.fst ++ z.map Prod.fst)) (hz : z[k]? = some (a, e)) (hx : x[j]? = some (b, eb)) (hk : ∀ q : Nat, q < H.size → ¬ aA [a, b] H.size q → H1[q]? = H[q]?) (hP1 : va_P D cl [(a, e'), (b, eb)] H1) : va_P D cl (x ++ z.set k (a, e')) H1 := by
  have hDz := aD_r hD
  have hDx := aD_l hD
  have hkl := (List.getElem?_eq_some_iff.mp hz).1
  refine fr_P hP hk hP1 (fun q hq => ?_)
  rcases List.mem_append.mp hq with h | h
  · obtain ⟨i, hi⟩ := List.getElem?_of_mem h
    by_cases hb : q.1 = b
    · have hij := hDx.1 i j b (by rw [List.getElem?_map, hi]; exact congrArg some hb) (by rw [List.getElem?_map, hx]; rfl)
      subst hij
      rw [hi] at hx; cases hx
      exact Or.inl (List.mem_cons_of_mem _ List.mem_cons_self)
    · refine Or.inr ⟨List.mem_append_left _ h, fun hz2 => ?_⟩
      rcases List.mem_cons.mp hz2 with h1 | h1
      · exact aD_ne hD (in_fst h) (in_fst (List.mem_of_getElem? hz)) h1
      · exact hb (List.mem_singleton.mp h1)
  · obtain ⟨i, hi⟩ := List.getElem?_of_mem h
    rw [List.getElem?_set] at hi
    by_cases hki : k = i
    · rw [if_pos hki, if_pos (by omega)] at hi; cases hi
      exact Or.inl List.mem_cons_self
    · rw [if_neg hki] at hi
      refine Or.inr ⟨List.mem_append_right _ (List.mem_of_getElem? hi), fun hz2 => ?_⟩
      rcases List.mem_cons.mp hz2 with h1 | h1
      · exact hki (hDz.1 k i a (by rw [List.getElem?_map, hz]; rfl) (by rw [List.getElem?_map, hi]; exact congrArg some h1))
      · have h2 : q.1 ∈ z.map Prod.fst := in_fst (List.mem_of_getElem? hi)
        rw [List.mem_singleton.mp h1] at h2
        exact aD_ne hD (in_fst (List.mem_of_getElem? hx)) h2 rfl
theorem P_2 {D : va_G} {cl : List vw_C} {x z : va_W} {k j : Nat} {p q : Nat × va_E} {H : Heap} (hP : va_P D cl (x ++ z) H) (hz : z[k]? = some p) (hx : x[j]? = some q) : va_P D cl [p, q] H :=
  P_mem hP (fun r hr => (List.mem_cons.mp hr).elim (fun h => by rw [h]; exact List.mem_append_right _ (List.mem_of_getElem? hz)) (fun h => by rw [List.mem_singleton.mp h]; exact List.mem_append_left _ (List.mem_of_getElem? hx)))
theorem aD_2 {A : Nat → Prop} {x z : List Nat} {k j a b : Nat} (h : aD A (x ++ z)) (hz : z[k]? = some a) (hx : x[j]? = some b) : aD A [a, b] :=
  aD_app (x := [a]) (y := [b]) (aD_1 (aD_r h) hz) (aD_1 (aD_l h) hx) (fun p q hp hq => by
    rw [List.mem_singleton.mp hp, List.mem_singleton.mp hq]
    exact (aD_ne h (List.mem_of_getElem? hx) (List.mem_of_getElem? hz)).symm)
/-- the first i rows from 5 on as the other's -/
def bkI (i : Nat) (V X : Nat → Nat → Int32) : Nat → Nat → Int32 := fun j => if 5 ≤ j ∧ j < i + 5 then X j else V j
theorem bkI_0 (V X : Nat → Nat → Int32) : bkI 0 V X = V := by funext j; unfold bkI; rw [if_neg (by omega)]
theorem bkI_s (i : Nat) (V X : Nat → Nat → Int32) : va_up (bkI i V X) (i + 5) (X (i + 5)) = bkI (i + 1) V X := by
  funext j; unfold bkI va_up
  by_cases h1 : j = i + 5
  · subst h1; rw [if_pos rfl, if_pos (by omega)]
  · rw [if_neg h1]
    dsimp only
    by_cases h2 : 5 ≤ j ∧ j < i + 5
    · rw [if_pos h2, if_pos (by omega)]
    · rw [if_neg h2, if_neg (by omega)]
theorem bkI_at (i : Nat) (V X : Nat → Nat → Int32) {k : Nat} (h : k < i) : bkI i V X (k + 5) = X (k + 5) := by unfold bkI; rw [if_pos (by omega)]
theorem rv_congR {D : va_G} {x : va_W} {y : Nat → ClassId} {ad : Nat → Nat} {V X : Nat → Nat → Int32} {H : Heap} (h : rvQ V X) (hP : va_P D vwCl (x ++ rvW y ad V) H) : va_P D vwCl (x ++ rvW y ad X) H := va_P.app (P_l hP) (rv_cong h (P_r hP))
/-- all rows copied -/
theorem bk_end (V X : Nat → Nat → Int32) : rvQ (vU (vU (vU (vU (vU (vU (va_up (va_up (bkI (3 + 6) V X) 3 (va_cpy (X 3) (bkI (3 + 6) V X 3) 0 0 16)) 4 (va_cpy (X 4) (va_up (bkI (3 + 6) V X) 3 (va_cpy (X 3) (bkI (3 + 6) V X 3) 0 0 16) 4) 0 0 4)) 0 0 (X 0 0)) 0 1 (X 0 1)) 0 2 (X 0 2)) 0 3 (X 0 3)) 0 4 (X 0 4)) 0 5 (X 0 5)) X := by
  refine ⟨fun i hi => ?_, fun i hi => ?_, fun i hi => ?_, fun k hk i hi => ?_, fun k hk i hi => ?_⟩
  · simp only [vU_at]
    rcases (show i = 0 ∨ i = 1 ∨ i = 2 ∨ i = 3 ∨ i = 4 ∨ i = 5 by omega) with h | h | h | h | h | h <;> subst h <;> simp
  · simp only [vU_at]
    simp [va_up, va_cpy, hi]
  · simp only [vU_at]
    simp [va_up, va_cpy, hi]
  · simp only [vU_at]
    have h3 : ¬ k + 5 = 3 := by omega
    have h4 : ¬ k + 5 = 4 := by omega
    have h0 : ¬ k + 5 = 0 := by omega
    simp only [h0, false_and, if_false]
    rw [va_up_ne _ _ h4, va_up_ne _ _ h3, bkI_at _ _ _ (by omega)]
  · simp only [vU_at]
    have h3 : ¬ k + 11 = 3 := by omega
    have h4 : ¬ k + 11 = 4 := by omega
    have h0 : ¬ k + 11 = 0 := by omega
    simp only [h0, false_and, if_false]
    rw [va_up_ne _ _ h4, va_up_ne _ _ h3]
    exact congrFun (bkI_at (3 + 6) V X (k := k + 6) (by omega)) i
abbrev rmX2_becomeLike : Room := { frames := 1, cells := 0, slots := 0, locals := 48 }
set_option maxHeartbeats 4000000 in
set_option maxRecDepth 100000 in
/-- becomeLike(o): o is at ao -/
theorem c_X2_becomeLike (l : Launch) (D : va_G) (y : Nat → ClassId) (sz : Nat) (ao ad : Nat → Nat) (X V : Nat → Nat → Int32) (hI : rvI X) : WrV l D y yX2_becomeLike wsX2_becomeLike rmX2_becomeLike [.ref (ad 0), .ref (ao 0)] (rvW y ao X ++ rvW y ad V) sz (rvW y ao X ++ rvW y ad X) := by
  refine mW (fun A => va_Qv (fun (_ : Unit) => True) (fun _ t9 => Bp D y (rvW y ao X ++ rvW y ad X) t9) A) (C := RX2) (cc := cX2_becomeLike) (maxL := 3) (ret := none) (by decide) rfl rfl (Nat.le_of_ble_eq_true rfl) ?_
  intro p e s m a below meth c ls A Q hQ hsz hx hb hr hts hown hlocks hin hml hP hK hN hD hA hS hl
  have hl : lv_has ls 3 [(0, .ref (ad 0)), (1, .ref (ao 0))] := hl
  rw [rv2_fst] at hD
  refine lv_iconst (v := 0) hx hb dX2_becomeLike_0 (by decide) ?_
  refine lv_istore_n (lv' := [(2, .int 0), (0, .ref (ad 0)), (1, .ref (ao 0))]) hx hb dX2_becomeLike_1 rfl hl (by decide) rfl (fun ls hl => ?_)
  have hl : lv_has ls 3 [(2, .int (nI 0)), (0, .ref (ad 0)), (1, .ref (ao 0))] := hl
  have lb9 : ∀ (n i : Nat) (H : Heap) (locs : List Loc) (ls : Array Slot), 6 - i < n → i ≤ 6 → va_P D vwCl (rvW y ao X ++ rvW y ad (bkI i V X)) H → va_S A s.heap H locs → lv_has ls 3 [(0, .ref (ad 0)), (1, .ref (ao 0)), (2, .int (nI i))] → W p l e rmX2_becomeLike s m a below meth c H locs 0 0 Q (F0 m 2 ls []) := by
    intro n
    induction n with
    | zero => intro i H locs ls hn; exact absurd hn (Nat.not_lt_zero _)
    | succ n ih =>
      intro i H locs ls hn hi hP hS hl
      rcases Nat.lt_or_ge i 6 with hiN | hiN
      · refine lv_iload_n hx hb dX2_becomeLike_2 rfl (lv_at hl 2 rfl) ?_
        refine lv_bipush (v := 6) hx hb dX2_becomeLike_3 (by decide) ?_
        refine lv_icmp_ge (tgt := 29) hx hb dX2_becomeLike_5 (by decide) (fun c9 => absurd c9 (nI_ge hiN (by decide))) (fun _ => ?_)
        refine lv_aload_n hx hb dX2_becomeLike_8 rfl (lv_at hl 0 rfl) ?_
        have hin2 : ∀ w ∈ u_ws RX2 TX2 10, w ∈ wsX2_becomeLike := by decide +kernel
        have hf11 := hts (.fieldLink RX2 11 "CoracleMakers$River" "coracles" "[LCoracleMakers$Coracle;") (by decide +kernel)
        refine va_get (D := D) (ci := 2) (v := .ref (ad 1)) (C := RX2) (T := TX2) (N := 10) hx hb hts hin2 hown hK hP (14 + 0) (ap_r (wf_len 14 ao _) (wf_at (by decide) rfl)) rfl 0 (by decide) hf11 (fun _ h9 => h9) rfl dX2_becomeLike_9 ?_
        refine lv_iload_n hx hb dX2_becomeLike_12 rfl (lv_at hl 2 rfl) ?_
        refine va_aldq hx hb hK hP (14 + 1) 3 (ap_r (wf_len 14 ao _) (wf_at (by decide) rfl)) rfl (vp_in_nI hiN (by decide)) dX2_becomeLike_13 ?_
        rw [show (nI i).toNatClampNeg = i from (nI_clamp (by omega))]
        refine W.eq (g2 := F0 m 14 ls (.ref (ad (i + 5)) :: [])) rfl ?_
        refine lv_aload_n hx hb dX2_becomeLike_14 rfl (lv_at hl 1 rfl) ?_
        refine va_get (D := D) (ci := 2) (v := .ref (ao 1)) (C := RX2) (T := TX2) (N := 10) hx hb hts hin2 hown hK hP 0 (ap_l (wf_at (by decide) rfl)) rfl 0 (by decide) hf11 (fun _ h9 => h9) rfl dX2_becomeLike_15 ?_
        refine lv_iload_n hx hb dX2_becomeLike_18 rfl (lv_at hl 2 rfl) ?_
        refine va_aldq hx hb hK hP 1 3 (ap_l (wf_at (by decide) rfl)) rfl (vp_in_nI hiN (by decide)) dX2_becomeLike_19 ?_
        rw [show (nI i).toNatClampNeg = i from (nI_clamp (by omega))]
        refine W.eq (g2 := F0 m 20 ls (.ref (ao (i + 5)) :: .ref (ad (i + 5)) :: [])) rfl ?_
        refine cWV_V (As := [.ref (ao (i + 5))]) (rest := []) ⟨hx, hb, hml, hown, hts⟩ (c_X0_becomeLike l D y _ (ad (i + 5)) (ao (i + 5)) ((bkI i V X) (i + 5)) (X (i + 5)) (hI.1 i hiN).2) (cwV 1 hts gX2_becomeLike_X0_becomeLike rfl rfl rfl (by decide +kernel) ⟨Nat.le_of_ble_eq_true rfl, Nat.le_of_ble_eq_true rfl⟩) hK hN (P_2 hP (rv_co y ad (bkI i V X) hiN) (rv_co y ao X hiN)) (aD_2 hD (k := (i + 5)) (j := (i + 5)) (wa_at (by omega)) (wa_at (by omega))) hS hA (va_recv hK hP (ci := 0) (q0 := (14 + (i + 5))) rfl (ap_r (wf_len 14 ao _) (rv_co y ad (bkI i V X) hiN))) rfl hl.1 rfl (Nat.le_of_ble_eq_true rfl) dX2_becomeLike_20 ⟨Nat.le_of_ble_eq_true rfl, Nat.le_of_ble_eq_true rfl⟩ (fun H locs hP9 hk9 hS => ?_)
        have hP : va_P D vwCl (rvW y ao X ++ rvW y ad (va_up (bkI i V X) (i + 5) (X (i + 5)))) H := (rv_setC (X (i + 5)) hiN) ▸ fr_2 hP (by rw [rv_fst, rv_fst]; exact hD) (rv_co y ad (bkI i V X) hiN) (rv_co y ao X hiN) hk9 hP9
        have e9 : va_up (bkI i V X) (i + 5) (X (i + 5)) = (bkI (i + 1) V X) := bkI_s i V X
        rw [e9] at hP
        refine lv_iinc (v := nI (i + 1)) (lv' := [(2, .int (nI (i + 1))), (0, .ref (ad 0)), (1, .ref (ao 0))]) hx hb dX2_becomeLike_23 hl (k := 2) rfl (by first | rfl | exact (nI_1 i)) (by decide) rfl (fun ls hl => ?_)
        refine lv_goto (tgt := 2) hx hb dX2_becomeLike_26 (by decide) ?_
        exact ih (i + 1) _ _ _ (by omega) (by omega) hP hS (lv_sub hl [1, 2, 0] rfl)
      · have e9i : 6 = i := by omega
        subst e9i
        refine lv_iload_n hx hb dX2_becomeLike_2 rfl (lv_at hl 2 rfl) ?_
        refine lv_bipush (v := 6) hx hb dX2_becomeLike_3 (by decide) ?_
        refine lv_icmp_ge (tgt := 29) hx hb dX2_becomeLike_5 (by decide) (fun _ => ?_) (fun c9 => absurd (show (6 : Int32) ≤ nI 6 by decide) c9)
        refine lv_iconst (v := 0) hx hb dX2_becomeLike_29 (by decide) ?_
        refine lv_istore_n (lv' := [(2, .int 0), (0, .ref (ad 0)), (1, .ref (ao 0))]) hx hb dX2_becomeLike_30 rfl hl (by decide) rfl (fun ls hl => ?_)
        have hl : lv_has ls 3 [(2, .int (nI 0)), (0, .ref (ad 0)), (1, .ref (ao 0))] := hl
        have lb10 : ∀ (n i : Nat) (H : Heap) (locs : List Loc) (ls : Array Slot), 3 - i < n → i ≤ 3 → va_P D vwCl (rvW y ao X ++ rvW y ad (bkI (i + 6) V X)) H → va_S A s.heap H locs → lv_has ls 3 [(0, .ref (ad 0)), (1, .ref (ao 0)), (2, .int (nI i))] → W p l e rmX2_becomeLike s m a below meth c H locs 0 0 Q (F0 m 31 ls []) := by
          intro n
          induction n with
          | zero => intro i H locs ls hn; exact absurd hn (Nat.not_lt_zero _)
          | succ n ih =>
            intro i H locs ls hn hi hP hS hl
            rcases Nat.lt_or_ge i 3 with hiN | hiN
            · refine lv_iload_n hx hb dX2_becomeLike_31 rfl (lv_at hl 2 rfl) ?_
              refine lv_iconst (v := 3) hx hb dX2_becomeLike_32 (by decide) ?_
              refine lv_icmp_ge (tgt := 57) hx hb dX2_becomeLike_33 (by decide) (fun c9 => absurd c9 (nI_ge hiN (by decide))) (fun _ => ?_)
              refine lv_aload_n hx hb dX2_becomeLike_36 rfl (lv_at hl 0 rfl) ?_
              have hin2 : ∀ w ∈ u_ws RX2 TX2 10, w ∈ wsX2_becomeLike := by decide +kernel
              have hf19 := hts (.fieldLink RX2 19 "CoracleMakers$River" "nets" "[LCoracleMakers$Net;") (by decide +kernel)
              refine va_get (D := D) (ci := 2) (v := .ref (ad 2)) (C := RX2) (T := TX2) (N := 10) hx hb hts hin2 hown hK hP (14 + 0) (ap_r (wf_len 14 ao _) (wf_at (by decide) rfl)) rfl 1 (by decide) hf19 (fun _ h9 => h9) rfl dX2_becomeLike_37 ?_
              refine lv_iload_n hx hb dX2_becomeLike_40 rfl (lv_at hl 2 rfl) ?_
              refine va_aldq hx hb hK hP (14 + 2) 4 (ap_r (wf_len 14 ao _) (wf_at (by decide) rfl)) rfl (vp_in_nI hiN (by decide)) dX2_becomeLike_41 ?_
              rw [show (nI i).toNatClampNeg = i from (nI_clamp (by omega))]
              refine W.eq (g2 := F0 m 42 ls (.ref (ad (i + 11)) :: [])) rfl ?_
              refine lv_aload_n hx hb dX2_becomeLike_42 rfl (lv_at hl 1 rfl) ?_
              refine va_get (D := D) (ci := 2) (v := .ref (ao 2)) (C := RX2) (T := TX2) (N := 10) hx hb hts hin2 hown hK hP 0 (ap_l (wf_at (by decide) rfl)) rfl 1 (by decide) hf19 (fun _ h9 => h9) rfl dX2_becomeLike_43 ?_
              refine lv_iload_n hx hb dX2_becomeLike_46 rfl (lv_at hl 2 rfl) ?_
              refine va_aldq hx hb hK hP 2 4 (ap_l (wf_at (by decide) rfl)) rfl (vp_in_nI hiN (by decide)) dX2_becomeLike_47 ?_
              rw [show (nI i).toNatClampNeg = i from (nI_clamp (by omega))]
              refine W.eq (g2 := F0 m 48 ls (.ref (ao (i + 11)) :: .ref (ad (i + 11)) :: [])) rfl ?_
              refine cWV_V (As := [.ref (ao (i + 11))]) (rest := []) ⟨hx, hb, hml, hown, hts⟩ (c_X1_becomeLike l D y _ (ad (i + 11)) (ao (i + 11)) ((bkI (i + 6) V X) (i + 11)) (X (i + 11))) (cwV 1 hts gX2_becomeLike_X1_becomeLike rfl rfl rfl (by decide +kernel) ⟨Nat.le_of_ble_eq_true rfl, Nat.le_of_ble_eq_true rfl⟩) hK hN (P_2 hP (rv_ne y ad (bkI (i + 6) V X) hiN) (rv_ne y ao X hiN)) (aD_2 hD (k := (i + 11)) (j := (i + 11)) (wa_at (by omega)) (wa_at (by omega))) hS hA (va_recv hK hP (ci := 1) (q0 := (14 + (i + 11))) rfl (ap_r (wf_len 14 ao _) (rv_ne y ad (bkI (i + 6) V X) hiN))) rfl hl.1 rfl (Nat.le_of_ble_eq_true rfl) dX2_becomeLike_48 ⟨Nat.le_of_ble_eq_true rfl, Nat.le_of_ble_eq_true rfl⟩ (fun H locs hP9 hk9 hS => ?_)
              have hP : va_P D vwCl (rvW y ao X ++ rvW y ad (va_up (bkI (i + 6) V X) (i + 11) (X (i + 11)))) H := (rv_setN (X (i + 11))) ▸ fr_2 hP (by rw [rv_fst, rv_fst]; exact hD) (rv_ne y ad (bkI (i + 6) V X) hiN) (rv_ne y ao X hiN) hk9 hP9
              have e9 : va_up (bkI (i + 6) V X) (i + 11) (X (i + 11)) = (bkI ((i + 1) + 6) V X) := by rw [show i + 1 + 6 = i + 6 + 1 by omega]; exact bkI_s (i + 6) V X
              rw [e9] at hP
              refine lv_iinc (v := nI (i + 1)) (lv' := [(2, .int (nI (i + 1))), (0, .ref (ad 0)), (1, .ref (ao 0))]) hx hb dX2_becomeLike_51 hl (k := 2) rfl (by first | rfl | exact (nI_1 i)) (by decide) rfl (fun ls hl => ?_)
              refine lv_goto (tgt := 31) hx hb dX2_becomeLike_54 (by decide) ?_
              exact ih (i + 1) _ _ _ (by omega) (by omega) hP hS (lv_sub hl [1, 2, 0] rfl)
            · have e9i : 3 = i := by omega
              subst e9i
              refine lv_iload_n hx hb dX2_becomeLike_31 rfl (lv_at hl 2 rfl) ?_
              refine lv_iconst (v := 3) hx hb dX2_becomeLike_32 (by decide) ?_
              refine lv_icmp_ge (tgt := 57) hx hb dX2_becomeLike_33 (by decide) (fun _ => ?_) (fun c9 => absurd (show (3 : Int32) ≤ nI 3 by decide) c9)
              refine lv_aload_n hx hb dX2_becomeLike_57 rfl (lv_at hl 1 rfl) ?_
              have hin2 : ∀ w ∈ u_ws RX2 TX2 10, w ∈ wsX2_becomeLike := by decide +kernel
              have hf23 := hts (.fieldLink RX2 23 "CoracleMakers$River" "salmon" "[I") (by decide +kernel)
              refine va_get (D := D) (ci := 2) (v := .ref (ao 3)) (C := RX2) (T := TX2) (N := 10) hx hb hts hin2 hown hK hP 0 (ap_l (wf_at (by decide) rfl)) rfl 2 (by decide) hf23 (fun _ h9 => h9) rfl dX2_becomeLike_58 ?_
              refine lv_iconst (v := 0) hx hb dX2_becomeLike_61 (by decide) ?_
              refine lv_aload_n hx hb dX2_becomeLike_62 rfl (lv_at hl 0 rfl) ?_
              refine va_get (D := D) (ci := 2) (v := .ref (ad 3)) (C := RX2) (T := TX2) (N := 10) hx hb hts hin2 hown hK hP (14 + 0) (ap_r (wf_len 14 ao _) (wf_at (by decide) rfl)) rfl 2 (by decide) hf23 (fun _ h9 => h9) rfl dX2_becomeLike_63 ?_
              refine lv_iconst (v := 0) hx hb dX2_becomeLike_66 (by decide) ?_
              refine lv_bipush (v := 16) hx hb dX2_becomeLike_67 (by decide) ?_
              refine va_copyi hx hb (hml.trans hl.1.symm) hown (hts (.methodLink RX2 43 arraycopyName) (by decide +kernel)) (hts (.native arraycopyName) (by decide +kernel)) (hts (.static arraycopyName) (by decide +kernel)) (hts (.initialized "java/lang/System") (by decide +kernel)) hK hP (aD_D hD (rv2_fst y ao ad X (bkI (3 + 6) V X))) hS 3 (14 + 3) 0 0 (ty := .int) (ap_l (wf_at (by decide) rfl)) (ap_r (wf_len 14 ao _) (wf_at (by decide) rfl)) rfl rfl rfl (by decide) (by decide) (by decide) (by decide) (by decide) (fun _ _ => rfl) (Nat.le_of_ble_eq_true rfl) (Nat.le_of_ble_eq_true rfl) dX2_becomeLike_69 (fun H locs hP _ hS => ?_)
              obtain ⟨V20, hV20⟩ : ∃ z, z = va_up (bkI (3 + 6) V X) 3 (va_cpy (X 3) ((bkI (3 + 6) V X) 3) 0 0 16) := ⟨_, rfl⟩
              have hP : va_P D vwCl (rvW y ao X ++ rvW y ad V20) H := (by rw [hV20]; exact P_eq (ap_set_r (wf_len 14 ao _) (rv_set (k := 3) (va_cpy (X 3) ((bkI (3 + 6) V X) 3) 0 0 16) rfl)) hP)
              refine lv_aload_n hx hb dX2_becomeLike_72 rfl (lv_at hl 1 rfl) ?_
              have hf27 := hts (.fieldLink RX2 27 "CoracleMakers$River" "stores" "[I") (by decide +kernel)
              refine va_get (D := D) (ci := 2) (v := .ref (ao 4)) (C := RX2) (T := TX2) (N := 10) hx hb hts hin2 hown hK hP 0 (ap_l (wf_at (by decide) rfl)) rfl 3 (by decide) hf27 (fun _ h9 => h9) rfl dX2_becomeLike_73 ?_
              refine lv_iconst (v := 0) hx hb dX2_becomeLike_76 (by decide) ?_
              refine lv_aload_n hx hb dX2_becomeLike_77 rfl (lv_at hl 0 rfl) ?_
              refine va_get (D := D) (ci := 2) (v := .ref (ad 4)) (C := RX2) (T := TX2) (N := 10) hx hb hts hin2 hown hK hP (14 + 0) (ap_r (wf_len 14 ao _) (wf_at (by decide) rfl)) rfl 3 (by decide) hf27 (fun _ h9 => h9) rfl dX2_becomeLike_78 ?_
              refine lv_iconst (v := 0) hx hb dX2_becomeLike_81 (by decide) ?_
              refine lv_iconst (v := 4) hx hb dX2_becomeLike_82 (by decide) ?_
              refine va_copyi hx hb (hml.trans hl.1.symm) hown (hts (.methodLink RX2 43 arraycopyName) (by decide +kernel)) (hts (.native arraycopyName) (by decide +kernel)) (hts (.static arraycopyName) (by decide +kernel)) (hts (.initialized "java/lang/System") (by decide +kernel)) hK hP (aD_D hD (rv2_fst y ao ad X V20)) hS 4 (14 + 4) 0 0 (ty := .int) (ap_l (wf_at (by decide) rfl)) (ap_r (wf_len 14 ao _) (wf_at (by decide) rfl)) rfl rfl rfl (by decide) (by decide) (by decide) (by decide) (by decide) (fun _ _ => rfl) (Nat.le_of_ble_eq_true rfl) (Nat.le_of_ble_eq_true rfl) dX2_becomeLike_83 (fun H locs hP _ hS => ?_)
              obtain ⟨V21, hV21⟩ : ∃ z, z = va_up V20 4 (va_cpy (X 4) (V20 4) 0 0 4) := ⟨_, rfl⟩
              have hP : va_P D vwCl (rvW y ao X ++ rvW y ad V21) H := (by rw [hV21]; exact P_eq (ap_set_r (wf_len 14 ao _) (rv_set (k := 4) (va_cpy (X 4) (V20 4) 0 0 4) rfl)) hP)
              refine lv_aload_n hx hb dX2_becomeLike_86 rfl (lv_at hl 0 rfl) ?_
              refine lv_aload_n hx hb dX2_becomeLike_87 rfl (lv_at hl 1 rfl) ?_
              have hf49 := hts (.fieldLink RX2 49 "CoracleMakers$River" "hour" "I") (by decide +kernel)
              refine va_get (D := D) (ci := 2) (v := .int (X 0 0)) (C := RX2) (T := TX2) (N := 10) hx hb hts hin2 hown hK hP 0 (ap_l (wf_at (by decide) rfl)) rfl 4 (by decide) hf49 (fun _ h9 => h9) rfl dX2_becomeLike_88 ?_
              obtain ⟨V22, hV22⟩ : ∃ z, z = va_up V21 0 (upd (V21 0) 0 (X 0 0)) := ⟨_, rfl⟩
              refine va_put (D := D) (ci := 2) (v := .int (X 0 0)) (ty := .int) (C := RX2) (T := TX2) (N := 10) hx hb hts hin2 tyX2 tyX2_ok nmX2 hown hK hP (aD_D hD (rv2_fst y ao ad X V21)) hS (14 + 0) (ap_r (wf_len 14 ao _) (wf_at (by decide) rfl)) rfl 4 (by decide) hf49 (fun _ h9 => h9) rfl (by decide +kernel) rfl rfl (Nat.le_of_ble_eq_true rfl) dX2_becomeLike_91 (fun H locs hP _ hS => ?_)
              have hP : va_P D vwCl (rvW y ao X ++ rvW y ad V22) H := (by rw [hV22]; exact P_eq (ap_set_r (wf_len 14 ao _) (rv_set (k := 0) (upd (V21 0) 0 (X 0 0)) rfl)) hP)
              refine lv_aload_n hx hb dX2_becomeLike_94 rfl (lv_at hl 0 rfl) ?_
              refine lv_aload_n hx hb dX2_becomeLike_95 rfl (lv_at hl 1 rfl) ?_
              have hf30 := hts (.fieldLink RX2 30 "CoracleMakers$River" "coins" "I") (by decide +kernel)
              refine va_get (D := D) (ci := 2) (v := .int (X 0 1)) (C := RX2) (T := TX2) (N := 10) hx hb hts hin2 hown hK hP 0 (ap_l (wf_at (by decide) rfl)) rfl 5 (by decide) hf30 (fun _ h9 => h9) rfl dX2_becomeLike_96 ?_
              obtain ⟨V23, hV23⟩ : ∃ z, z = va_up V22 0 (upd (V22 0) 1 (X 0 1)) := ⟨_, rfl⟩
              refine va_put (D := D) (ci := 2) (v := .int (X 0 1)) (ty := .int) (C := RX2) (T := TX2) (N := 10) hx hb hts hin2 tyX2 tyX2_ok nmX2 hown hK hP (aD_D hD (rv2_fst y ao ad X V22)) hS (14 + 0) (ap_r (wf_len 14 ao _) (wf_at (by decide) rfl)) rfl 5 (by decide) hf30 (fun _ h9 => h9) rfl (by decide +kernel) rfl rfl (Nat.le_of_ble_eq_true rfl) dX2_becomeLike_99 (fun H locs hP _ hS => ?_)
              have hP : va_P D vwCl (rvW y ao X ++ rvW y ad V23) H := (by rw [hV23]; exact P_eq (ap_set_r (wf_len 14 ao _) (rv_set (k := 0) (upd (V22 0) 1 (X 0 1)) rfl)) hP)
              refine lv_aload_n hx hb dX2_becomeLike_102 rfl (lv_at hl 0 rfl) ?_
              refine lv_aload_n hx hb dX2_becomeLike_103 rfl (lv_at hl 1 rfl) ?_
              have hf52 := hts (.fieldLink RX2 52 "CoracleMakers$River" "made" "I") (by decide +kernel)
              refine va_get (D := D) (ci := 2) (v := .int (X 0 2)) (C := RX2) (T := TX2) (N := 10) hx hb hts hin2 hown hK hP 0 (ap_l (wf_at (by decide) rfl)) rfl 6 (by decide) hf52 (fun _ h9 => h9) rfl dX2_becomeLike_104 ?_
              obtain ⟨V24, hV24⟩ : ∃ z, z = va_up V23 0 (upd (V23 0) 2 (X 0 2)) := ⟨_, rfl⟩
              refine va_put (D := D) (ci := 2) (v := .int (X 0 2)) (ty := .int) (C := RX2) (T := TX2) (N := 10) hx hb hts hin2 tyX2 tyX2_ok nmX2 hown hK hP (aD_D hD (rv2_fst y ao ad X V23)) hS (14 + 0) (ap_r (wf_len 14 ao _) (wf_at (by decide) rfl)) rfl 6 (by decide) hf52 (fun _ h9 => h9) rfl (by decide +kernel) rfl rfl (Nat.le_of_ble_eq_true rfl) dX2_becomeLike_107 (fun H locs hP _ hS => ?_)
              have hP : va_P D vwCl (rvW y ao X ++ rvW y ad V24) H := (by rw [hV24]; exact P_eq (ap_set_r (wf_len 14 ao _) (rv_set (k := 0) (upd (V23 0) 2 (X 0 2)) rfl)) hP)
              refine lv_aload_n hx hb dX2_becomeLike_110 rfl (lv_at hl 0 rfl) ?_
              refine lv_aload_n hx hb dX2_becomeLike_111 rfl (lv_at hl 1 rfl) ?_
              have hf55 := hts (.fieldLink RX2 55 "CoracleMakers$River" "tied" "I") (by decide +kernel)
              refine va_get (D := D) (ci := 2) (v := .int (X 0 3)) (C := RX2) (T := TX2) (N := 10) hx hb hts hin2 hown hK hP 0 (ap_l (wf_at (by decide) rfl)) rfl 7 (by decide) hf55 (fun _ h9 => h9) rfl dX2_becomeLike_112 ?_
              obtain ⟨V25, hV25⟩ : ∃ z, z = va_up V24 0 (upd (V24 0) 3 (X 0 3)) := ⟨_, rfl⟩
              refine va_put (D := D) (ci := 2) (v := .int (X 0 3)) (ty := .int) (C := RX2) (T := TX2) (N := 10) hx hb hts hin2 tyX2 tyX2_ok nmX2 hown hK hP (aD_D hD (rv2_fst y ao ad X V24)) hS (14 + 0) (ap_r (wf_len 14 ao _) (wf_at (by decide) rfl)) rfl 7 (by decide) hf55 (fun _ h9 => h9) rfl (by decide +kernel) rfl rfl (Nat.le_of_ble_eq_true rfl) dX2_becomeLike_115 (fun H locs hP _ hS => ?_)
              have hP : va_P D vwCl (rvW y ao X ++ rvW y ad V25) H := (by rw [hV25]; exact P_eq (ap_set_r (wf_len 14 ao _) (rv_set (k := 0) (upd (V24 0) 3 (X 0 3)) rfl)) hP)
              refine lv_aload_n hx hb dX2_becomeLike_118 rfl (lv_at hl 0 rfl) ?_
              refine lv_aload_n hx hb dX2_becomeLike_119 rfl (lv_at hl 1 rfl) ?_
              have hf58 := hts (.fieldLink RX2 58 "CoracleMakers$River" "sold" "I") (by decide +kernel)
              refine va_get (D := D) (ci := 2) (v := .int (X 0 4)) (C := RX2) (T := TX2) (N := 10) hx hb hts hin2 hown hK hP 0 (ap_l (wf_at (by decide) rfl)) rfl 8 (by decide) hf58 (fun _ h9 => h9) rfl dX2_becomeLike_120 ?_
              obtain ⟨V26, hV26⟩ : ∃ z, z = va_up V25 0 (upd (V25 0) 4 (X 0 4)) := ⟨_, rfl⟩
              refine va_put (D := D) (ci := 2) (v := .int (X 0 4)) (ty := .int) (C := RX2) (T := TX2) (N := 10) hx hb hts hin2 tyX2 tyX2_ok nmX2 hown hK hP (aD_D hD (rv2_fst y ao ad X V25)) hS (14 + 0) (ap_r (wf_len 14 ao _) (wf_at (by decide) rfl)) rfl 8 (by decide) hf58 (fun _ h9 => h9) rfl (by decide +kernel) rfl rfl (Nat.le_of_ble_eq_true rfl) dX2_becomeLike_123 (fun H locs hP _ hS => ?_)
              have hP : va_P D vwCl (rvW y ao X ++ rvW y ad V26) H := (by rw [hV26]; exact P_eq (ap_set_r (wf_len 14 ao _) (rv_set (k := 0) (upd (V25 0) 4 (X 0 4)) rfl)) hP)
              refine lv_aload_n hx hb dX2_becomeLike_126 rfl (lv_at hl 0 rfl) ?_
              refine lv_aload_n hx hb dX2_becomeLike_127 rfl (lv_at hl 1 rfl) ?_
              have hf61 := hts (.fieldLink RX2 61 "CoracleMakers$River" "spawned" "I") (by decide +kernel)
              refine va_get (D := D) (ci := 2) (v := .int (X 0 5)) (C := RX2) (T := TX2) (N := 10) hx hb hts hin2 hown hK hP 0 (ap_l (wf_at (by decide) rfl)) rfl 9 (by decide) hf61 (fun _ h9 => h9) rfl dX2_becomeLike_128 ?_
              obtain ⟨V27, hV27⟩ : ∃ z, z = va_up V26 0 (upd (V26 0) 5 (X 0 5)) := ⟨_, rfl⟩
              refine va_put (D := D) (ci := 2) (v := .int (X 0 5)) (ty := .int) (C := RX2) (T := TX2) (N := 10) hx hb hts hin2 tyX2 tyX2_ok nmX2 hown hK hP (aD_D hD (rv2_fst y ao ad X V26)) hS (14 + 0) (ap_r (wf_len 14 ao _) (wf_at (by decide) rfl)) rfl 9 (by decide) hf61 (fun _ h9 => h9) rfl (by decide +kernel) rfl rfl (Nat.le_of_ble_eq_true rfl) dX2_becomeLike_131 (fun H locs hP _ hS => ?_)
              have hP : va_P D vwCl (rvW y ao X ++ rvW y ad V27) H := (by rw [hV27]; exact P_eq (ap_set_r (wf_len 14 ao _) (rv_set (k := 0) (upd (V26 0) 5 (X 0 5)) rfl)) hP)
              have hP : va_P D vwCl (rvW y ao X ++ rvW y ad X) H := rv_congR (by subst hV27 hV26 hV25 hV24 hV23 hV22 hV21 hV20; exact bk_end V X) hP
              subst hQ
              exact W.vret hx hb hr (fun t ht hW => ⟨⟨(), rfl, trivial, bp_at hK hN hP t ht hW⟩, hS.F ht⟩) hS.2.2 dX2_becomeLike_134
        exact lb10 4 0 _ _ ls (by omega) (by omega) hP hS (lv_sub hl [1, 2, 0] rfl)
  exact lb9 7 0 _ _ ls (by omega) (by omega) (by rw [bkI_0]; exact hP) hS (lv_sub hl [1, 2, 0] rfl)
