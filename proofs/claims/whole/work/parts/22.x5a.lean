/-! ===== the model: its small methods ===== -/
/-- the model's value when nothing is thrown -/
def th (F : Nat → Nat → Int32) : Nat → Nat → Int32 := vU F 0 0 0
def iiF (x a b : Int32) : Int32 := if x < a then 0 else if b < x then 0 else 1
theorem ii_B (x a b : Int32) : isB (iiF x a b) := by
  unfold iiF
  split
  · exact Or.inl rfl
  · split
    · exact Or.inl rfl
    · exact Or.inr rfl
theorem ii_in {x a b : Int32} {n : Nat} (h : ¬ iiF x a b = 0) (ha : 0 ≤ a.toInt) (hb : b.toInt + 1 = n) : vp_in x n := by
  unfold iiF at h
  by_cases h1 : x < a
  · rw [if_pos h1] at h; exact absurd rfl h
  · rw [if_neg h1] at h
    by_cases h2 : b < x
    · rw [if_pos h2] at h; exact absurd rfl h
    · exact nca (a := a) (b := b) (fun z => z.elim h1 h2) ha hb
theorem m1_I {x : Int32} {n : Nat} (h : vp_in x (n + 1)) (hn : n + 1 < 2 ^ 31) : (x - 1).toInt + 1 = ix x := by
  obtain ⟨j, hj, rfl⟩ := vp_in_of h hn
  rw [show ix (nI j) = j from nI_clamp (by omega)]
  cases j with
  | zero => rfl
  | succ i => rw [nI_pred, nI_toInt (by omega)]; omega
/-- isCoracle, isNet -/
theorem ic_in {x M : Int32} {n : Nat} (h : ¬ iiF x 0 (M - 1) = 0) (hM : vp_in M (n + 1)) (hn : n + 1 < 2 ^ 31) : vp_in x n :=
  in_mono (ii_in (n := ix M) h (by decide) (m1_I hM hn)) (Nat.le_of_lt_succ (in_ix hM))
def npF (F : Nat → Nat → Int32) (x : Int32) (n : Nat) : Int32 := if F 6 n = x then 1 else if F 7 n = x then 1 else 0
def noF (F : Nat → Nat → Int32) (x : Int32) : Int32 := fiN (npF F x) 0 (ix (F 0 2))
theorem fiN_r (p : Nat → Int32) : ∀ (n i N : Nat), n + i ≤ N → N < 2 ^ 31 → ¬ fiN p i n = -1 → vp_in (fiN p i n) N
  | 0, _, _, _, _, h => absurd rfl h
  | n + 1, i, N, h1, h2, h => by
    by_cases hp : p i = 0
    · rw [fiN_n hp] at h ⊢; exact fiN_r p n (i + 1) N (by omega) h2 h
    · rw [fiN_y hp]; exact vp_in_nI (by omega) h2
theorem no_in {F : Nat → Nat → Int32} {x : Int32} (hT : vp_in (F 0 2) 4) (h : ¬ noF F x = -1) : vp_in (noF F x) 3 := fiN_r _ _ 0 3 (by have := in_ix hT; omega) (by decide) h
def amF (U : Nat → Nat → Int32) (k : Nat) : Int32 := if U 7 k = 0 then (if U 2 k = 0 then 1 else 0) else 0
def maF (F : Nat → Nat → Int32) (x : Int32) : Int32 := if noF F x = -1 then -1 else F 6 (ix (noF F x)) + F 7 (ix (noF F x)) - x
def ctM (F U : Nat → Nat → Int32) (c x : Int32) : Int32 := if x = 0 then F 3 (ix c) else if x = 1 then F 4 (ix c) else if x = 2 then F 5 (ix c) else if x = 3 then U 2 (ix c) else if x = 4 then U 3 (ix c) else if x = 5 then U 4 (ix c) else if x = 6 then U 5 (ix c) else if x = 7 then U 6 (ix c) else if x = 8 then (if U 7 (ix c) = 0 then 1 else 0) else maF F c
def nuM (F U : Nat → Nat → Int32) (n : Nat) (x : Int32) : Int32 := if x = 0 then F 6 n else if x = 1 then F 7 n else if x = 2 then U 8 n else caM F U n
def arM (U : Nat → Nat → Int32) (r : Int32) (k : Nat) : Int32 := if U 7 k = 0 then (if U 2 k = r then 1 else 0) else 0
def rtM (F U : Nat → Nat → Int32) (r x : Int32) : Int32 := if x = 0 then U 1 (ix r) else smI (arM U r) (ix (F 0 1))
def alM (U : Nat → Nat → Int32) : Int32 := U 8 0 + U 8 1 + U 8 2
def stM (h b M : Int32) : Nat := if iiF h 0 7 = 0 then 1 else if iiF b 0 M = 0 then 2 else 0
/-- a call of the model's face: where cd is 0 it answers F and its world becomes W1 u for some u, else its world is Wt -/
abbrev MdI {S : Type} (l : Launch) (D : va_G) (y : Nat → ClassId) (yM : MethodName) (ws : List Cond) (rm : Room) (av : List Value) (W0 : va_W) (sz : Nat) (cd : Nat) (F : Int32) (W1 : S → va_W) (Wt : va_W) : Prop := Met l yM ws rm (va_Pc av (Bw D y W0 sz)) (va_Qi (fun r (_ : S) => cd = 0 → r = F) (fun u t => (cd = 0 → Bp D y (W1 u) t) ∧ (¬ cd = 0 → Bp D y Wt t)) (aW W0 sz)) 0 0 (aW W0 sz)
abbrev WrL (l : Launch) (D : va_G) (y : Nat → ClassId) (yM : MethodName) (ws : List Cond) (rm : Room) (av : List Value) (W0 : va_W) (sz : Nat) (F : Int64) (W1 : va_W) : Prop := Met l yM ws rm (va_Pc av (Bw D y W0 sz)) (va_Ql (fun r (_ : Unit) => r = F) (fun _ t => Bp D y W1 t) (aW W0 sz)) 0 0 (aW W0 sz)
abbrev WrD (l : Launch) (D : va_G) (y : Nat → ClassId) (yM : MethodName) (ws : List Cond) (rm : Room) (av : List Value) (W0 : va_W) (sz : Nat) (F : UInt64) (W1 : va_W) : Prop := Met l yM ws rm (va_Pc av (Bw D y W0 sz)) (va_Qd (fun r (_ : Unit) => r = F) (fun _ t => Bp D y W1 t) (aW W0 sz)) 0 0 (aW W0 sz)
section MDCALLS
variable {p : Program} {l : Launch} {e : Env} {R : Room} {s : State} {m : MethodId} {args : Array Value} {below : List Frame} {meth : Method} {c : Code} {H : Heap} {locs : List Loc} {cells slots : Nat} {Q : State → Prop}
variable {pc : Nat} {ls : Array Slot} {rest st0 As : List Value} {cc : ByteArray} {nL index maxL n : Nat} {ret : Option FieldType} {own C : String} {Ts ws : List Cond} {yM : MethodName} {bytes : ByteArray} {rm : Room} {b : Nat}
variable {D : va_G} {y : Nat → ClassId} {wc w1 : va_W} {A : Nat → Prop} {H0 : Heap}
theorem cMd_V {S : Type} {cd : Nat} {F : Int32} {W1 : S → va_W} {Wt : va_W} (S0 : CallFix p m c cc nL s args Ts own) (hM : MdI l D y yM ws rm (.ref b :: As) wc H.size cd F W1 Wt) (cw : CallW R s args own C index yM bytes maxL ret ws rm 0 0 n) (hK : va_K D vwCl (tyL y) s) (hN : NW s) (hP : va_P D vwCl wc H) (hDc : aD A (wc.map Prod.fst)) (hS : va_S A H0 H locs) (hA : ∀ q, H0.size ≤ q → A q) (hrecv : ∃ cell : Cell, H[b]? = some cell ∧ cell.vm.isStatics = false ∧ s.vm.findClass C = some cell.cls)
    (hn : As.length = n) (hsize : ls.size = nL) (hstack : st0 = As.reverse ++ .ref b :: rest) (hW : (rest.map fun v => v.category).sum ≤ 8) (hdg : decode cc pc = .ok (.invokevirtual index, 3)) (hf : cells + 0 ≤ R.cells ∧ slots + 0 ≤ R.slots)
    (kk : ∀ (r : Int32) (u : S) (H1 : Heap) (locs1 : List Loc), (cd = 0 → r = F) → (cd = 0 → va_P D vwCl (W1 u) H1) → (¬ cd = 0 → va_P D vwCl Wt H1) → (∀ q : Nat, q < H.size → ¬ aW wc H.size q → H1[q]? = H[q]?) → va_S A H0 H1 locs1 → W p l e R s m args below meth c H1 locs1 cells slots Q (F0 m (pc + 3) ls (.int r :: rest))) : W p l e R s m args below meth c H locs cells slots Q (F0 m pc ls st0) :=
  va_calli (va_runV S0 hM cw ⟨Bw.blind, hrecv, fun U hU hW => ⟨rfl, by rw [hU], bp_at hK hN hP U hU hW, aD_mono hDc (fun _ _ _ => trivial)⟩⟩ rfl hn hsize hstack (lv_room hW) hdg hf) hS (fun q _ h => aW_sub hDc hS hA (fun _ h => h) q h) (aW_sub hDc hS hA (fun _ h => h)) (fun r u t H1 locs1 ht hvm hw hB hz hk hS1 => kk r u H1 locs1 hw (fun h => by rw [← ht]; exact (hB.1 h).1) (fun h => by rw [← ht]; exact (hB.2 h).1) hk hS1)
theorem cWL_V {F : Int64} (S : CallFix p m c cc nL s args Ts own) (hM : WrL l D y yM ws rm (.ref b :: As) wc H.size F w1) (cw : CallW R s args own C index yM bytes maxL ret ws rm 0 0 n) (hK : va_K D vwCl (tyL y) s) (hN : NW s) (hP : va_P D vwCl wc H) (hDc : aD A (wc.map Prod.fst)) (hS : va_S A H0 H locs) (hA : ∀ q, H0.size ≤ q → A q) (hrecv : ∃ cell : Cell, H[b]? = some cell ∧ cell.vm.isStatics = false ∧ s.vm.findClass C = some cell.cls)
    (hn : As.length = n) (hsize : ls.size = nL) (hstack : st0 = As.reverse ++ .ref b :: rest) (hW : (rest.map fun v => v.category).sum ≤ 8) (hdg : decode cc pc = .ok (.invokevirtual index, 3)) (hf : cells + 0 ≤ R.cells ∧ slots + 0 ≤ R.slots)
    (kk : ∀ (H1 : Heap) (locs1 : List Loc), va_P D vwCl w1 H1 → (∀ q : Nat, q < H.size → ¬ aW wc H.size q → H1[q]? = H[q]?) → va_S A H0 H1 locs1 → W p l e R s m args below meth c H1 locs1 cells slots Q (F0 m (pc + 3) ls (.long F :: rest))) : W p l e R s m args below meth c H locs cells slots Q (F0 m pc ls st0) :=
  va_calll (va_runV S hM cw ⟨Bw.blind, hrecv, fun U hU hW => ⟨rfl, by rw [hU], bp_at hK hN hP U hU hW, aD_mono hDc (fun _ _ _ => trivial)⟩⟩ rfl hn hsize hstack (lv_room hW) hdg hf) hS (fun q _ h => aW_sub hDc hS hA (fun _ h => h) q h) (aW_sub hDc hS hA (fun _ h => h)) (fun r u t H1 locs1 ht hvm hw hB hz hk hS1 => by
    rw [hw]
    exact kk H1 locs1 (by rw [← ht]; exact hB.1) hk hS1)
theorem cWD_V {F : UInt64} (S : CallFix p m c cc nL s args Ts own) (hM : WrD l D y yM ws rm (.ref b :: As) wc H.size F w1) (cw : CallW R s args own C index yM bytes maxL ret ws rm 0 0 n) (hK : va_K D vwCl (tyL y) s) (hN : NW s) (hP : va_P D vwCl wc H) (hDc : aD A (wc.map Prod.fst)) (hS : va_S A H0 H locs) (hA : ∀ q, H0.size ≤ q → A q) (hrecv : ∃ cell : Cell, H[b]? = some cell ∧ cell.vm.isStatics = false ∧ s.vm.findClass C = some cell.cls)
    (hn : As.length = n) (hsize : ls.size = nL) (hstack : st0 = As.reverse ++ .ref b :: rest) (hW : (rest.map fun v => v.category).sum ≤ 8) (hdg : decode cc pc = .ok (.invokevirtual index, 3)) (hf : cells + 0 ≤ R.cells ∧ slots + 0 ≤ R.slots)
    (kk : ∀ (H1 : Heap) (locs1 : List Loc), va_P D vwCl w1 H1 → (∀ q : Nat, q < H.size → ¬ aW wc H.size q → H1[q]? = H[q]?) → va_S A H0 H1 locs1 → W p l e R s m args below meth c H1 locs1 cells slots Q (F0 m (pc + 3) ls (.double F :: rest))) : W p l e R s m args below meth c H locs cells slots Q (F0 m pc ls st0) :=
  va_calld (va_runV S hM cw ⟨Bw.blind, hrecv, fun U hU hW => ⟨rfl, by rw [hU], bp_at hK hN hP U hU hW, aD_mono hDc (fun _ _ _ => trivial)⟩⟩ rfl hn hsize hstack (lv_room hW) hdg hf) hS (fun q _ h => aW_sub hDc hS hA (fun _ h => h) q h) (aW_sub hDc hS hA (fun _ h => h)) (fun r u t H1 locs1 ht hvm hw hB hz hk hS1 => by
    rw [hw]
    exact kk H1 locs1 (by rw [← ht]; exact hB.1) hk hS1)
end MDCALLS
abbrev rmX5_thrown : Room := { frames := 0, cells := 0, slots := 0, locals := 0 }
set_option maxHeartbeats 4000000 in
set_option maxRecDepth 100000 in
/-- thrown() -/
theorem c_X5_thrown (l : Launch) (D : va_G) (y : Nat → ClassId) (am : Nat → Nat) (s0 a0 : Nat) (F : Nat → Nat → Int32) : RdI l D y yX5_thrown wsX5_thrown rmX5_thrown [.ref (am 0)] (moW y am s0 a0 F) (F 0 0) := by
  refine mR (C := RX5) (cc := cX5_thrown) (maxL := 1) (ret := (some .int)) (by decide) rfl rfl (Nat.le_of_ble_eq_true rfl) ?_
  intro p e s m a below meth c ls Q hQ hx hb hr hts hown hlocks hml hP hK hN hl
  have hl : lv_has ls 1 [(0, .ref (am 0))] := hl
  refine lv_aload_n hx hb dX5_thrown_0 rfl (lv_at hl 0 rfl) ?_
  have hin5 : ∀ w ∈ u_ws RX5 TX5 14, w ∈ wsX5_thrown := by decide +kernel
  have hf53 := hts (.fieldLink RX5 53 "CoracleMakersModel" "thrown" "I") (by decide +kernel)
  refine va_get (D := D) (ci := 5) (v := .int (F 0 0)) (C := RX5) (T := TX5) (N := 14) hx hb hts hin5 hown hK hP 0 (wf_at (by decide) rfl) rfl 0 (by decide) hf53 (fun _ h9 => h9) rfl dX5_thrown_1 ?_
  subst hQ
  exact W.iret (v := F 0 0) hx hb hr (fun t ht hW => ⟨_, rfl, rfl, ht⟩) (fun _ h => by cases h) dX5_thrown_4
abbrev rmX5_isIn : Room := { frames := 0, cells := 0, slots := 0, locals := 0 }
set_option maxHeartbeats 4000000 in
set_option maxRecDepth 100000 in
/-- isIn(x, lo, hi) -/
theorem c_X5_isIn (l : Launch) (D : va_G) (y : Nat → ClassId) (x lo hi : Int32) : RdI l D y yX5_isIn wsX5_isIn rmX5_isIn [.int x, .int lo, .int hi] ([]) (iiF x lo hi) := by
  refine mR (C := RX5) (cc := cX5_isIn) (maxL := 3) (ret := (some .boolean)) (by decide) rfl rfl (Nat.le_of_ble_eq_true rfl) ?_
  intro p e s m a below meth c ls Q hQ hx hb hr hts hown hlocks hml hP hK hN hl
  have hl : lv_has ls 3 [(0, .int x), (1, .int lo), (2, .int hi)] := hl
  refine lv_iload_n hx hb dX5_isIn_0 rfl (lv_at hl 0 rfl) ?_
  refine lv_iload_n hx hb dX5_isIn_1 rfl (lv_at hl 1 rfl) ?_
  refine lv_icmp_lt (tgt := 14) hx hb dX5_isIn_2 (by decide) (fun c_173 => ?_) (fun c_173 => ?_)
  · refine lv_iconst (v := 0) hx hb dX5_isIn_14 (by decide) ?_
    subst hQ
    exact W.zret (v := 0) hx hb hr rfl (fun t ht hW => ⟨_, rfl, (by simp [iiF, c_173]), ht⟩) (fun _ h => by cases h) dX5_isIn_15
  · refine lv_iload_n hx hb dX5_isIn_5 rfl (lv_at hl 0 rfl) ?_
    refine lv_iload_n hx hb dX5_isIn_6 rfl (lv_at hl 2 rfl) ?_
    refine lv_icmp_gt (tgt := 14) hx hb dX5_isIn_7 (by decide) (fun c_174 => ?_) (fun c_174 => ?_)
    · refine lv_iconst (v := 0) hx hb dX5_isIn_14 (by decide) ?_
      subst hQ
      exact W.zret (v := 0) hx hb hr rfl (fun t ht hW => ⟨_, rfl, (by simp [iiF, c_173, c_174]), ht⟩) (fun _ h => by cases h) dX5_isIn_15
    · refine lv_iconst (v := 1) hx hb dX5_isIn_10 (by decide) ?_
      refine lv_goto (tgt := 15) hx hb dX5_isIn_11 (by decide) ?_
      subst hQ
      exact W.zret (v := 1) hx hb hr rfl (fun t ht hW => ⟨_, rfl, (by simp [iiF, c_173, c_174]), ht⟩) (fun _ h => by cases h) dX5_isIn_15
abbrev rmX5_isCoracle : Room := { frames := 1, cells := 0, slots := 0, locals := 22 }
set_option maxHeartbeats 4000000 in
set_option maxRecDepth 100000 in
/-- isCoracle(x) -/
theorem c_X5_isCoracle (l : Launch) (D : va_G) (y : Nat → ClassId) (am : Nat → Nat) (s0 a0 : Nat) (F : Nat → Nat → Int32) (x : Int32) : RdI l D y yX5_isCoracle wsX5_isCoracle rmX5_isCoracle [.ref (am 0), .int x] (moW y am s0 a0 F) (iiF x 0 (F 0 1 - 1)) := by
  refine mR (C := RX5) (cc := cX5_isCoracle) (maxL := 2) (ret := (some .boolean)) (by decide) rfl rfl (Nat.le_of_ble_eq_true rfl) ?_
  intro p e s m a below meth c ls Q hQ hx hb hr hts hown hlocks hml hP hK hN hl
  have hl : lv_has ls 2 [(0, .ref (am 0)), (1, .int x)] := hl
  refine lv_iload_n hx hb dX5_isCoracle_0 rfl (lv_at hl 1 rfl) ?_
  refine lv_iconst (v := 0) hx hb dX5_isCoracle_1 (by decide) ?_
  refine lv_aload_n hx hb dX5_isCoracle_2 rfl (lv_at hl 0 rfl) ?_
  have hin5 : ∀ w ∈ u_ws RX5 TX5 14, w ∈ wsX5_isCoracle := by decide +kernel
  have hf56 := hts (.fieldLink RX5 56 "CoracleMakersModel" "coracles" "I") (by decide +kernel)
  refine va_get (D := D) (ci := 5) (v := .int (F 0 1)) (C := RX5) (T := TX5) (N := 14) hx hb hts hin5 hown hK hP 0 (wf_at (by decide) rfl) rfl 3 (by decide) hf56 (fun _ h9 => h9) rfl dX5_isCoracle_3 ?_
  refine lv_iconst (v := 1) hx hb dX5_isCoracle_6 (by decide) ?_
  refine lv_isub hx hb dX5_isCoracle_7 ?_
  refine cRI_S (As := [.int x, .int 0, .int ((F 0 1) - 1)]) (rest := []) ⟨hx, hb, hml, hown, hts⟩ (c_X5_isIn l D y x 0 ((F 0 1) - 1)) (va_cwS 3 hts gX5_isCoracle_X5_isIn rfl rfl rfl (by decide +kernel) ⟨Nat.le_of_ble_eq_true rfl, Nat.le_of_ble_eq_true rfl⟩) hK hN (P_nil D vwCl _) rfl hl.1 rfl (Nat.le_of_ble_eq_true rfl) dX5_isCoracle_8 ⟨Nat.le_of_ble_eq_true rfl, Nat.le_of_ble_eq_true rfl⟩ ?_
  subst hQ
  exact W.zret (v := iiF x 0 ((F 0 1) - 1)) hx hb hr (nb_z (ii_B _ _ _)) (fun t ht hW => ⟨_, rfl, rfl, ht⟩) (fun _ h => by cases h) dX5_isCoracle_11
abbrev rmX5_isNet : Room := { frames := 1, cells := 0, slots := 0, locals := 22 }
set_option maxHeartbeats 4000000 in
set_option maxRecDepth 100000 in
/-- isNet(x) -/
theorem c_X5_isNet (l : Launch) (D : va_G) (y : Nat → ClassId) (am : Nat → Nat) (s0 a0 : Nat) (F : Nat → Nat → Int32) (x : Int32) : RdI l D y yX5_isNet wsX5_isNet rmX5_isNet [.ref (am 0), .int x] (moW y am s0 a0 F) (iiF x 0 (F 0 2 - 1)) := by
  refine mR (C := RX5) (cc := cX5_isNet) (maxL := 2) (ret := (some .boolean)) (by decide) rfl rfl (Nat.le_of_ble_eq_true rfl) ?_
  intro p e s m a below meth c ls Q hQ hx hb hr hts hown hlocks hml hP hK hN hl
  have hl : lv_has ls 2 [(0, .ref (am 0)), (1, .int x)] := hl
  refine lv_iload_n hx hb dX5_isNet_0 rfl (lv_at hl 1 rfl) ?_
  refine lv_iconst (v := 0) hx hb dX5_isNet_1 (by decide) ?_
  refine lv_aload_n hx hb dX5_isNet_2 rfl (lv_at hl 0 rfl) ?_
  have hin5 : ∀ w ∈ u_ws RX5 TX5 14, w ∈ wsX5_isNet := by decide +kernel
  have hf63 := hts (.fieldLink RX5 63 "CoracleMakersModel" "nets" "I") (by decide +kernel)
  refine va_get (D := D) (ci := 5) (v := .int (F 0 2)) (C := RX5) (T := TX5) (N := 14) hx hb hts hin5 hown hK hP 0 (wf_at (by decide) rfl) rfl 7 (by decide) hf63 (fun _ h9 => h9) rfl dX5_isNet_3 ?_
  refine lv_iconst (v := 1) hx hb dX5_isNet_6 (by decide) ?_
  refine lv_isub hx hb dX5_isNet_7 ?_
  refine cRI_S (As := [.int x, .int 0, .int ((F 0 2) - 1)]) (rest := []) ⟨hx, hb, hml, hown, hts⟩ (c_X5_isIn l D y x 0 ((F 0 2) - 1)) (va_cwS 3 hts gX5_isNet_X5_isIn rfl rfl rfl (by decide +kernel) ⟨Nat.le_of_ble_eq_true rfl, Nat.le_of_ble_eq_true rfl⟩) hK hN (P_nil D vwCl _) rfl hl.1 rfl (Nat.le_of_ble_eq_true rfl) dX5_isNet_8 ⟨Nat.le_of_ble_eq_true rfl, Nat.le_of_ble_eq_true rfl⟩ ?_
  subst hQ
  exact W.zret (v := iiF x 0 ((F 0 2) - 1)) hx hb hr (nb_z (ii_B _ _ _)) (fun t ht hW => ⟨_, rfl, rfl, ht⟩) (fun _ h => by cases h) dX5_isNet_11
abbrev rmX5_no : Room := { frames := 0, cells := 0, slots := 0, locals := 0 }
set_option maxHeartbeats 4000000 in
set_option maxRecDepth 100000 in
/-- no(x) -/
theorem c_X5_no (l : Launch) (D : va_G) (y : Nat → ClassId) (sz : Nat) (am : Nat → Nat) (s0 a0 : Nat) (F : Nat → Nat → Int32) (x : Int32) : WrI l D y yX5_no wsX5_no rmX5_no [.ref (am 0), .int x] (moW y am s0 a0 F) sz 0 (moW y am s0 a0 (vU F 0 0 x)) := by
  refine mW (fun A => va_Qi (fun r (_ : Unit) => r = 0) (fun _ t9 => Bp D y (moW y am s0 a0 (vU F 0 0 x)) t9) A) (C := RX5) (cc := cX5_no) (maxL := 2) (ret := (some .int)) (by decide) rfl rfl (Nat.le_of_ble_eq_true rfl) ?_
  intro p e s m a below meth c ls A Q hQ hsz hx hb hr hts hown hlocks hin hml hP hK hN hD hA hS hl
  have hl : lv_has ls 2 [(0, .ref (am 0)), (1, .int x)] := hl
  rw [mo_fst] at hD
  refine lv_aload_n hx hb dX5_no_0 rfl (lv_at hl 0 rfl) ?_
  refine lv_iload_n hx hb dX5_no_1 rfl (lv_at hl 1 rfl) ?_
  have hin5 : ∀ w ∈ u_ws RX5 TX5 14, w ∈ wsX5_no := by decide +kernel
  have hf53 := hts (.fieldLink RX5 53 "CoracleMakersModel" "thrown" "I") (by decide +kernel)
  obtain ⟨F73, hF73⟩ : ∃ z, z = va_up F 0 (upd (F 0) 0 x) := ⟨_, rfl⟩
  refine va_put (D := D) (ci := 5) (v := .int x) (ty := .int) (C := RX5) (T := TX5) (N := 14) hx hb hts hin5 tyX5 tyX5_ok nmX5 hown hK hP (aD_D hD (show List.map Prod.fst (moW y am s0 a0 F) = _ from by rw [mo_fst y am _ _ _])) hS 0 (wf_at (by decide) rfl) rfl 0 (by decide) hf53 (fun _ h9 => h9) rfl (by decide +kernel) rfl rfl (Nat.le_of_ble_eq_true rfl) dX5_no_2 (fun H locs hP _ hS => ?_)
  have hP : va_P D vwCl (moW y am s0 a0 F73) H := (by rw [hF73]; exact P_eq (mo_set (k := 0) (upd (F 0) 0 x) (by decide) rfl) hP)
  refine lv_iconst (v := 0) hx hb dX5_no_5 (by decide) ?_
  have hP : va_P D vwCl (moW y am s0 a0 (vU F 0 0 x)) H := (by subst hF73; exact hP)
  subst hQ
  exact W.iret (v := 0) hx hb hr (fun t ht hW => ⟨⟨_, (), rfl, rfl, bp_at hK hN hP t ht hW⟩, hS.F ht⟩) hS.2.2 dX5_no_6
theorem np_0 {F : Nat → Nat → Int32} {x : Int32} {i : Nat} (h1 : ¬ F 6 i = x) (h2 : ¬ F 7 i = x) : npF F x i = 0 := by unfold npF; rw [if_neg h1, if_neg h2]
theorem np_1 {F : Nat → Nat → Int32} {x : Int32} {i : Nat} (h1 : F 6 i = x) : ¬ npF F x i = 0 := by unfold npF; rw [if_pos h1]; decide
theorem np_2 {F : Nat → Nat → Int32} {x : Int32} {i : Nat} (h1 : ¬ F 6 i = x) (h2 : F 7 i = x) : ¬ npF F x i = 0 := by unfold npF; rw [if_neg h1, if_pos h2]; decide
abbrev rmX5_netOf : Room := { frames := 0, cells := 0, slots := 0, locals := 0 }
set_option maxHeartbeats 4000000 in
set_option maxRecDepth 100000 in
/-- netOf(x) -/
theorem c_X5_netOf (l : Launch) (D : va_G) (y : Nat → ClassId) (am : Nat → Nat) (s0 a0 : Nat) (F : Nat → Nat → Int32) (x : Int32) (hT : vp_in (F 0 2) 4) : RdI l D y yX5_netOf wsX5_netOf rmX5_netOf [.ref (am 0), .int x] (moW y am s0 a0 F) (noF F x) := by
  refine mR (C := RX5) (cc := cX5_netOf) (maxL := 3) (ret := (some .int)) (by decide) rfl rfl (Nat.le_of_ble_eq_true rfl) ?_
  intro p e s m a below meth c ls Q hQ hx hb hr hts hown hlocks hml hP hK hN hl
  have hl : lv_has ls 3 [(0, .ref (am 0)), (1, .int x)] := hl
  have hT4 : ix (F 0 2) < 4 := in_ix hT
  refine lv_iconst (v := 0) hx hb dX5_netOf_0 (by decide) ?_
  refine lv_istore_n (lv' := [(2, .int 0), (0, .ref (am 0)), (1, .int x)]) hx hb dX5_netOf_1 rfl hl (by decide) rfl (fun ls hl => ?_)
  have hl : lv_has ls 3 [(2, .int (nI 0)), (0, .ref (am 0)), (1, .int x)] := hl
  have la9 : ∀ (n i : Nat) (ls : Array Slot), n + i = ix (F 0 2) → noF F x = fiN (npF F x) i n → lv_has ls 3 [(0, .ref (am 0)), (1, .int x), (2, .int (nI i))] → W p l e rmX5_netOf s m a below meth c s.heap [] 0 0 Q (F0 m 2 ls []) := by
    intro n
    induction n with
    | zero =>
      intro i ls hni hF9 hl
      have e9 : ix (F 0 2) = i := by omega
      subst e9
      refine lv_iload_n hx hb dX5_netOf_2 rfl (lv_at hl 2 rfl) ?_
      refine lv_aload_n hx hb dX5_netOf_3 rfl (lv_at hl 0 rfl) ?_
      have hin5 : ∀ w ∈ u_ws RX5 TX5 14, w ∈ wsX5_netOf := by decide +kernel
      have hf63 := hts (.fieldLink RX5 63 "CoracleMakersModel" "nets" "I") (by decide +kernel)
      refine va_get (D := D) (ci := 5) (v := .int (F 0 2)) (C := RX5) (T := TX5) (N := 14) hx hb hts hin5 hown hK hP 0 (wf_at (by decide) rfl) rfl 7 (by decide) hf63 (fun _ h9 => h9) rfl dX5_netOf_4 ?_
      refine lv_icmp_ge (tgt := 38) hx hb dX5_netOf_7 (by decide) (fun _ => ?_) (fun c9 => absurd (self_le hT (by decide)) c9)
      refine lv_iconst (v := (-1)) hx hb dX5_netOf_38 (by decide) ?_
      subst hQ
      exact W.iret (v := (-1)) hx hb hr (fun t ht hW => ⟨_, rfl, hF9.symm, ht⟩) (fun _ h => by cases h) dX5_netOf_39
    | succ n ih =>
      intro i ls hni hF9 hl
      have hiN : i < ix (F 0 2) := by omega
      have hi3 : i < 3 := by omega
      have ei : ix (nI i) = i := nI_clamp (by omega)
      refine lv_iload_n hx hb dX5_netOf_2 rfl (lv_at hl 2 rfl) ?_
      refine lv_aload_n hx hb dX5_netOf_3 rfl (lv_at hl 0 rfl) ?_
      have hin5 : ∀ w ∈ u_ws RX5 TX5 14, w ∈ wsX5_netOf := by decide +kernel
      have hf63 := hts (.fieldLink RX5 63 "CoracleMakersModel" "nets" "I") (by decide +kernel)
      refine va_get (D := D) (ci := 5) (v := .int (F 0 2)) (C := RX5) (T := TX5) (N := 14) hx hb hts hin5 hown hK hP 0 (wf_at (by decide) rfl) rfl 7 (by decide) hf63 (fun _ h9 => h9) rfl dX5_netOf_4 ?_
      refine lv_icmp_ge (tgt := 38) hx hb dX5_netOf_7 (by decide) (fun c9 => absurd c9 (self_gt hT (by decide) hiN)) (fun _ => ?_)
      refine lv_aload_n hx hb dX5_netOf_10 rfl (lv_at hl 0 rfl) ?_
      have hf25 := hts (.fieldLink RX5 25 "CoracleMakersModel" "first" "[I") (by decide +kernel)
      refine va_get (D := D) (ci := 5) (v := .ref (am 6)) (C := RX5) (T := TX5) (N := 14) hx hb hts hin5 hown hK hP 0 (wf_at (by decide) rfl) rfl 8 (by decide) hf25 (fun _ h9 => h9) rfl dX5_netOf_11 ?_
      refine lv_iload_n hx hb dX5_netOf_14 rfl (lv_at hl 2 rfl) ?_
      refine va_iald hx hb hK hP 6 0 (wf_at (by decide) rfl) rfl (vp_in_nI hi3 (by decide)) dX5_netOf_15 ?_
      rw [show (nI i).toNatClampNeg = i from ei]
      refine lv_iload_n hx hb dX5_netOf_16 rfl (lv_at hl 1 rfl) ?_
      refine lv_icmp_eq (tgt := 30) hx hb dX5_netOf_17 (by decide) (fun c_175 => ?_) (fun c_175 => ?_)
      · refine lv_iload_n hx hb dX5_netOf_30 rfl (lv_at hl 2 rfl) ?_
        subst hQ
        exact W.iret (v := nI i) hx hb hr (fun t ht hW => ⟨_, rfl, (hF9.trans (fiN_y (p := npF F x) (np_1 c_175))).symm, ht⟩) (fun _ h => by cases h) dX5_netOf_31
      · refine lv_aload_n hx hb dX5_netOf_20 rfl (lv_at hl 0 rfl) ?_
        have hf28 := hts (.fieldLink RX5 28 "CoracleMakersModel" "second" "[I") (by decide +kernel)
        refine va_get (D := D) (ci := 5) (v := .ref (am 7)) (C := RX5) (T := TX5) (N := 14) hx hb hts hin5 hown hK hP 0 (wf_at (by decide) rfl) rfl 9 (by decide) hf28 (fun _ h9 => h9) rfl dX5_netOf_21 ?_
        refine lv_iload_n hx hb dX5_netOf_24 rfl (lv_at hl 2 rfl) ?_
        refine va_iald hx hb hK hP 7 0 (wf_at (by decide) rfl) rfl (vp_in_nI hi3 (by decide)) dX5_netOf_25 ?_
        rw [show (nI i).toNatClampNeg = i from ei]
        refine lv_iload_n hx hb dX5_netOf_26 rfl (lv_at hl 1 rfl) ?_
        refine lv_icmp_ne (tgt := 32) hx hb dX5_netOf_27 (by decide) (fun c_176 => ?_) (fun c_176 => ?_)
        · refine lv_iinc (v := nI (i + 1)) (lv' := [(2, .int (nI (i + 1))), (0, .ref (am 0)), (1, .int x)]) hx hb dX5_netOf_32 hl (k := 2) rfl (by first | rfl | exact (nI_1 i)) (by decide) rfl (fun ls hl => ?_)
          refine lv_goto (tgt := 2) hx hb dX5_netOf_35 (by decide) ?_
          exact ih (i + 1) _ (by omega) (hF9.trans (fiN_n (p := npF F x) (np_0 c_175 c_176))) (lv_sub hl [1, 2, 0] rfl)
        · refine lv_iload_n hx hb dX5_netOf_30 rfl (lv_at hl 2 rfl) ?_
          subst hQ
          exact W.iret (v := nI i) hx hb hr (fun t ht hW => ⟨_, rfl, (hF9.trans (fiN_y (p := npF F x) (np_2 c_175 c_176))).symm, ht⟩) (fun _ h => by cases h) dX5_netOf_31
  exact la9 _ 0 ls (Nat.add_zero _) rfl (lv_sub hl [1, 2, 0] rfl)
abbrev rmX5_isAtMarket : Room := { frames := 0, cells := 0, slots := 0, locals := 0 }
set_option maxHeartbeats 4000000 in
set_option maxRecDepth 100000 in
/-- isAtMarket(x) -/
theorem c_X5_isAtMarket (l : Launch) (D : va_G) (y : Nat → ClassId) (am bs : Nat → Nat) (a0 : Nat) (F U : Nat → Nat → Int32) (x : Int32) (hx0 : vp_in x 6) : RdI l D y yX5_isAtMarket wsX5_isAtMarket rmX5_isAtMarket [.ref (am 0), .int x] (moW y am (bs 0) a0 F ++ stW y bs (am 0) U) (amF U (ix x)) := by
  refine mR (C := RX5) (cc := cX5_isAtMarket) (maxL := 2) (ret := (some .boolean)) (by decide) rfl rfl (Nat.le_of_ble_eq_true rfl) ?_
  intro p e s m a below meth c ls Q hQ hx hb hr hts hown hlocks hml hP hK hN hl
  have hl : lv_has ls 2 [(0, .ref (am 0)), (1, .int x)] := hl
  refine lv_aload_n hx hb dX5_isAtMarket_0 rfl (lv_at hl 0 rfl) ?_
  have hin5 : ∀ w ∈ u_ws RX5 TX5 14, w ∈ wsX5_isAtMarket := by decide +kernel
  have hf43 := hts (.fieldLink RX5 43 "CoracleMakersModel" "s" "LCoracleMakersModel$State;") (by decide +kernel)
  refine va_get (D := D) (ci := 5) (v := .ref (bs 0)) (C := RX5) (T := TX5) (N := 14) hx hb hts hin5 hown hK hP 0 (ap_l (wf_at (by decide) rfl)) rfl 12 (by decide) hf43 (fun _ h9 => h9) rfl dX5_isAtMarket_1 ?_
  have hin4 : ∀ w ∈ u_ws RX4 TX4 13, w ∈ wsX5_isAtMarket := by decide +kernel
  have hf90 : (Cond.fieldLinkNest RX5 90 "CoracleMakersModel$State" "hasSunk" "[Z" "CoracleMakersModel").before a s = true := va_Nw.use rfl (hN.1 _ (List.mem_of_getElem? (i := 8) rfl))
  refine va_getN (D := D) (ci := 4) (v := .ref (bs 7)) (C := RX4) (T := TX4) (N := 13) hx hb hts hin4 hown hK hP (9 + 0) (ap_r (wf_len 9 _ _) (wf_at (by decide) rfl)) rfl 10 (by decide) hf90 (fun _ h9 => h9) rfl dX5_isAtMarket_4 ?_
  refine lv_iload_n hx hb dX5_isAtMarket_7 rfl (lv_at hl 1 rfl) ?_
  refine va_zald hx hb hK hP (9 + 7) 1 (ap_r (wf_len 9 _ _) (wf_at (by decide) rfl)) rfl hx0 dX5_isAtMarket_8 ?_
  refine lv_if_ne (tgt := 28) hx hb dX5_isAtMarket_9 (by decide) (fun c_177 => ?_) (fun c_177 => ?_)
  · refine lv_iconst (v := 0) hx hb dX5_isAtMarket_28 (by decide) ?_
    subst hQ
    exact W.zret (v := 0) hx hb hr rfl (fun t ht hW => ⟨_, rfl, (by simp [amF, c_177]), ht⟩) (fun _ h => by cases h) dX5_isAtMarket_29
  · refine lv_aload_n hx hb dX5_isAtMarket_12 rfl (lv_at hl 0 rfl) ?_
    refine va_get (D := D) (ci := 5) (v := .ref (bs 0)) (C := RX5) (T := TX5) (N := 14) hx hb hts hin5 hown hK hP 0 (ap_l (wf_at (by decide) rfl)) rfl 12 (by decide) hf43 (fun _ h9 => h9) rfl dX5_isAtMarket_13 ?_
    have hf94 : (Cond.fieldLinkNest RX5 94 "CoracleMakersModel$State" "at" "[I" "CoracleMakersModel").before a s = true := va_Nw.use rfl (hN.1 _ (List.mem_of_getElem? (i := 3) rfl))
    refine va_getN (D := D) (ci := 4) (v := .ref (bs 2)) (C := RX4) (T := TX4) (N := 13) hx hb hts hin4 hown hK hP (9 + 0) (ap_r (wf_len 9 _ _) (wf_at (by decide) rfl)) rfl 5 (by decide) hf94 (fun _ h9 => h9) rfl dX5_isAtMarket_16 ?_
    refine lv_iload_n hx hb dX5_isAtMarket_19 rfl (lv_at hl 1 rfl) ?_
    refine va_iald hx hb hK hP (9 + 2) 0 (ap_r (wf_len 9 _ _) (wf_at (by decide) rfl)) rfl hx0 dX5_isAtMarket_20 ?_
    refine lv_if_ne (tgt := 28) hx hb dX5_isAtMarket_21 (by decide) (fun c_178 => ?_) (fun c_178 => ?_)
    · refine lv_iconst (v := 0) hx hb dX5_isAtMarket_28 (by decide) ?_
      subst hQ
      exact W.zret (v := 0) hx hb hr rfl (fun t ht hW => ⟨_, rfl, (by simp [amF, c_177, c_178]), ht⟩) (fun _ h => by cases h) dX5_isAtMarket_29
    · refine lv_iconst (v := 1) hx hb dX5_isAtMarket_24 (by decide) ?_
      refine lv_goto (tgt := 29) hx hb dX5_isAtMarket_25 (by decide) ?_
      subst hQ
      exact W.zret (v := 1) hx hb hr rfl (fun t ht hW => ⟨_, rfl, (by simp [amF, c_177, c_178]), ht⟩) (fun _ h => by cases h) dX5_isAtMarket_29
abbrev rmX5_mate : Room := { frames := 1, cells := 0, slots := 0, locals := 22 }
set_option maxHeartbeats 4000000 in
set_option maxRecDepth 100000 in
/-- mate(x) -/
theorem c_X5_mate (l : Launch) (D : va_G) (y : Nat → ClassId) (am : Nat → Nat) (s0 a0 : Nat) (F : Nat → Nat → Int32) (x : Int32) (hT : vp_in (F 0 2) 4) : RdI l D y yX5_mate wsX5_mate rmX5_mate [.ref (am 0), .int x] (moW y am s0 a0 F) (maF F x) := by
  refine mR (C := RX5) (cc := cX5_mate) (maxL := 3) (ret := (some .int)) (by decide) rfl rfl (Nat.le_of_ble_eq_true rfl) ?_
  intro p e s m a below meth c ls Q hQ hx hb hr hts hown hlocks hml hP hK hN hl
  have hl : lv_has ls 3 [(0, .ref (am 0)), (1, .int x)] := hl
  refine lv_aload_n hx hb dX5_mate_0 rfl (lv_at hl 0 rfl) ?_
  refine lv_iload_n hx hb dX5_mate_1 rfl (lv_at hl 1 rfl) ?_
  refine cRI_V (As := [.int x]) (rest := []) ⟨hx, hb, hml, hown, hts⟩ (c_X5_netOf l D y am s0 a0 F x hT) (cwV 1 hts gX5_mate_X5_netOf rfl rfl rfl (by decide +kernel) ⟨Nat.le_of_ble_eq_true rfl, Nat.le_of_ble_eq_true rfl⟩) hK hN hP (va_recv hK hP (ci := 5) (q0 := 0) rfl (wf_at (by decide) rfl)) rfl hl.1 rfl (Nat.le_of_ble_eq_true rfl) dX5_mate_2 ⟨Nat.le_of_ble_eq_true rfl, Nat.le_of_ble_eq_true rfl⟩ ?_
  refine lv_istore_n (lv' := [(2, .int (noF F x)), (0, .ref (am 0)), (1, .int x)]) hx hb dX5_mate_5 rfl hl (by decide) rfl (fun ls hl => ?_)
  refine lv_iload_n hx hb dX5_mate_6 rfl (lv_at hl 0 rfl) ?_
  refine lv_iconst (v := (-1)) hx hb dX5_mate_7 (by decide) ?_
  refine lv_icmp_ne (tgt := 15) hx hb dX5_mate_8 (by decide) (fun c_179 => ?_) (fun c_179 => ?_)
  · refine lv_aload_n hx hb dX5_mate_15 rfl (lv_at hl 1 rfl) ?_
    have hin5 : ∀ w ∈ u_ws RX5 TX5 14, w ∈ wsX5_mate := by decide +kernel
    have hf25 := hts (.fieldLink RX5 25 "CoracleMakersModel" "first" "[I") (by decide +kernel)
    refine va_get (D := D) (ci := 5) (v := .ref (am 6)) (C := RX5) (T := TX5) (N := 14) hx hb hts hin5 hown hK hP 0 (wf_at (by decide) rfl) rfl 8 (by decide) hf25 (fun _ h9 => h9) rfl dX5_mate_16 ?_
    refine lv_iload_n hx hb dX5_mate_19 rfl (lv_at hl 0 rfl) ?_
    refine va_iald hx hb hK hP 6 0 (wf_at (by decide) rfl) rfl (no_in hT c_179) dX5_mate_20 ?_
    refine lv_aload_n hx hb dX5_mate_21 rfl (lv_at hl 1 rfl) ?_
    have hf28 := hts (.fieldLink RX5 28 "CoracleMakersModel" "second" "[I") (by decide +kernel)
    refine va_get (D := D) (ci := 5) (v := .ref (am 7)) (C := RX5) (T := TX5) (N := 14) hx hb hts hin5 hown hK hP 0 (wf_at (by decide) rfl) rfl 9 (by decide) hf28 (fun _ h9 => h9) rfl dX5_mate_22 ?_
    refine lv_iload_n hx hb dX5_mate_25 rfl (lv_at hl 0 rfl) ?_
    refine va_iald hx hb hK hP 7 0 (wf_at (by decide) rfl) rfl (no_in hT c_179) dX5_mate_26 ?_
    refine lv_iadd hx hb dX5_mate_27 ?_
    refine lv_iload_n hx hb dX5_mate_28 rfl (lv_at hl 2 rfl) ?_
    refine lv_isub hx hb dX5_mate_29 ?_
    subst hQ
    exact W.iret (v := ((F 6 (ix (noF F x))) + (F 7 (ix (noF F x)))) - x) hx hb hr (fun t ht hW => ⟨_, rfl, (by unfold maF; rw [if_neg c_179]), ht⟩) (fun _ h => by cases h) dX5_mate_30
  · refine lv_iconst (v := (-1)) hx hb dX5_mate_11 (by decide) ?_
    refine lv_goto (tgt := 30) hx hb dX5_mate_12 (by decide) ?_
    subst hQ
    exact W.iret (v := (-1)) hx hb hr (fun t ht hW => ⟨_, rfl, (by unfold maF; rw [if_pos c_179]), ht⟩) (fun _ h => by cases h) dX5_mate_30
abbrev rmX5_coracleTold : Room := { frames := 2, cells := 0, slots := 0, locals := 44 }
set_option maxHeartbeats 4000000 in
set_option maxRecDepth 100000 in
/-- coracleTold(c, x) -/
theorem c_X5_coracleTold (l : Launch) (D : va_G) (y : Nat → ClassId) (am bs : Nat → Nat) (a0 : Nat) (F U : Nat → Nat → Int32) (xc x : Int32) (hx0 : vp_in xc 6) (hT : vp_in (F 0 2) 4) : RdI l D y yX5_coracleTold wsX5_coracleTold rmX5_coracleTold [.ref (am 0), .int xc, .int x] (moW y am (bs 0) a0 F ++ stW y bs (am 0) U) (ctM F U xc x) := by
  refine mR (C := RX5) (cc := cX5_coracleTold) (maxL := 3) (ret := (some .int)) (by decide) rfl rfl (Nat.le_of_ble_eq_true rfl) ?_
  intro p e s m a below meth c ls Q hQ hx hb hr hts hown hlocks hml hP hK hN hl
  have hl : lv_has ls 3 [(0, .ref (am 0)), (1, .int xc), (2, .int x)] := hl
  refine lv_iload_n hx hb dX5_coracleTold_0 rfl (lv_at hl 2 rfl) ?_
  by_cases c0 : x = 0
  · refine lv_tableIn (tgt := 52) hx hb dX5_coracleTold_1 (by rw [c0]; decide) (by rw [c0]; decide) (by rw [c0]; rfl) (by decide) ?_
    refine lv_aload_n hx hb dX5_coracleTold_52 rfl (lv_at hl 0 rfl) ?_
    have hin5 : ∀ w ∈ u_ws RX5 TX5 14, w ∈ wsX5_coracleTold := by decide +kernel
    have hf16 := hts (.fieldLink RX5 16 "CoracleMakersModel" "laths" "[I") (by decide +kernel)
    refine va_get (D := D) (ci := 5) (v := .ref (am 3)) (C := RX5) (T := TX5) (N := 14) hx hb hts hin5 hown hK hP 0 (ap_l (wf_at (by decide) rfl)) rfl 4 (by decide) hf16 (fun _ h9 => h9) rfl dX5_coracleTold_53 ?_
    refine lv_iload_n hx hb dX5_coracleTold_56 rfl (lv_at hl 1 rfl) ?_
    refine va_iald hx hb hK hP 3 0 (ap_l (wf_at (by decide) rfl)) rfl hx0 dX5_coracleTold_57 ?_
    subst hQ
    exact W.iret (v := F 3 (ix xc)) hx hb hr (fun t ht hW => ⟨_, rfl, (by simp [ctM, c0]), ht⟩) (fun _ h => by cases h) dX5_coracleTold_58
  by_cases c1 : x = 1
  · refine lv_tableIn (tgt := 59) hx hb dX5_coracleTold_1 (by rw [c1]; decide) (by rw [c1]; decide) (by rw [c1]; rfl) (by decide) ?_
    refine lv_aload_n hx hb dX5_coracleTold_59 rfl (lv_at hl 0 rfl) ?_
    have hin5 : ∀ w ∈ u_ws RX5 TX5 14, w ∈ wsX5_coracleTold := by decide +kernel
    have hf19 := hts (.fieldLink RX5 19 "CoracleMakersModel" "hide" "[I") (by decide +kernel)
    refine va_get (D := D) (ci := 5) (v := .ref (am 4)) (C := RX5) (T := TX5) (N := 14) hx hb hts hin5 hown hK hP 0 (ap_l (wf_at (by decide) rfl)) rfl 5 (by decide) hf19 (fun _ h9 => h9) rfl dX5_coracleTold_60 ?_
    refine lv_iload_n hx hb dX5_coracleTold_63 rfl (lv_at hl 1 rfl) ?_
    refine va_iald hx hb hK hP 4 0 (ap_l (wf_at (by decide) rfl)) rfl hx0 dX5_coracleTold_64 ?_
    subst hQ
    exact W.iret (v := F 4 (ix xc)) hx hb hr (fun t ht hW => ⟨_, rfl, (by simp [ctM, c0, c1]), ht⟩) (fun _ h => by cases h) dX5_coracleTold_65
  by_cases c2 : x = 2
  · refine lv_tableIn (tgt := 66) hx hb dX5_coracleTold_1 (by rw [c2]; decide) (by rw [c2]; decide) (by rw [c2]; rfl) (by decide) ?_
    refine lv_aload_n hx hb dX5_coracleTold_66 rfl (lv_at hl 0 rfl) ?_
    have hin5 : ∀ w ∈ u_ws RX5 TX5 14, w ∈ wsX5_coracleTold := by decide +kernel
    have hf22 := hts (.fieldLink RX5 22 "CoracleMakersModel" "skill" "[I") (by decide +kernel)
    refine va_get (D := D) (ci := 5) (v := .ref (am 5)) (C := RX5) (T := TX5) (N := 14) hx hb hts hin5 hown hK hP 0 (ap_l (wf_at (by decide) rfl)) rfl 6 (by decide) hf22 (fun _ h9 => h9) rfl dX5_coracleTold_67 ?_
    refine lv_iload_n hx hb dX5_coracleTold_70 rfl (lv_at hl 1 rfl) ?_
    refine va_iald hx hb hK hP 5 0 (ap_l (wf_at (by decide) rfl)) rfl hx0 dX5_coracleTold_71 ?_
    subst hQ
    exact W.iret (v := F 5 (ix xc)) hx hb hr (fun t ht hW => ⟨_, rfl, (by simp [ctM, c0, c1, c2]), ht⟩) (fun _ h => by cases h) dX5_coracleTold_72
  by_cases c3 : x = 3
  · refine lv_tableIn (tgt := 73) hx hb dX5_coracleTold_1 (by rw [c3]; decide) (by rw [c3]; decide) (by rw [c3]; rfl) (by decide) ?_
    refine lv_aload_n hx hb dX5_coracleTold_73 rfl (lv_at hl 0 rfl) ?_
    have hin5 : ∀ w ∈ u_ws RX5 TX5 14, w ∈ wsX5_coracleTold := by decide +kernel
    have hf43 := hts (.fieldLink RX5 43 "CoracleMakersModel" "s" "LCoracleMakersModel$State;") (by decide +kernel)
    refine va_get (D := D) (ci := 5) (v := .ref (bs 0)) (C := RX5) (T := TX5) (N := 14) hx hb hts hin5 hown hK hP 0 (ap_l (wf_at (by decide) rfl)) rfl 12 (by decide) hf43 (fun _ h9 => h9) rfl dX5_coracleTold_74 ?_
    have hin4 : ∀ w ∈ u_ws RX4 TX4 13, w ∈ wsX5_coracleTold := by decide +kernel
    have hf94 : (Cond.fieldLinkNest RX5 94 "CoracleMakersModel$State" "at" "[I" "CoracleMakersModel").before a s = true := va_Nw.use rfl (hN.1 _ (List.mem_of_getElem? (i := 3) rfl))
    refine va_getN (D := D) (ci := 4) (v := .ref (bs 2)) (C := RX4) (T := TX4) (N := 13) hx hb hts hin4 hown hK hP (9 + 0) (ap_r (wf_len 9 _ _) (wf_at (by decide) rfl)) rfl 5 (by decide) hf94 (fun _ h9 => h9) rfl dX5_coracleTold_77 ?_
    refine lv_iload_n hx hb dX5_coracleTold_80 rfl (lv_at hl 1 rfl) ?_
    refine va_iald hx hb hK hP (9 + 2) 0 (ap_r (wf_len 9 _ _) (wf_at (by decide) rfl)) rfl hx0 dX5_coracleTold_81 ?_
    subst hQ
    exact W.iret (v := U 2 (ix xc)) hx hb hr (fun t ht hW => ⟨_, rfl, (by simp [ctM, c0, c1, c2, c3]), ht⟩) (fun _ h => by cases h) dX5_coracleTold_82
  by_cases c4 : x = 4
  · refine lv_tableIn (tgt := 83) hx hb dX5_coracleTold_1 (by rw [c4]; decide) (by rw [c4]; decide) (by rw [c4]; rfl) (by decide) ?_
    refine lv_aload_n hx hb dX5_coracleTold_83 rfl (lv_at hl 0 rfl) ?_
    have hin5 : ∀ w ∈ u_ws RX5 TX5 14, w ∈ wsX5_coracleTold := by decide +kernel
    have hf43 := hts (.fieldLink RX5 43 "CoracleMakersModel" "s" "LCoracleMakersModel$State;") (by decide +kernel)
    refine va_get (D := D) (ci := 5) (v := .ref (bs 0)) (C := RX5) (T := TX5) (N := 14) hx hb hts hin5 hown hK hP 0 (ap_l (wf_at (by decide) rfl)) rfl 12 (by decide) hf43 (fun _ h9 => h9) rfl dX5_coracleTold_84 ?_
    have hin4 : ∀ w ∈ u_ws RX4 TX4 13, w ∈ wsX5_coracleTold := by decide +kernel
    have hf87 : (Cond.fieldLinkNest RX5 87 "CoracleMakersModel$State" "goal" "[I" "CoracleMakersModel").before a s = true := va_Nw.use rfl (hN.1 _ (List.mem_of_getElem? (i := 4) rfl))
    refine va_getN (D := D) (ci := 4) (v := .ref (bs 3)) (C := RX4) (T := TX4) (N := 13) hx hb hts hin4 hown hK hP (9 + 0) (ap_r (wf_len 9 _ _) (wf_at (by decide) rfl)) rfl 6 (by decide) hf87 (fun _ h9 => h9) rfl dX5_coracleTold_87 ?_
    refine lv_iload_n hx hb dX5_coracleTold_90 rfl (lv_at hl 1 rfl) ?_
    refine va_iald hx hb hK hP (9 + 3) 0 (ap_r (wf_len 9 _ _) (wf_at (by decide) rfl)) rfl hx0 dX5_coracleTold_91 ?_
    subst hQ
    exact W.iret (v := U 3 (ix xc)) hx hb hr (fun t ht hW => ⟨_, rfl, (by simp [ctM, c0, c1, c2, c3, c4]), ht⟩) (fun _ h => by cases h) dX5_coracleTold_92
  by_cases c5 : x = 5
  · refine lv_tableIn (tgt := 93) hx hb dX5_coracleTold_1 (by rw [c5]; decide) (by rw [c5]; decide) (by rw [c5]; rfl) (by decide) ?_
    refine lv_aload_n hx hb dX5_coracleTold_93 rfl (lv_at hl 0 rfl) ?_
    have hin5 : ∀ w ∈ u_ws RX5 TX5 14, w ∈ wsX5_coracleTold := by decide +kernel
    have hf43 := hts (.fieldLink RX5 43 "CoracleMakersModel" "s" "LCoracleMakersModel$State;") (by decide +kernel)
    refine va_get (D := D) (ci := 5) (v := .ref (bs 0)) (C := RX5) (T := TX5) (N := 14) hx hb hts hin5 hown hK hP 0 (ap_l (wf_at (by decide) rfl)) rfl 12 (by decide) hf43 (fun _ h9 => h9) rfl dX5_coracleTold_94 ?_
    have hin4 : ∀ w ∈ u_ws RX4 TX4 13, w ∈ wsX5_coracleTold := by decide +kernel
    have hf77 : (Cond.fieldLinkNest RX5 77 "CoracleMakersModel$State" "tar" "[I" "CoracleMakersModel").before a s = true := va_Nw.use rfl (hN.1 _ (List.mem_of_getElem? (i := 5) rfl))
    refine va_getN (D := D) (ci := 4) (v := .ref (bs 4)) (C := RX4) (T := TX4) (N := 13) hx hb hts hin4 hown hK hP (9 + 0) (ap_r (wf_len 9 _ _) (wf_at (by decide) rfl)) rfl 7 (by decide) hf77 (fun _ h9 => h9) rfl dX5_coracleTold_97 ?_
    refine lv_iload_n hx hb dX5_coracleTold_100 rfl (lv_at hl 1 rfl) ?_
    refine va_iald hx hb hK hP (9 + 4) 0 (ap_r (wf_len 9 _ _) (wf_at (by decide) rfl)) rfl hx0 dX5_coracleTold_101 ?_
    subst hQ
    exact W.iret (v := U 4 (ix xc)) hx hb hr (fun t ht hW => ⟨_, rfl, (by simp [ctM, c0, c1, c2, c3, c4, c5]), ht⟩) (fun _ h => by cases h) dX5_coracleTold_102
  by_cases c6 : x = 6
  · refine lv_tableIn (tgt := 103) hx hb dX5_coracleTold_1 (by rw [c6]; decide) (by rw [c6]; decide) (by rw [c6]; rfl) (by decide) ?_
    refine lv_aload_n hx hb dX5_coracleTold_103 rfl (lv_at hl 0 rfl) ?_
    have hin5 : ∀ w ∈ u_ws RX5 TX5 14, w ∈ wsX5_coracleTold := by decide +kernel
    have hf43 := hts (.fieldLink RX5 43 "CoracleMakersModel" "s" "LCoracleMakersModel$State;") (by decide +kernel)
    refine va_get (D := D) (ci := 5) (v := .ref (bs 0)) (C := RX5) (T := TX5) (N := 14) hx hb hts hin5 hown hK hP 0 (ap_l (wf_at (by decide) rfl)) rfl 12 (by decide) hf43 (fun _ h9 => h9) rfl dX5_coracleTold_104 ?_
    have hin4 : ∀ w ∈ u_ws RX4 TX4 13, w ∈ wsX5_coracleTold := by decide +kernel
    have hf100 : (Cond.fieldLinkNest RX5 100 "CoracleMakersModel$State" "water" "[I" "CoracleMakersModel").before a s = true := va_Nw.use rfl (hN.1 _ (List.mem_of_getElem? (i := 6) rfl))
    refine va_getN (D := D) (ci := 4) (v := .ref (bs 5)) (C := RX4) (T := TX4) (N := 13) hx hb hts hin4 hown hK hP (9 + 0) (ap_r (wf_len 9 _ _) (wf_at (by decide) rfl)) rfl 8 (by decide) hf100 (fun _ h9 => h9) rfl dX5_coracleTold_107 ?_
    refine lv_iload_n hx hb dX5_coracleTold_110 rfl (lv_at hl 1 rfl) ?_
    refine va_iald hx hb hK hP (9 + 5) 0 (ap_r (wf_len 9 _ _) (wf_at (by decide) rfl)) rfl hx0 dX5_coracleTold_111 ?_
    subst hQ
    exact W.iret (v := U 5 (ix xc)) hx hb hr (fun t ht hW => ⟨_, rfl, (by simp [ctM, c0, c1, c2, c3, c4, c5, c6]), ht⟩) (fun _ h => by cases h) dX5_coracleTold_112
  by_cases c7 : x = 7
  · refine lv_tableIn (tgt := 113) hx hb dX5_coracleTold_1 (by rw [c7]; decide) (by rw [c7]; decide) (by rw [c7]; rfl) (by decide) ?_
    refine lv_aload_n hx hb dX5_coracleTold_113 rfl (lv_at hl 0 rfl) ?_
    have hin5 : ∀ w ∈ u_ws RX5 TX5 14, w ∈ wsX5_coracleTold := by decide +kernel
    have hf43 := hts (.fieldLink RX5 43 "CoracleMakersModel" "s" "LCoracleMakersModel$State;") (by decide +kernel)
    refine va_get (D := D) (ci := 5) (v := .ref (bs 0)) (C := RX5) (T := TX5) (N := 14) hx hb hts hin5 hown hK hP 0 (ap_l (wf_at (by decide) rfl)) rfl 12 (by decide) hf43 (fun _ h9 => h9) rfl dX5_coracleTold_114 ?_
    have hin4 : ∀ w ∈ u_ws RX4 TX4 13, w ∈ wsX5_coracleTold := by decide +kernel
    have hf103 : (Cond.fieldLinkNest RX5 103 "CoracleMakersModel$State" "load" "[I" "CoracleMakersModel").before a s = true := va_Nw.use rfl (hN.1 _ (List.mem_of_getElem? (i := 7) rfl))
    refine va_getN (D := D) (ci := 4) (v := .ref (bs 6)) (C := RX4) (T := TX4) (N := 13) hx hb hts hin4 hown hK hP (9 + 0) (ap_r (wf_len 9 _ _) (wf_at (by decide) rfl)) rfl 9 (by decide) hf103 (fun _ h9 => h9) rfl dX5_coracleTold_117 ?_
    refine lv_iload_n hx hb dX5_coracleTold_120 rfl (lv_at hl 1 rfl) ?_
    refine va_iald hx hb hK hP (9 + 6) 0 (ap_r (wf_len 9 _ _) (wf_at (by decide) rfl)) rfl hx0 dX5_coracleTold_121 ?_
    subst hQ
    exact W.iret (v := U 6 (ix xc)) hx hb hr (fun t ht hW => ⟨_, rfl, (by simp [ctM, c0, c1, c2, c3, c4, c5, c6, c7]), ht⟩) (fun _ h => by cases h) dX5_coracleTold_122
  by_cases c8 : x = 8
  · refine lv_tableIn (tgt := 123) hx hb dX5_coracleTold_1 (by rw [c8]; decide) (by rw [c8]; decide) (by rw [c8]; rfl) (by decide) ?_
    refine lv_aload_n hx hb dX5_coracleTold_123 rfl (lv_at hl 0 rfl) ?_
    have hin5 : ∀ w ∈ u_ws RX5 TX5 14, w ∈ wsX5_coracleTold := by decide +kernel
    have hf43 := hts (.fieldLink RX5 43 "CoracleMakersModel" "s" "LCoracleMakersModel$State;") (by decide +kernel)
    refine va_get (D := D) (ci := 5) (v := .ref (bs 0)) (C := RX5) (T := TX5) (N := 14) hx hb hts hin5 hown hK hP 0 (ap_l (wf_at (by decide) rfl)) rfl 12 (by decide) hf43 (fun _ h9 => h9) rfl dX5_coracleTold_124 ?_
    have hin4 : ∀ w ∈ u_ws RX4 TX4 13, w ∈ wsX5_coracleTold := by decide +kernel
    have hf90 : (Cond.fieldLinkNest RX5 90 "CoracleMakersModel$State" "hasSunk" "[Z" "CoracleMakersModel").before a s = true := va_Nw.use rfl (hN.1 _ (List.mem_of_getElem? (i := 8) rfl))
    refine va_getN (D := D) (ci := 4) (v := .ref (bs 7)) (C := RX4) (T := TX4) (N := 13) hx hb hts hin4 hown hK hP (9 + 0) (ap_r (wf_len 9 _ _) (wf_at (by decide) rfl)) rfl 10 (by decide) hf90 (fun _ h9 => h9) rfl dX5_coracleTold_127 ?_
    refine lv_iload_n hx hb dX5_coracleTold_130 rfl (lv_at hl 1 rfl) ?_
    refine va_zald hx hb hK hP (9 + 7) 1 (ap_r (wf_len 9 _ _) (wf_at (by decide) rfl)) rfl hx0 dX5_coracleTold_131 ?_
    refine lv_if_eq (tgt := 139) hx hb dX5_coracleTold_132 (by decide) (fun c_180 => ?_) (fun c_180 => ?_)
    · refine lv_iconst (v := 1) hx hb dX5_coracleTold_139 (by decide) ?_
      subst hQ
      exact W.iret (v := 1) hx hb hr (fun t ht hW => ⟨_, rfl, (by simp [ctM, c0, c1, c2, c3, c4, c5, c6, c7, c8, c_180]), ht⟩) (fun _ h => by cases h) dX5_coracleTold_140
    · refine lv_iconst (v := 0) hx hb dX5_coracleTold_135 (by decide) ?_
      refine lv_goto (tgt := 140) hx hb dX5_coracleTold_136 (by decide) ?_
      subst hQ
      exact W.iret (v := 0) hx hb hr (fun t ht hW => ⟨_, rfl, (by simp [ctM, c0, c1, c2, c3, c4, c5, c6, c7, c8, c_180]), ht⟩) (fun _ h => by cases h) dX5_coracleTold_140
  refine lv_tableOut (tgt := 141) hx hb dX5_coracleTold_1 (sw_out x (n := 9) (by decide) (by decide) (fun j hj e => match j, hj, e with | 0, _, e => c0 e | 1, _, e => c1 e | 2, _, e => c2 e | 3, _, e => c3 e | 4, _, e => c4 e | 5, _, e => c5 e | 6, _, e => c6 e | 7, _, e => c7 e | 8, _, e => c8 e | j + 9, hj, _ => absurd hj (by omega))) (by decide) ?_
  refine lv_aload_n hx hb dX5_coracleTold_141 rfl (lv_at hl 0 rfl) ?_
  refine lv_iload_n hx hb dX5_coracleTold_142 rfl (lv_at hl 1 rfl) ?_
  refine cRI_V (As := [.int xc]) (rest := []) ⟨hx, hb, hml, hown, hts⟩ (c_X5_mate l D y am (bs 0) a0 F xc hT) (cwV 1 hts gX5_coracleTold_X5_mate rfl rfl rfl (by decide +kernel) ⟨Nat.le_of_ble_eq_true rfl, Nat.le_of_ble_eq_true rfl⟩) hK hN (P_l hP) (va_recv hK hP (ci := 5) (q0 := 0) rfl (ap_l (wf_at (by decide) rfl))) rfl hl.1 rfl (Nat.le_of_ble_eq_true rfl) dX5_coracleTold_143 ⟨Nat.le_of_ble_eq_true rfl, Nat.le_of_ble_eq_true rfl⟩ ?_
  subst hQ
  exact W.iret (v := maF F xc) hx hb hr (fun t ht hW => ⟨_, rfl, (by simp [ctM, c0, c1, c2, c3, c4, c5, c6, c7, c8]), ht⟩) (fun _ h => by cases h) dX5_coracleTold_146
abbrev rmX5_netTold : Room := { frames := 2, cells := 0, slots := 0, locals := 47 }
set_option maxHeartbeats 4000000 in
set_option maxRecDepth 100000 in
/-- netTold(n, x) -/
theorem c_X5_netTold (l : Launch) (D : va_G) (y : Nat → ClassId) (am bs : Nat → Nat) (a0 : Nat) (F U : Nat → Nat → Int32) (n x : Int32) (hx0 : vp_in n 3) (hF : ∀ n, n < 3 → vp_in (F 6 n) 6 ∧ vp_in (F 7 n) 6) (hA9 : ∀ k, k < 6 → vp_in (U 2 k) 16) : RdI l D y yX5_netTold wsX5_netTold rmX5_netTold [.ref (am 0), .int n, .int x] (moW y am (bs 0) a0 F ++ stW y bs (am 0) U) (nuM F U (ix n) x) := by
  refine mR (C := RX5) (cc := cX5_netTold) (maxL := 3) (ret := (some .int)) (by decide) rfl rfl (Nat.le_of_ble_eq_true rfl) ?_
  intro p e s m a below meth c ls Q hQ hx hb hr hts hown hlocks hml hP hK hN hl
  have hl : lv_has ls 3 [(0, .ref (am 0)), (1, .int n), (2, .int x)] := hl
  refine lv_iload_n hx hb dX5_netTold_0 rfl (lv_at hl 2 rfl) ?_
  refine lv_if_ne (tgt := 13) hx hb dX5_netTold_1 (by decide) (fun c_181 => ?_) (fun c_181 => ?_)
  · refine lv_iload_n hx hb dX5_netTold_13 rfl (lv_at hl 2 rfl) ?_
    refine lv_iconst (v := 1) hx hb dX5_netTold_14 (by decide) ?_
    refine lv_icmp_ne (tgt := 27) hx hb dX5_netTold_15 (by decide) (fun c_182 => ?_) (fun c_182 => ?_)
    · refine lv_iload_n hx hb dX5_netTold_27 rfl (lv_at hl 2 rfl) ?_
      refine lv_iconst (v := 2) hx hb dX5_netTold_28 (by decide) ?_
      refine lv_icmp_ne (tgt := 44) hx hb dX5_netTold_29 (by decide) (fun c_183 => ?_) (fun c_183 => ?_)
      · refine lv_aload_n hx hb dX5_netTold_44 rfl (lv_at hl 0 rfl) ?_
        have hin5 : ∀ w ∈ u_ws RX5 TX5 14, w ∈ wsX5_netTold := by decide +kernel
        have hf43 := hts (.fieldLink RX5 43 "CoracleMakersModel" "s" "LCoracleMakersModel$State;") (by decide +kernel)
        refine va_get (D := D) (ci := 5) (v := .ref (bs 0)) (C := RX5) (T := TX5) (N := 14) hx hb hts hin5 hown hK hP 0 (ap_l (wf_at (by decide) rfl)) rfl 12 (by decide) hf43 (fun _ h9 => h9) rfl dX5_netTold_45 ?_
        refine lv_iload_n hx hb dX5_netTold_48 rfl (lv_at hl 1 rfl) ?_
        refine cRI_V (As := [.int n]) (rest := []) ⟨hx, hb, hml, hown, hts⟩ (c_X4_catches l D y am bs (bs 0) a0 F U n hx0 hF hA9) (cwV 1 hts gX5_netTold_X4_catches rfl rfl rfl (by decide +kernel) ⟨Nat.le_of_ble_eq_true rfl, Nat.le_of_ble_eq_true rfl⟩) hK hN hP (va_recv hK hP (ci := 4) (q0 := (9 + 0)) rfl (ap_r (wf_len 9 _ _) (wf_at (by decide) rfl))) rfl hl.1 rfl (Nat.le_of_ble_eq_true rfl) dX5_netTold_49 ⟨Nat.le_of_ble_eq_true rfl, Nat.le_of_ble_eq_true rfl⟩ ?_
        subst hQ
        exact W.iret (v := caM F U (ix n)) hx hb hr (fun t ht hW => ⟨_, rfl, (by simp [nuM, c_181, c_182, c_183]), ht⟩) (fun _ h => by cases h) dX5_netTold_52
      · refine lv_aload_n hx hb dX5_netTold_32 rfl (lv_at hl 0 rfl) ?_
        have hin5 : ∀ w ∈ u_ws RX5 TX5 14, w ∈ wsX5_netTold := by decide +kernel
        have hf43 := hts (.fieldLink RX5 43 "CoracleMakersModel" "s" "LCoracleMakersModel$State;") (by decide +kernel)
        refine va_get (D := D) (ci := 5) (v := .ref (bs 0)) (C := RX5) (T := TX5) (N := 14) hx hb hts hin5 hown hK hP 0 (ap_l (wf_at (by decide) rfl)) rfl 12 (by decide) hf43 (fun _ h9 => h9) rfl dX5_netTold_33 ?_
        have hin4 : ∀ w ∈ u_ws RX4 TX4 13, w ∈ wsX5_netTold := by decide +kernel
        have hf116 : (Cond.fieldLinkNest RX5 116 "CoracleMakersModel$State" "caught" "[I" "CoracleMakersModel").before a s = true := va_Nw.use rfl (hN.1 _ (List.mem_of_getElem? (i := 9) rfl))
        refine va_getN (D := D) (ci := 4) (v := .ref (bs 8)) (C := RX4) (T := TX4) (N := 13) hx hb hts hin4 hown hK hP (9 + 0) (ap_r (wf_len 9 _ _) (wf_at (by decide) rfl)) rfl 11 (by decide) hf116 (fun _ h9 => h9) rfl dX5_netTold_36 ?_
        refine lv_iload_n hx hb dX5_netTold_39 rfl (lv_at hl 1 rfl) ?_
        refine va_iald hx hb hK hP (9 + 8) 0 (ap_r (wf_len 9 _ _) (wf_at (by decide) rfl)) rfl hx0 dX5_netTold_40 ?_
        refine lv_goto (tgt := 52) hx hb dX5_netTold_41 (by decide) ?_
        subst hQ
        exact W.iret (v := U 8 (ix n)) hx hb hr (fun t ht hW => ⟨_, rfl, (by simp [nuM, c_181, c_182, c_183]), ht⟩) (fun _ h => by cases h) dX5_netTold_52
    · refine lv_aload_n hx hb dX5_netTold_18 rfl (lv_at hl 0 rfl) ?_
      have hin5 : ∀ w ∈ u_ws RX5 TX5 14, w ∈ wsX5_netTold := by decide +kernel
      have hf28 := hts (.fieldLink RX5 28 "CoracleMakersModel" "second" "[I") (by decide +kernel)
      refine va_get (D := D) (ci := 5) (v := .ref (am 7)) (C := RX5) (T := TX5) (N := 14) hx hb hts hin5 hown hK hP 0 (ap_l (wf_at (by decide) rfl)) rfl 9 (by decide) hf28 (fun _ h9 => h9) rfl dX5_netTold_19 ?_
      refine lv_iload_n hx hb dX5_netTold_22 rfl (lv_at hl 1 rfl) ?_
      refine va_iald hx hb hK hP 7 0 (ap_l (wf_at (by decide) rfl)) rfl hx0 dX5_netTold_23 ?_
      refine lv_goto (tgt := 52) hx hb dX5_netTold_24 (by decide) ?_
      subst hQ
      exact W.iret (v := F 7 (ix n)) hx hb hr (fun t ht hW => ⟨_, rfl, (by simp [nuM, c_181, c_182]), ht⟩) (fun _ h => by cases h) dX5_netTold_52
  · refine lv_aload_n hx hb dX5_netTold_4 rfl (lv_at hl 0 rfl) ?_
    have hin5 : ∀ w ∈ u_ws RX5 TX5 14, w ∈ wsX5_netTold := by decide +kernel
    have hf25 := hts (.fieldLink RX5 25 "CoracleMakersModel" "first" "[I") (by decide +kernel)
    refine va_get (D := D) (ci := 5) (v := .ref (am 6)) (C := RX5) (T := TX5) (N := 14) hx hb hts hin5 hown hK hP 0 (ap_l (wf_at (by decide) rfl)) rfl 8 (by decide) hf25 (fun _ h9 => h9) rfl dX5_netTold_5 ?_
    refine lv_iload_n hx hb dX5_netTold_8 rfl (lv_at hl 1 rfl) ?_
    refine va_iald hx hb hK hP 6 0 (ap_l (wf_at (by decide) rfl)) rfl hx0 dX5_netTold_9 ?_
    refine lv_goto (tgt := 52) hx hb dX5_netTold_10 (by decide) ?_
    subst hQ
    exact W.iret (v := F 6 (ix n)) hx hb hr (fun t ht hW => ⟨_, rfl, (by simp [nuM, c_181]), ht⟩) (fun _ h => by cases h) dX5_netTold_52
abbrev rmX5_reachTold : Room := { frames := 0, cells := 0, slots := 0, locals := 0 }
set_option maxHeartbeats 4000000 in
set_option maxRecDepth 100000 in
/-- reachTold(r9, x) -/
theorem c_X5_reachTold (l : Launch) (D : va_G) (y : Nat → ClassId) (am bs : Nat → Nat) (a0 : Nat) (F U : Nat → Nat → Int32) (xr x : Int32) (hx0 : vp_in xr 16) (hC : vp_in (F 0 1) 7) : RdI l D y yX5_reachTold wsX5_reachTold rmX5_reachTold [.ref (am 0), .int xr, .int x] (moW y am (bs 0) a0 F ++ stW y bs (am 0) U) (rtM F U xr x) := by
  refine mR (C := RX5) (cc := cX5_reachTold) (maxL := 5) (ret := (some .int)) (by decide) rfl rfl (Nat.le_of_ble_eq_true rfl) ?_
  intro p e s m a below meth c ls Q hQ hx hb hr hts hown hlocks hml hP hK hN hl
  have hl : lv_has ls 5 [(0, .ref (am 0)), (1, .int xr), (2, .int x)] := hl
  refine lv_iload_n hx hb dX5_reachTold_0 rfl (lv_at hl 2 rfl) ?_
  refine lv_if_ne (tgt := 14) hx hb dX5_reachTold_1 (by decide) (fun c_184 => ?_) (fun c_184 => ?_)
  · have hC7 : ix (F 0 1) < 7 := in_ix hC
    refine lv_iconst (v := 0) hx hb dX5_reachTold_14 (by decide) ?_
    refine lv_istore_n (lv' := [(3, .int 0), (0, .ref (am 0)), (1, .int xr), (2, .int x)]) hx hb dX5_reachTold_15 rfl hl (by decide) rfl (fun ls hl => ?_)
    refine lv_iconst (v := 0) hx hb dX5_reachTold_16 (by decide) ?_
    refine lv_istore (lv' := [(4, .int 0), (3, .int 0), (0, .ref (am 0)), (1, .int xr), (2, .int x)]) hx hb dX5_reachTold_17 hl (by decide) rfl (fun ls hl => ?_)
    have hl : lv_has ls 5 [(4, .int 0), (3, .int (smI (arM U xr) 0)), (0, .ref (am 0)), (1, .int xr), (2, .int x)] := hl
    have hl : lv_has ls 5 [(4, .int (nI 0)), (3, .int (smI (arM U xr) 0)), (0, .ref (am 0)), (1, .int xr), (2, .int x)] := hl
    have ly31 : ∀ (ni i : Nat) (ls : Array Slot), (ix (F 0 1)) - i < ni → i ≤ (ix (F 0 1)) → lv_has ls 5 [(0, .ref (am 0)), (1, .int xr), (3, .int (smI (arM U xr) i)), (4, .int (nI i))] → W p l e rmX5_reachTold s m a below meth c s.heap [] 0 0 Q (F0 m 19 ls ([])) := by
      intro ni
      induction ni with
      | zero => intro i ls hn; exact absurd hn (Nat.not_lt_zero _)
      | succ ni ihi =>
        intro i ls hni hii hl
        rcases Nat.lt_or_ge i (ix (F 0 1)) with hiN | hiN
        · have hi9 : i < 6 := by omega
          have ei : ix (nI i) = i := nI_clamp (by omega)
          refine lv_iload hx hb dX5_reachTold_19 (lv_at hl 3 rfl) ?_
          refine lv_aload_n hx hb dX5_reachTold_21 rfl (lv_at hl 0 rfl) ?_
          have hin5 : ∀ w ∈ u_ws RX5 TX5 14, w ∈ wsX5_reachTold := by decide +kernel
          have hf56 := hts (.fieldLink RX5 56 "CoracleMakersModel" "coracles" "I") (by decide +kernel)
          refine va_get (D := D) (ci := 5) (v := .int (F 0 1)) (C := RX5) (T := TX5) (N := 14) hx hb hts hin5 hown hK hP 0 (ap_l (wf_at (by decide) rfl)) rfl 3 (by decide) hf56 (fun _ h9 => h9) rfl dX5_reachTold_22 ?_
          refine lv_icmp_ge (tgt := 69) hx hb dX5_reachTold_25 (by decide) (fun c9 => absurd c9 (self_gt hC (by decide) hiN)) (fun _ => ?_)
          refine lv_iload_n hx hb dX5_reachTold_28 rfl (lv_at hl 2 rfl) ?_
          refine lv_aload_n hx hb dX5_reachTold_29 rfl (lv_at hl 0 rfl) ?_
          have hf43 := hts (.fieldLink RX5 43 "CoracleMakersModel" "s" "LCoracleMakersModel$State;") (by decide +kernel)
          refine va_get (D := D) (ci := 5) (v := .ref (bs 0)) (C := RX5) (T := TX5) (N := 14) hx hb hts hin5 hown hK hP 0 (ap_l (wf_at (by decide) rfl)) rfl 12 (by decide) hf43 (fun _ h9 => h9) rfl dX5_reachTold_30 ?_
          have hin4 : ∀ w ∈ u_ws RX4 TX4 13, w ∈ wsX5_reachTold := by decide +kernel
          have hf90 : (Cond.fieldLinkNest RX5 90 "CoracleMakersModel$State" "hasSunk" "[Z" "CoracleMakersModel").before a s = true := va_Nw.use rfl (hN.1 _ (List.mem_of_getElem? (i := 8) rfl))
          refine va_getN (D := D) (ci := 4) (v := .ref (bs 7)) (C := RX4) (T := TX4) (N := 13) hx hb hts hin4 hown hK hP (9 + 0) (ap_r (wf_len 9 _ _) (wf_at (by decide) rfl)) rfl 10 (by decide) hf90 (fun _ h9 => h9) rfl dX5_reachTold_33 ?_
          refine lv_iload hx hb dX5_reachTold_36 (lv_at hl 3 rfl) ?_
          refine va_zald hx hb hK hP (9 + 7) 1 (ap_r (wf_len 9 _ _) (wf_at (by decide) rfl)) rfl (vp_in_nI hi9 (by decide)) dX5_reachTold_38 ?_
          rw [show (nI i).toNatClampNeg = i from ei]
          refine lv_if_ne (tgt := 60) hx hb dX5_reachTold_39 (by decide) (fun c_185 => ?_) (fun c_185 => ?_)
          · refine lv_iconst (v := 0) hx hb dX5_reachTold_60 (by decide) ?_
            refine lv_iadd hx hb dX5_reachTold_61 ?_
            refine lv_istore_n (lv' := [(3, .int ((smI (arM U xr) i) + 0)), (0, .ref (am 0)), (1, .int xr), (4, .int (nI i))]) hx hb dX5_reachTold_62 rfl hl (by decide) rfl (fun ls hl => ?_)
            rw [show (smI (arM U xr) i) + 0 = smI (arM U xr) (i + 1) from smI_s _ i (by simp [arM, c_185])] at hl
            refine lv_iinc (v := nI (i + 1)) (lv' := [(4, .int (nI (i + 1))), (3, .int (smI (arM U xr) (i + 1))), (0, .ref (am 0)), (1, .int xr)]) hx hb dX5_reachTold_63 hl (k := 3) rfl (by first | rfl | exact (nI_1 i)) (by decide) rfl (fun ls hl => ?_)
            refine lv_goto (tgt := 19) hx hb dX5_reachTold_66 (by decide) ?_
            exact ihi (i + 1) _ (by omega) (by omega) (lv_sub hl [2, 3, 1, 0] rfl)
          · refine lv_aload_n hx hb dX5_reachTold_42 rfl (lv_at hl 0 rfl) ?_
            refine va_get (D := D) (ci := 5) (v := .ref (bs 0)) (C := RX5) (T := TX5) (N := 14) hx hb hts hin5 hown hK hP 0 (ap_l (wf_at (by decide) rfl)) rfl 12 (by decide) hf43 (fun _ h9 => h9) rfl dX5_reachTold_43 ?_
            have hf94 : (Cond.fieldLinkNest RX5 94 "CoracleMakersModel$State" "at" "[I" "CoracleMakersModel").before a s = true := va_Nw.use rfl (hN.1 _ (List.mem_of_getElem? (i := 3) rfl))
            refine va_getN (D := D) (ci := 4) (v := .ref (bs 2)) (C := RX4) (T := TX4) (N := 13) hx hb hts hin4 hown hK hP (9 + 0) (ap_r (wf_len 9 _ _) (wf_at (by decide) rfl)) rfl 5 (by decide) hf94 (fun _ h9 => h9) rfl dX5_reachTold_46 ?_
            refine lv_iload hx hb dX5_reachTold_49 (lv_at hl 3 rfl) ?_
            refine va_iald hx hb hK hP (9 + 2) 0 (ap_r (wf_len 9 _ _) (wf_at (by decide) rfl)) rfl (vp_in_nI hi9 (by decide)) dX5_reachTold_51 ?_
            rw [show (nI i).toNatClampNeg = i from ei]
            refine lv_iload_n hx hb dX5_reachTold_52 rfl (lv_at hl 1 rfl) ?_
            refine lv_icmp_ne (tgt := 60) hx hb dX5_reachTold_53 (by decide) (fun c_186 => ?_) (fun c_186 => ?_)
            · refine lv_iconst (v := 0) hx hb dX5_reachTold_60 (by decide) ?_
              refine lv_iadd hx hb dX5_reachTold_61 ?_
              refine lv_istore_n (lv' := [(3, .int ((smI (arM U xr) i) + 0)), (0, .ref (am 0)), (1, .int xr), (4, .int (nI i))]) hx hb dX5_reachTold_62 rfl hl (by decide) rfl (fun ls hl => ?_)
              rw [show (smI (arM U xr) i) + 0 = smI (arM U xr) (i + 1) from smI_s _ i (by simp [arM, c_185, c_186])] at hl
              refine lv_iinc (v := nI (i + 1)) (lv' := [(4, .int (nI (i + 1))), (3, .int (smI (arM U xr) (i + 1))), (0, .ref (am 0)), (1, .int xr)]) hx hb dX5_reachTold_63 hl (k := 3) rfl (by first | rfl | exact (nI_1 i)) (by decide) rfl (fun ls hl => ?_)
              refine lv_goto (tgt := 19) hx hb dX5_reachTold_66 (by decide) ?_
              exact ihi (i + 1) _ (by omega) (by omega) (lv_sub hl [2, 3, 1, 0] rfl)
            · refine lv_iconst (v := 1) hx hb dX5_reachTold_56 (by decide) ?_
              refine lv_goto (tgt := 61) hx hb dX5_reachTold_57 (by decide) ?_
              refine lv_iadd hx hb dX5_reachTold_61 ?_
              refine lv_istore_n (lv' := [(3, .int ((smI (arM U xr) i) + 1)), (0, .ref (am 0)), (1, .int xr), (4, .int (nI i))]) hx hb dX5_reachTold_62 rfl hl (by decide) rfl (fun ls hl => ?_)
              rw [show (smI (arM U xr) i) + 1 = smI (arM U xr) (i + 1) from smI_s _ i (by simp [arM, c_185, c_186])] at hl
              refine lv_iinc (v := nI (i + 1)) (lv' := [(4, .int (nI (i + 1))), (3, .int (smI (arM U xr) (i + 1))), (0, .ref (am 0)), (1, .int xr)]) hx hb dX5_reachTold_63 hl (k := 3) rfl (by first | rfl | exact (nI_1 i)) (by decide) rfl (fun ls hl => ?_)
              refine lv_goto (tgt := 19) hx hb dX5_reachTold_66 (by decide) ?_
              exact ihi (i + 1) _ (by omega) (by omega) (lv_sub hl [2, 3, 1, 0] rfl)
        · have e9i : (ix (F 0 1)) = i := by omega
          subst e9i
          refine lv_iload hx hb dX5_reachTold_19 (lv_at hl 3 rfl) ?_
          refine lv_aload_n hx hb dX5_reachTold_21 rfl (lv_at hl 0 rfl) ?_
          have hin5 : ∀ w ∈ u_ws RX5 TX5 14, w ∈ wsX5_reachTold := by decide +kernel
          have hf56 := hts (.fieldLink RX5 56 "CoracleMakersModel" "coracles" "I") (by decide +kernel)
          refine va_get (D := D) (ci := 5) (v := .int (F 0 1)) (C := RX5) (T := TX5) (N := 14) hx hb hts hin5 hown hK hP 0 (ap_l (wf_at (by decide) rfl)) rfl 3 (by decide) hf56 (fun _ h9 => h9) rfl dX5_reachTold_22 ?_
          refine lv_icmp_ge (tgt := 69) hx hb dX5_reachTold_25 (by decide) (fun _ => ?_) (fun c9 => absurd (self_le hC (by decide)) c9)
          refine lv_iload_n hx hb dX5_reachTold_69 rfl (lv_at hl 2 rfl) ?_
          subst hQ
          exact W.iret (v := smI (arM U xr) (ix (F 0 1))) hx hb hr (fun t ht hW => ⟨_, rfl, (by simp [rtM, c_184]), ht⟩) (fun _ h => by cases h) dX5_reachTold_70
    exact ly31 ((ix (F 0 1)) + 1) 0 ls (by omega) (by omega) (lv_sub hl [2, 3, 1, 0] rfl)
  · refine lv_aload_n hx hb dX5_reachTold_4 rfl (lv_at hl 0 rfl) ?_
    have hin5 : ∀ w ∈ u_ws RX5 TX5 14, w ∈ wsX5_reachTold := by decide +kernel
    have hf43 := hts (.fieldLink RX5 43 "CoracleMakersModel" "s" "LCoracleMakersModel$State;") (by decide +kernel)
    refine va_get (D := D) (ci := 5) (v := .ref (bs 0)) (C := RX5) (T := TX5) (N := 14) hx hb hts hin5 hown hK hP 0 (ap_l (wf_at (by decide) rfl)) rfl 12 (by decide) hf43 (fun _ h9 => h9) rfl dX5_reachTold_5 ?_
    have hin4 : ∀ w ∈ u_ws RX4 TX4 13, w ∈ wsX5_reachTold := by decide +kernel
    have hf50 : (Cond.fieldLinkNest RX5 50 "CoracleMakersModel$State" "salmon" "[I" "CoracleMakersModel").before a s = true := va_Nw.use rfl (hN.1 _ (List.mem_of_getElem? (i := 2) rfl))
    refine va_getN (D := D) (ci := 4) (v := .ref (bs 1)) (C := RX4) (T := TX4) (N := 13) hx hb hts hin4 hown hK hP (9 + 0) (ap_r (wf_len 9 _ _) (wf_at (by decide) rfl)) rfl 4 (by decide) hf50 (fun _ h9 => h9) rfl dX5_reachTold_8 ?_
    refine lv_iload_n hx hb dX5_reachTold_11 rfl (lv_at hl 1 rfl) ?_
    refine va_iald hx hb hK hP (9 + 1) 0 (ap_r (wf_len 9 _ _) (wf_at (by decide) rfl)) rfl hx0 dX5_reachTold_12 ?_
    subst hQ
    exact W.iret (v := U 1 (ix xr)) hx hb hr (fun t ht hW => ⟨_, rfl, (by simp [rtM, c_184]), ht⟩) (fun _ h => by cases h) dX5_reachTold_13
abbrev rmX5_all : Room := { frames := 0, cells := 0, slots := 0, locals := 0 }
set_option maxHeartbeats 4000000 in
set_option maxRecDepth 100000 in
/-- all(row) -/
theorem c_X5_all (l : Launch) (D : va_G) (y : Nat → ClassId) (b0 : Nat) (f : Nat → Int32) : RdI l D y yX5_all wsX5_all rmX5_all [.ref b0] ([(b0, .inl (y 0, 3, .inl f))]) (f 0 + f 1 + f 2) := by
  refine mR (C := RX5) (cc := cX5_all) (maxL := 1) (ret := (some .int)) (by decide) rfl rfl (Nat.le_of_ble_eq_true rfl) ?_
  intro p e s m a below meth c ls Q hQ hx hb hr hts hown hlocks hml hP hK hN hl
  have hl : lv_has ls 1 [(0, .ref b0)] := hl
  refine lv_aload_n hx hb dX5_all_0 rfl (lv_at hl 0 rfl) ?_
  refine lv_iconst (v := 0) hx hb dX5_all_1 (by decide) ?_
  refine va_iald hx hb hK hP 0 0 rfl rfl (show vp_in (0 : Int32) 3 from vp_in_nI (n := 0) (by decide) (by decide)) dX5_all_2 ?_
  refine W.eq (g2 := F0 m 3 ls (.int (f 0) :: [])) rfl ?_
  refine lv_aload_n hx hb dX5_all_3 rfl (lv_at hl 0 rfl) ?_
  refine lv_iconst (v := 1) hx hb dX5_all_4 (by decide) ?_
  refine va_iald hx hb hK hP 0 0 rfl rfl (show vp_in (1 : Int32) 3 from vp_in_nI (n := 1) (by decide) (by decide)) dX5_all_5 ?_
  refine W.eq (g2 := F0 m 6 ls (.int (f 1) :: .int (f 0) :: [])) rfl ?_
  refine lv_iadd hx hb dX5_all_6 ?_
  refine lv_aload_n hx hb dX5_all_7 rfl (lv_at hl 0 rfl) ?_
  refine lv_iconst (v := 2) hx hb dX5_all_8 (by decide) ?_
  refine va_iald hx hb hK hP 0 0 rfl rfl (show vp_in (2 : Int32) 3 from vp_in_nI (n := 2) (by decide) (by decide)) dX5_all_9 ?_
  refine W.eq (g2 := F0 m 10 ls (.int (f 2) :: .int ((f 0) + (f 1)) :: [])) rfl ?_
  refine lv_iadd hx hb dX5_all_10 ?_
  subst hQ
  exact W.iret (v := ((f 0) + (f 1)) + (f 2)) hx hb hr (fun t ht hW => ⟨_, rfl, rfl, ht⟩) (fun _ h => by cases h) dX5_all_11
