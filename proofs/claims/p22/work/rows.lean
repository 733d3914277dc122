section
/-! EVIDENCE, NO PROOF OF THE PROPERTY: the statement of p22 as it is printed speaks of no launch at all. Its head asks that the law's entry have no exception table; the law's own class file has one there (two rows). Nothing of the class CoracleMakers is used or shown here. -/
theorem p22_entry_has_table : ClassFile.Facts.File.hasCode classFile x code maxLocals ret = false := by decide +kernel
theorem p22_not_pinned : ¬ PinnedClaimed := fun h => by
  have h1 : ClassFile.Facts.File.hasCode classFile x code maxLocals ret = true := h
  rw [p22_entry_has_table] at h1
  cases h1
theorem p22_no_launch (l : Launch) : ¬ Jvm.D.Lists l classFile x code maxLocals ret tables_1 room_1 := fun h => by
  obtain ⟨-, hf, hF, -⟩ := h
  have h1 := hF.1 (x, code, maxLocals, ret) (List.mem_append_left _ (List.mem_append_left _ List.mem_cons_self))
  rw [show l.file? x.cls = some classFile from hf] at h1
  rw [Option.any_some] at h1
  dsimp only at h1
  rw [p22_entry_has_table] at h1
  cases h1
/-- so both sides of the owed statement hold of nothing, whatever the class does; and so would their contrary -/
theorem p22_holds_of_nothing (P : Jvm.Tables → Jvm.Env → Array Jvm.Value → Jvm.State → Jvm.Outcome → Jvm.State → Prop) : Jvm.D.ArmFor flags0 classFile x code maxLocals ret World_1 tables_1 room_1 Calls_1 rest_1 Pre_1 P := fun l _ hL _ => absurd hL (p22_no_launch l)
theorem p22_never_met : ¬ Jvm.D.MeetableFor flags0 classFile x code maxLocals ret World_1 tables_1 room_1 Calls_1 rest_1 Pre_1 := fun ⟨l, _, _, _, _, _, _, _, h⟩ => p22_no_launch l h.1
end
