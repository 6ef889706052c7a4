section
/-! NO PROOF OF p24's WORDS. These rows show that the statement as printed is EMPTY: its premise takes the law's entry
as a method without an exception table, and the law's class file has one of seven rows there (javap, behind 'law').
So no launch meets the premise, and no witness can be printed. Evidence for REPORT.md ('STATEMENT', 'TRANSLATOR'). -/
/-- The entry's code is as printed, with the exception table that javap lists. -/
theorem lk_with : classFile.hasCodeWith x code maxLocals ret [(72, 142, 416, 33), (143, 180, 416, 33), (181, 223, 416, 33), (224, 263, 416, 33), (264, 331, 416, 33), (332, 372, 416, 33), (373, 413, 416, 33)] = true := by decide +kernel
/-- What the statement's premise says of the entry (no exception table) is false of the claim's own class file. -/
theorem lk_false : classFile.hasCode x code maxLocals ret = false := by decide +kernel
theorem lk_not_pinned : ¬ PinnedClaimed := by
  intro hp
  have h1 : classFile.hasCode x code maxLocals ret = true := hp
  rw [lk_false] at h1
  exact Bool.noConfusion h1
/-- No launch whatever has the lists that the statement asks. -/
theorem lk_no_lists (lau : Launch) : ¬ Jvm.D.Lists lau classFile x code maxLocals ret tables_1 room_1 := by
  intro hL
  have hfile : lau.file? x.cls = some classFile := hL.2.1
  have hmem : (x, code, maxLocals, ret) ∈ (Jvm.D.headSpec (Cond.code x code maxLocals ret :: tables_1) room_1).pre.codes ++ (Jvm.D.headSpec (Cond.code x code maxLocals ret :: tables_1) room_1).post.codes :=
    List.mem_append_left _ (List.mem_append_left _ (List.mem_singleton.mpr rfl))
  have hcode := hL.2.2.1.1 (x, code, maxLocals, ret) hmem
  have hc2 : ((lau.file? x.cls).any fun f => f.hasCode x code maxLocals ret) = true := hcode
  rw [hfile, Option.any_some, lk_false] at hc2
  exact Bool.noConfusion hc2
/-- So the lists that the kit prints for the witness are false too. -/
theorem lk_no_witness : ¬ ListsClaimed_1 := lk_no_lists launch0
/-- The entry is the only wrong one: behind it, every method that the lists name has the code that they give. -/
theorem lk_rest : (List.drop 1 ((Jvm.D.headSpec (Cond.code x code maxLocals ret :: tables_1) room_1).pre.codes ++ (Jvm.D.headSpec (Cond.code x code maxLocals ret :: tables_1) room_1).post.codes)).all (fun y => (launch0.file? y.1.cls).any fun f => f.hasCode y.1 y.2.1 y.2.2.1 y.2.2.2) = true := by decide +kernel
end
section
/-- The owed statement, true because NO launch meets its premise: it says nothing of the class or of the law (REPORT.md, 'STATEMENT'). -/
theorem i_vc : Claimed_1_1 ∧ Claimed_1_2 :=
  ⟨fun lau _ hL _ => absurd hL (lk_no_lists lau), fun lau _ hL _ => absurd hL (lk_no_lists lau)⟩
end
