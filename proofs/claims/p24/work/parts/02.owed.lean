/-- The owed statement, true because NO launch meets its premise: it says nothing of the class or of the law (REPORT.md, 'STATEMENT'). -/
theorem i_vc : Claimed_1_1 ∧ Claimed_1_2 :=
  ⟨fun lau _ hL _ => absurd hL (lk_no_lists lau), fun lau _ hL _ => absurd hL (lk_no_lists lau)⟩
