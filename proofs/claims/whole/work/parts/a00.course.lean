/-- STEP and CAP of another flight -/
def FX3_copyCourse (m : AM) (o p : Nat) : AM := (cpi (cpi m (o + 2) (p + 2) 0 0 3) (o + 3) (p + 3) 0 0 3)

set_option maxRecDepth 20000 in
set_option maxHeartbeats 4000000 in
theorem ct_X3_copyCourse {G : QW} {m : AM} {o p : Nat} (hO : ObA m o 3 fsFlight) (hP : ObA m p 3 fsFlight) : qM G mX3_copyCourse 1 0 0 [vR o, vR p] m (fun r m' => r = none ∧ m' = FX3_copyCourse m o p) := by
  refine qM.intro okX3_copyCourse (Nat.le_of_ble_eq_true rfl) ?_
  refine j_aload_n rfl rfl ?_
  refine j_getR (q := (p + 2)) rfl f_X3_15 rfl hP.1 hP.2.1 (hP.q 1 2 13 3 (by decide)).1 ?_
  refine j_iconst rfl ?_
  refine j_aload_n rfl rfl ?_
  refine j_getR (q := (o + 2)) rfl f_X3_15 rfl hO.1 hO.2.1 (hO.q 1 2 13 3 (by decide)).1 ?_
  refine j_iconst rfl ?_
  refine j_iconst rfl ?_
  refine j_copyI (sp := 0) (dp := 0) (n := 3) rfl cp_X3_36 (hP.q 1 2 13 3 (by decide)).2.1 (hO.q 1 2 13 3 (by decide)).2.1 (hP.q 1 2 13 3 (by decide)).2.2.1 (hO.q 1 2 13 3 (by decide)).2.2.1 (Nat.le_of_eq ((hP.q 1 2 13 3 (by decide)).2.2.2).symm) (Nat.le_of_eq ((hO.q 1 2 13 3 (by decide)).2.2.2).symm) (by decide) (by decide) (by decide) (by decide) (by decide) ?_
  refine j_aload_n rfl rfl ?_
  refine j_getR (q := (p + 3)) rfl f_X3_18 rfl hP.1 hP.2.1 (hP.q 2 3 13 3 (by decide)).1 ?_
  refine j_iconst rfl ?_
  refine j_aload_n rfl rfl ?_
  refine j_getR (q := (o + 3)) rfl f_X3_18 rfl hO.1 hO.2.1 (hO.q 2 3 13 3 (by decide)).1 ?_
  refine j_iconst rfl ?_
  refine j_iconst rfl ?_
  refine j_copyI (sp := 0) (dp := 0) (n := 3) rfl cp_X3_36 (hP.q 2 3 13 3 (by decide)).2.1 (hO.q 2 3 13 3 (by decide)).2.1 (hP.q 2 3 13 3 (by decide)).2.2.1 (hO.q 2 3 13 3 (by decide)).2.2.1 (Nat.le_of_eq ((hP.q 2 3 13 3 (by decide)).2.2.2).symm) (Nat.le_of_eq ((hO.q 2 3 13 3 (by decide)).2.2.2).symm) (by decide) (by decide) (by decide) (by decide) (by decide) ?_
  refine j_vret rfl rfl ?_ rfl (Nat.le_refl _)
  exact ⟨rfl, rfl⟩

