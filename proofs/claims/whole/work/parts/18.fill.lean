set_option maxRecDepth 20000 in
set_option maxHeartbeats 4000000 in
theorem lp_fillI {G : QW} {R : Room} {F : QFin} {cc cs : Nat} {m : AM} {o n : Nat} {v : Int} (ho : o < mz m) (hk : mk m o = 13) (hn : mn m o = n) (hb : n ≤ 1000) (hexit : qJ G mJ7_fill_53178 R F 20 [(0, vR o), (1, vI v), (3, vI (n : Int))] [] (fil m o 0 (n : Int) v) cc cs) : ∀ (fuel : Nat) (i : Int), 0 ≤ i → i ≤ (n : Int) → (n : Int) - i < fuel → qJ G mJ7_fill_53178 R F 5 [(0, vR o), (1, vI v), (2, vI i), (3, vI (n : Int))] [] (fil m o 0 i v) cc cs := by
  intro fuel
  induction fuel with
  | zero => intro i h1 h2 h3; omega
  | succ fuel ih =>
    intro i hv1 hv2 hv3
    refine j_iload_n rfl rfl ?_
    refine j_iload_n rfl rfl ?_
    refine j_icmp_ge (tgt := 20) rfl (by decide) (by omega) (by omega) (by omega) (by omega) (fun hb7_1 => ?_) (fun hb7_1 => ?_)
    · skip
      have he : i = (n : Int) := by omega
      rw [he]
      refine j_loc (ls' := [(0, vR o), (1, vI v), (3, vI (n : Int))]) rfl ?_
      exact hexit
    · skip
      refine j_aload_n rfl rfl ?_
      refine j_iload_n rfl rfl ?_
      refine j_iload_n rfl rfl ?_
      refine j_iast (n := n) rfl ho hk hn (by omega) (by omega) (by first | decide | omega) ?_
      refine j_iinc rfl rfl (by decide) ?_
      refine j_goto (tgt := 5) rfl (by decide) ?_
      refine j_loc (ls' := [(0, vR o), (1, vI v), (2, vI (i + 1)), (3, vI (n : Int))]) rfl ?_
      rw [fil_si (by decide) (by omega) rfl]
      exact ih (i + 1) (by omega) (by omega) (by omega)

theorem ct_fillI {G : QW} {m : AM} {o n : Nat} {v : Int} (ho : o < mz m) (hk : mk m o = 13) (hn : mn m o = n) (hb : n ≤ 1000) : qM G mJ7_fill_53178 0 0 0 [vR o, vI v] m (fun r m' => r = none ∧ m' = fil m o 0 (n : Int) v) := by
  refine qM.intro okJ7_fill_53178 (Nat.le_of_ble_eq_true rfl) ?_
  refine j_iconst rfl ?_
  refine j_istore_n rfl (by decide) ?_
  refine j_aload_n rfl rfl ?_
  refine j_alen rfl ho hk (by decide) hn ?_
  refine j_istore_n rfl (by decide) ?_
  refine j_loc (ls' := [(0, vR o), (1, vI v), (2, vI 0), (3, vI (n : Int))]) rfl ?_
  refine qJ_mem (m' := fil m o 0 0 v) (fil_0 _ _ _ (Int.le_refl _)) ?_
  refine lp_fillI ho hk hn hb ?_ (n + 1) 0 (by omega) (by omega) (by omega)
  refine j_vret rfl rfl ?_ rfl (Nat.le_refl _)
  exact ⟨rfl, rfl⟩

def FX9_begin (m : AM) (o : Nat) : AM :=
  (si (fil (fil (fil (fil (fil (fil m (o + 1) 0 48 0) (o + 2) 0 24 0) (o + 3) 0 6 0) (o + 4) 0 6 (-1)) (o + 5) 0 6 0) (o + 6) 0 6 0) o 7 0)
set_option maxRecDepth 20000 in
set_option maxHeartbeats 4000000 in
theorem ct_X9_begin {G : QW} {m : AM} {o : Nat} (hO : ObA m o 9 fsStand) : qM G mX9_begin 1 0 0 [vR o] m (fun r m' => r = none ∧ m' = FX9_begin m o) := by
  refine qM.intro okX9_begin (Nat.le_of_ble_eq_true rfl) ?_
  refine j_aload_n rfl rfl ?_
  refine j_getR (q := (o + 1)) rfl f_X9_9 rfl hO.1 hO.2.1 (hO.q 0 1 13 48 (by decide)).1 ?_
  refine j_iconst rfl ?_
  refine j_callS (As := [_, _]) rfl okJ7_fill_53178 c_X9_33 (ct_fillI (n := 48) (hO.q 0 1 13 48 (by decide)).2.1 (hO.q 0 1 13 48 (by decide)).2.2.1 (hO.q 0 1 13 48 (by decide)).2.2.2 (by decide)) rfl rfl (Nat.le_of_ble_eq_true rfl) (by decide) (by decide) ?_
  rintro vq mq ⟨e1, e2⟩
  rw [e1, e2]
  clear e1 e2
  simp only [Option.toList_some, Option.toList_none, List.cons_append, List.nil_append]
  refine j_aload_n rfl rfl ?_
  refine j_getR (q := (o + 2)) rfl f_X9_15 rfl hO.1 hO.2.1 (hO.q 1 2 13 24 (by decide)).1 ?_
  refine j_iconst rfl ?_
  refine j_callS (As := [_, _]) rfl okJ7_fill_53178 c_X9_33 (ct_fillI (n := 24) (hO.q 1 2 13 24 (by decide)).2.1 (hO.q 1 2 13 24 (by decide)).2.2.1 (hO.q 1 2 13 24 (by decide)).2.2.2 (by decide)) rfl rfl (Nat.le_of_ble_eq_true rfl) (by decide) (by decide) ?_
  rintro vq mq ⟨e1, e2⟩
  rw [e1, e2]
  clear e1 e2
  simp only [Option.toList_some, Option.toList_none, List.cons_append, List.nil_append]
  refine j_aload_n rfl rfl ?_
  refine j_getR (q := (o + 3)) rfl f_X9_18 rfl hO.1 hO.2.1 (hO.q 2 3 13 6 (by decide)).1 ?_
  refine j_iconst rfl ?_
  refine j_callS (As := [_, _]) rfl okJ7_fill_53178 c_X9_33 (ct_fillI (n := 6) (hO.q 2 3 13 6 (by decide)).2.1 (hO.q 2 3 13 6 (by decide)).2.2.1 (hO.q 2 3 13 6 (by decide)).2.2.2 (by decide)) rfl rfl (Nat.le_of_ble_eq_true rfl) (by decide) (by decide) ?_
  rintro vq mq ⟨e1, e2⟩
  rw [e1, e2]
  clear e1 e2
  simp only [Option.toList_some, Option.toList_none, List.cons_append, List.nil_append]
  refine j_aload_n rfl rfl ?_
  refine j_getR (q := (o + 4)) rfl f_X9_21 rfl hO.1 hO.2.1 (hO.q 3 4 13 6 (by decide)).1 ?_
  refine j_iconst rfl ?_
  refine j_callS (As := [_, _]) rfl okJ7_fill_53178 c_X9_33 (ct_fillI (n := 6) (hO.q 3 4 13 6 (by decide)).2.1 (hO.q 3 4 13 6 (by decide)).2.2.1 (hO.q 3 4 13 6 (by decide)).2.2.2 (by decide)) rfl rfl (Nat.le_of_ble_eq_true rfl) (by decide) (by decide) ?_
  rintro vq mq ⟨e1, e2⟩
  rw [e1, e2]
  clear e1 e2
  simp only [Option.toList_some, Option.toList_none, List.cons_append, List.nil_append]
  refine j_aload_n rfl rfl ?_
  refine j_getR (q := (o + 5)) rfl f_X9_24 rfl hO.1 hO.2.1 (hO.q 4 5 13 6 (by decide)).1 ?_
  refine j_iconst rfl ?_
  refine j_callS (As := [_, _]) rfl okJ7_fill_53178 c_X9_33 (ct_fillI (n := 6) (hO.q 4 5 13 6 (by decide)).2.1 (hO.q 4 5 13 6 (by decide)).2.2.1 (hO.q 4 5 13 6 (by decide)).2.2.2 (by decide)) rfl rfl (Nat.le_of_ble_eq_true rfl) (by decide) (by decide) ?_
  rintro vq mq ⟨e1, e2⟩
  rw [e1, e2]
  clear e1 e2
  simp only [Option.toList_some, Option.toList_none, List.cons_append, List.nil_append]
  refine j_aload_n rfl rfl ?_
  refine j_getR (q := (o + 6)) rfl f_X9_27 rfl hO.1 hO.2.1 (hO.q 5 6 13 6 (by decide)).1 ?_
  refine j_iconst rfl ?_
  refine j_callS (As := [_, _]) rfl okJ7_fill_53178 c_X9_33 (ct_fillI (n := 6) (hO.q 5 6 13 6 (by decide)).2.1 (hO.q 5 6 13 6 (by decide)).2.2.1 (hO.q 5 6 13 6 (by decide)).2.2.2 (by decide)) rfl rfl (Nat.le_of_ble_eq_true rfl) (by decide) (by decide) ?_
  rintro vq mq ⟨e1, e2⟩
  rw [e1, e2]
  clear e1 e2
  simp only [Option.toList_some, Option.toList_none, List.cons_append, List.nil_append]
  refine j_aload_n rfl rfl ?_
  refine j_iconst rfl ?_
  refine j_putI rfl f_X9_39 rfl hO.1 hO.2.1 ?_
  refine j_vret rfl rfl ?_ rfl (Nat.le_refl _)
  unfold FX9_begin
  exact ⟨rfl, rfl⟩

