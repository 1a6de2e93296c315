theorem bck4 (b x : Int) : bckV 4 b x = z_ixor x b ∧ bckT 4 = [11] := ⟨rfl, rfl⟩

set_option maxRecDepth 20000 in
set_option maxHeartbeats 4000000 in
theorem ct_B1 {G : QW} {N : AM} {X P n d : Nat} {b kd ln x dep : Int} (hT : TB G) (hA : AY N X P b kd ln n) (hn : n ≤ 90) (hdep : 0 ≤ dep ∧ dep ≤ 31) (hd : 0 ≤ d) : qM G mX0_performFirst d 0 0 [vR 22, vR X, vI 1, vI x, vI dep] N (fun r N2 => r = some (vI (x + b)) ∧ N2 = ranD [] N) := by
  refine qM.intro okX0_performFirst (Nat.le_of_ble_eq_true rfl) ?_
  have hRB := RBn d
  have hr := hA.r_
  have l1 := runT_len kd
  have l2 := bckT_len kd
  have l3 := senT_len kd
  have l4 := ptlT_len kd
  refine j_iload_n rfl rfl ?_
  refine j_lookup (off := 35) (tgt := 36) rfl (by decide) (by decide) (by decide) (by rfl) (by decide) ?_
  refine j_iload_n rfl rfl ?_
  refine j_aload_n rfl rfl ?_
  refine j_getI rfl f_X0_36 rfl hA.2.2.1.1.1 hA.2.2.1.1.2.1 ?_
  rw [hA.b_]
  refine j_iadd rfl ?_
  refine j_iret rfl rfl ?_ rfl (Nat.le_refl _)
  exact ⟨rfl, rfl⟩

set_option maxRecDepth 20000 in
set_option maxHeartbeats 4000000 in
theorem ct_P00 {G : QW} {N : AM} {X P n d : Nat} {b kd ln x dep : Int} (hT : TB G) (hA : AY N X P b kd ln n) (hn : n ≤ 70) (hdep : 0 ≤ dep ∧ dep ≤ 30) (hd : 1 ≤ d) : qM G mX0_perform d 0 0 [vR 22, vR X, vI 0, vI 0, vI x, vI dep] N (fun r N2 => r = some (vI (x + b)) ∧ N2 = ranD [1] N) := by
  obtain ⟨d, rfl⟩ : ∃ d', d = d' + 1 := ⟨d - 1, by omega⟩
  exact ct_perform (K := 0) (B := 1) hT hA (by omega) (by decide) (by decide) (by omega) rfl rfl (fun _ => (ct_B1 hT (hA.one (by omega) 1) (by omega) (by omega) (by omega))) (fun q => absurd rfl q)

set_option maxRecDepth 20000 in
set_option maxHeartbeats 4000000 in
theorem ct_B40 {G : QW} {N : AM} {X P n d : Nat} {b kd ln x dep : Int} (hT : TB G) (hA : AY N X P b kd ln n) (hn : n ≤ 70) (hdep : 0 ≤ dep ∧ dep ≤ 30) (hd : 2 ≤ d) : qM G mX0_performAbove d 0 0 [vR 22, vR X, vI 40, vI x, vI dep] N (fun r N2 => r = some (vI ((x + b) - 1)) ∧ N2 = ranD [1] N) := by
  refine qM.intro okX0_performAbove (Nat.le_of_ble_eq_true rfl) ?_
  have hRB := RBn d
  have hr := hA.r_
  have l1 := runT_len kd
  have l2 := bckT_len kd
  have l3 := senT_len kd
  have l4 := ptlT_len kd
  refine j_iload_n rfl rfl ?_
  refine j_lookup (off := 99) (tgt := 100) rfl (by decide) (by decide) (by decide) (by rfl) (by decide) ?_
  refine j_aload_n rfl rfl ?_
  refine j_aload_n rfl rfl ?_
  refine j_iconst rfl ?_
  refine j_iconst rfl ?_
  refine j_iload_n rfl rfl ?_
  refine j_iload rfl rfl ?_
  refine j_callV (ci := 0) rfl okX0_perform c_X0_44 (ct_P00 (d := 1) hT hA (by omega) (by omega) (by decide)) rfl rfl (hA.1.lt (by decide)) (hA.1.k (by decide) (by decide)) (by decide) rfl (Nat.le_of_ble_eq_true rfl) (RB.call hRB (by omega) (by decide)) ⟨Nat.le_refl _, Nat.le_refl _⟩ ?_
  rintro vq mq ⟨e1, e2⟩
  rw [e1, e2]
  clear e1 e2
  simp only [Option.toList_some, Option.toList_none, List.cons_append, List.nil_append]
  have hA := (hA.list [1] (by first | omega | (simp only [List.length_append, List.length_cons, List.length_nil]; omega))).up (n2 := n + 12) (by first | omega | (simp only [List.length_append, List.length_cons, List.length_nil]; omega))
  refine j_iconst rfl ?_
  refine j_isub rfl ?_
  refine j_iret rfl rfl ?_ rfl (Nat.le_refl _)
  exact ⟨rfl, rfl⟩

set_option maxRecDepth 20000 in
set_option maxHeartbeats 4000000 in
theorem ct_P03 {G : QW} {N : AM} {X P n d : Nat} {b kd ln x dep : Int} (hT : TB G) (hA : AY N X P b kd ln n) (hn : n ≤ 60) (hdep : 0 ≤ dep ∧ dep ≤ 29) (hd : 3 ≤ d) : qM G mX0_perform d 0 0 [vR 22, vR X, vI 0, vI 3, vI x, vI dep] N (fun r N2 => r = some (vI ((x + b) - 1)) ∧ N2 = ranD [40, 1] N) := by
  obtain ⟨d, rfl⟩ : ∃ d', d = d' + 1 := ⟨d - 1, by omega⟩
  exact ct_perform (K := 3) (B := 40) hT hA (by omega) (by decide) (by decide) (by omega) rfl rfl (fun q => absurd q (by decide)) (fun _ => (ct_B40 hT (hA.one (by omega) 40) (by omega) (by omega) (by omega)))

set_option maxRecDepth 20000 in
set_option maxHeartbeats 4000000 in
theorem ct_B70 {G : QW} {N : AM} {X P n d : Nat} {b kd ln x dep : Int} (hT : TB G) (hA : AY N X P b kd ln n) (hn : n ≤ 60) (hdep : 0 ≤ dep ∧ dep ≤ 29) (hd : 4 ≤ d) : qM G mX0_performAbove d 0 0 [vR 22, vR X, vI 70, vI x, vI dep] N (fun r N2 => r = some (vI (((x + b) - 1) * 5)) ∧ N2 = ranD [40, 1] N) := by
  refine qM.intro okX0_performAbove (Nat.le_of_ble_eq_true rfl) ?_
  have hRB := RBn d
  have hr := hA.r_
  have l1 := runT_len kd
  have l2 := bckT_len kd
  have l3 := senT_len kd
  have l4 := ptlT_len kd
  refine j_iload_n rfl rfl ?_
  refine j_lookup (off := 151) (tgt := 152) rfl (by decide) (by decide) (by decide) (by rfl) (by decide) ?_
  refine j_aload_n rfl rfl ?_
  refine j_aload_n rfl rfl ?_
  refine j_iconst rfl ?_
  refine j_iconst rfl ?_
  refine j_iload_n rfl rfl ?_
  refine j_iload rfl rfl ?_
  refine j_callV (ci := 0) rfl okX0_perform c_X0_44 (ct_P03 (d := 3) hT hA (by omega) (by omega) (by decide)) rfl rfl (hA.1.lt (by decide)) (hA.1.k (by decide) (by decide)) (by decide) rfl (Nat.le_of_ble_eq_true rfl) (RB.call hRB (by omega) (by decide)) ⟨Nat.le_refl _, Nat.le_refl _⟩ ?_
  rintro vq mq ⟨e1, e2⟩
  rw [e1, e2]
  clear e1 e2
  simp only [Option.toList_some, Option.toList_none, List.cons_append, List.nil_append]
  have hA := (hA.list [40, 1] (by first | omega | (simp only [List.length_append, List.length_cons, List.length_nil]; omega))).up (n2 := n + 12) (by first | omega | (simp only [List.length_append, List.length_cons, List.length_nil]; omega))
  refine j_iconst rfl ?_
  refine j_imul rfl ?_
  refine j_iret rfl rfl ?_ rfl (Nat.le_refl _)
  exact ⟨rfl, rfl⟩

set_option maxRecDepth 20000 in
set_option maxHeartbeats 4000000 in
theorem ct_P0k {G : QW} {N : AM} {X P n d : Nat} {b kd ln x dep : Int} (hT : TB G) (hA : AY N X P b kd ln n) (hn : n ≤ 50) (hdep : 0 ≤ dep ∧ dep ≤ 28) (hd : 5 ≤ d) : qM G mX0_perform d 0 0 [vR 22, vR X, vI 0, vI kd, vI x, vI dep] N (fun r N2 => r = some (vI (runV kd b x)) ∧ N2 = ranD (runT kd) N) := by
  obtain ⟨d, rfl⟩ : ∃ d', d = d' + 1 := ⟨d - 1, by omega⟩
  have hr := hA.r_
  have hk : kd = 0 ∨ kd = 1 ∨ kd = 2 ∨ kd = 3 ∨ kd = 4 ∨ kd = 5 ∨ kd = 6 := by omega
  rcases hk with rfl | rfl | rfl | rfl | rfl | rfl | rfl
  · exact ct_perform (K := 0) (B := 1) hT hA (by omega) (by decide) (by decide) (by omega) rfl rfl (fun _ => (ct_B1 hT (hA.one (by omega) 1) (by omega) (by omega) (by omega))) (fun q => absurd rfl q)
  · exact ct_perform (K := 0) (B := 1) hT hA (by omega) (by decide) (by decide) (by omega) rfl rfl (fun _ => (ct_B1 hT (hA.one (by omega) 1) (by omega) (by omega) (by omega))) (fun q => absurd rfl q)
  · exact ct_perform (K := 0) (B := 1) hT hA (by omega) (by decide) (by decide) (by omega) rfl rfl (fun _ => (ct_B1 hT (hA.one (by omega) 1) (by omega) (by omega) (by omega))) (fun q => absurd rfl q)
  · exact ct_perform (K := 3) (B := 40) hT hA (by omega) (by decide) (by decide) (by omega) rfl rfl (fun q => absurd q (by decide)) (fun _ => (ct_B40 hT (hA.one (by omega) 40) (by omega) (by omega) (by omega)))
  · exact ct_perform (K := 0) (B := 1) hT hA (by omega) (by decide) (by decide) (by omega) rfl rfl (fun _ => (ct_B1 hT (hA.one (by omega) 1) (by omega) (by omega) (by omega))) (fun q => absurd rfl q)
  · exact ct_perform (K := 0) (B := 1) hT hA (by omega) (by decide) (by decide) (by omega) rfl rfl (fun _ => (ct_B1 hT (hA.one (by omega) 1) (by omega) (by omega) (by omega))) (fun q => absurd rfl q)
  · exact ct_perform (K := 6) (B := 70) hT hA (by omega) (by decide) (by decide) (by omega) rfl rfl (fun q => absurd q (by decide)) (fun _ => (ct_B70 hT (hA.one (by omega) 70) (by omega) (by omega) (by omega)))

set_option maxRecDepth 20000 in
set_option maxHeartbeats 4000000 in
theorem ct_B11 {G : QW} {N : AM} {X P n d : Nat} {b kd ln x dep : Int} (hT : TB G) (hA : AY N X P b kd ln n) (hn : n ≤ 90) (hdep : 0 ≤ dep ∧ dep ≤ 31) (hd : 0 ≤ d) : qM G mX0_performFirst d 0 0 [vR 22, vR X, vI 11, vI x, vI dep] N (fun r N2 => r = some (vI (z_ixor x b)) ∧ N2 = ranD [] N) := by
  refine qM.intro okX0_performFirst (Nat.le_of_ble_eq_true rfl) ?_
  have hRB := RBn d
  have hr := hA.r_
  have l1 := runT_len kd
  have l2 := bckT_len kd
  have l3 := senT_len kd
  have l4 := ptlT_len kd
  refine j_iload_n rfl rfl ?_
  refine j_lookup (off := 58) (tgt := 59) rfl (by decide) (by decide) (by decide) (by rfl) (by decide) ?_
  refine j_iload_n rfl rfl ?_
  refine j_aload_n rfl rfl ?_
  refine j_getI rfl f_X0_36 rfl hA.2.2.1.1.1 hA.2.2.1.1.2.1 ?_
  rw [hA.b_]
  refine j_ixor rfl ?_
  have z64_1 := z_ixor_rng x b
  refine j_iret rfl rfl ?_ rfl (Nat.le_refl _)
  exact ⟨rfl, rfl⟩

set_option maxRecDepth 20000 in
set_option maxHeartbeats 4000000 in
theorem ct_P20 {G : QW} {N : AM} {X P n d : Nat} {b kd ln x dep : Int} (hT : TB G) (hA : AY N X P b kd ln n) (hn : n ≤ 70) (hdep : 0 ≤ dep ∧ dep ≤ 30) (hd : 1 ≤ d) : qM G mX0_perform d 0 0 [vR 22, vR X, vI 2, vI 0, vI x, vI dep] N (fun r N2 => r = some (vI (z_ixor x b)) ∧ N2 = ranD [11] N) := by
  obtain ⟨d, rfl⟩ : ∃ d', d = d' + 1 := ⟨d - 1, by omega⟩
  exact ct_perform (K := 0) (B := 11) hT hA (by omega) (by decide) (by decide) (by omega) rfl rfl (fun _ => (ct_B11 hT (hA.one (by omega) 11) (by omega) (by omega) (by omega))) (fun q => absurd rfl q)

set_option maxRecDepth 20000 in
set_option maxHeartbeats 4000000 in
theorem ct_P24 {G : QW} {N : AM} {X P n d : Nat} {b kd ln x dep : Int} (hT : TB G) (hA : AY N X P b kd ln n) (hn : n ≤ 70) (hdep : 0 ≤ dep ∧ dep ≤ 30) (hd : 1 ≤ d) : qM G mX0_perform d 0 0 [vR 22, vR X, vI 2, vI 4, vI x, vI dep] N (fun r N2 => r = some (vI (z_ixor x b)) ∧ N2 = ranD [11] N) := by
  obtain ⟨d, rfl⟩ : ∃ d', d = d' + 1 := ⟨d - 1, by omega⟩
  exact ct_perform (K := 0) (B := 11) hT hA (by omega) (by decide) (by decide) (by omega) rfl rfl (fun _ => (ct_B11 hT (hA.one (by omega) 11) (by omega) (by omega) (by omega))) (fun q => absurd rfl q)

set_option maxRecDepth 20000 in
set_option maxHeartbeats 4000000 in
theorem ct_B30 {G : QW} {N : AM} {X P n d : Nat} {b kd ln x dep : Int} (hT : TB G) (hA : AY N X P b kd ln n) (hn : n ≤ 70) (hdep : 0 ≤ dep ∧ dep ≤ 30) (hd : 2 ≤ d) : qM G mX0_performAbove d 0 0 [vR 22, vR X, vI 30, vI x, vI dep] N (fun r N2 => r = some (vI ((z_ixor x b) * 3)) ∧ N2 = ranD [11] N) := by
  refine qM.intro okX0_performAbove (Nat.le_of_ble_eq_true rfl) ?_
  have hRB := RBn d
  have hr := hA.r_
  have l1 := runT_len kd
  have l2 := bckT_len kd
  have l3 := senT_len kd
  have l4 := ptlT_len kd
  refine j_iload_n rfl rfl ?_
  refine j_lookup (off := 86) (tgt := 87) rfl (by decide) (by decide) (by decide) (by rfl) (by decide) ?_
  refine j_aload_n rfl rfl ?_
  refine j_aload_n rfl rfl ?_
  refine j_iconst rfl ?_
  refine j_iconst rfl ?_
  refine j_iload_n rfl rfl ?_
  refine j_iload rfl rfl ?_
  refine j_callV (ci := 0) rfl okX0_perform c_X0_44 (ct_P20 (d := 1) hT hA (by omega) (by omega) (by decide)) rfl rfl (hA.1.lt (by decide)) (hA.1.k (by decide) (by decide)) (by decide) rfl (Nat.le_of_ble_eq_true rfl) (RB.call hRB (by omega) (by decide)) ⟨Nat.le_refl _, Nat.le_refl _⟩ ?_
  rintro vq mq ⟨e1, e2⟩
  rw [e1, e2]
  clear e1 e2
  simp only [Option.toList_some, Option.toList_none, List.cons_append, List.nil_append]
  have hA := (hA.list [11] (by first | omega | (simp only [List.length_append, List.length_cons, List.length_nil]; omega))).up (n2 := n + 12) (by first | omega | (simp only [List.length_append, List.length_cons, List.length_nil]; omega))
  refine j_iconst rfl ?_
  refine j_imul rfl ?_
  refine j_iret rfl rfl ?_ rfl (Nat.le_refl _)
  exact ⟨rfl, rfl⟩

set_option maxRecDepth 20000 in
set_option maxHeartbeats 4000000 in
theorem ct_B60 {G : QW} {N : AM} {X P n d : Nat} {b kd ln x dep : Int} (hT : TB G) (hA : AY N X P b kd ln n) (hn : n ≤ 70) (hdep : 0 ≤ dep ∧ dep ≤ 30) (hd : 2 ≤ d) : qM G mX0_performAbove d 0 0 [vR 22, vR X, vI 60, vI x, vI dep] N (fun r N2 => r = some (vI (-(z_ixor x b))) ∧ N2 = ranD [11] N) := by
  refine qM.intro okX0_performAbove (Nat.le_of_ble_eq_true rfl) ?_
  have hRB := RBn d
  have hr := hA.r_
  have l1 := runT_len kd
  have l2 := bckT_len kd
  have l3 := senT_len kd
  have l4 := ptlT_len kd
  refine j_iload_n rfl rfl ?_
  refine j_lookup (off := 126) (tgt := 127) rfl (by decide) (by decide) (by decide) (by rfl) (by decide) ?_
  refine j_aload_n rfl rfl ?_
  refine j_aload_n rfl rfl ?_
  refine j_iconst rfl ?_
  refine j_iconst rfl ?_
  refine j_iload_n rfl rfl ?_
  refine j_iload rfl rfl ?_
  refine j_callV (ci := 0) rfl okX0_perform c_X0_44 (ct_P24 (d := 1) hT hA (by omega) (by omega) (by decide)) rfl rfl (hA.1.lt (by decide)) (hA.1.k (by decide) (by decide)) (by decide) rfl (Nat.le_of_ble_eq_true rfl) (RB.call hRB (by omega) (by decide)) ⟨Nat.le_refl _, Nat.le_refl _⟩ ?_
  rintro vq mq ⟨e1, e2⟩
  rw [e1, e2]
  clear e1 e2
  simp only [Option.toList_some, Option.toList_none, List.cons_append, List.nil_append]
  have hA := (hA.list [11] (by first | omega | (simp only [List.length_append, List.length_cons, List.length_nil]; omega))).up (n2 := n + 12) (by first | omega | (simp only [List.length_append, List.length_cons, List.length_nil]; omega))
  refine j_ineg rfl ?_
  refine j_iret rfl rfl ?_ rfl (Nat.le_refl _)
  exact ⟨rfl, rfl⟩

set_option maxRecDepth 20000 in
set_option maxHeartbeats 4000000 in
theorem ct_P2k {G : QW} {N : AM} {X P n d : Nat} {b kd ln x dep : Int} (hT : TB G) (hA : AY N X P b kd ln n) (hn : n ≤ 60) (hdep : 0 ≤ dep ∧ dep ≤ 29) (hd : 3 ≤ d) : qM G mX0_perform d 0 0 [vR 22, vR X, vI 2, vI kd, vI x, vI dep] N (fun r N2 => r = some (vI (bckV kd b x)) ∧ N2 = ranD (bckT kd) N) := by
  obtain ⟨d, rfl⟩ : ∃ d', d = d' + 1 := ⟨d - 1, by omega⟩
  have hr := hA.r_
  have hk : kd = 0 ∨ kd = 1 ∨ kd = 2 ∨ kd = 3 ∨ kd = 4 ∨ kd = 5 ∨ kd = 6 := by omega
  rcases hk with rfl | rfl | rfl | rfl | rfl | rfl | rfl
  · exact ct_perform (K := 0) (B := 11) hT hA (by omega) (by decide) (by decide) (by omega) rfl rfl (fun _ => (ct_B11 hT (hA.one (by omega) 11) (by omega) (by omega) (by omega))) (fun q => absurd rfl q)
  · exact ct_perform (K := 0) (B := 11) hT hA (by omega) (by decide) (by decide) (by omega) rfl rfl (fun _ => (ct_B11 hT (hA.one (by omega) 11) (by omega) (by omega) (by omega))) (fun q => absurd rfl q)
  · exact ct_perform (K := 2) (B := 30) hT hA (by omega) (by decide) (by decide) (by omega) rfl rfl (fun q => absurd q (by decide)) (fun _ => (ct_B30 hT (hA.one (by omega) 30) (by omega) (by omega) (by omega)))
  · exact ct_perform (K := 0) (B := 11) hT hA (by omega) (by decide) (by decide) (by omega) rfl rfl (fun _ => (ct_B11 hT (hA.one (by omega) 11) (by omega) (by omega) (by omega))) (fun q => absurd rfl q)
  · exact ct_perform (K := 0) (B := 11) hT hA (by omega) (by decide) (by decide) (by omega) rfl rfl (fun _ => (ct_B11 hT (hA.one (by omega) 11) (by omega) (by omega) (by omega))) (fun q => absurd rfl q)
  · exact ct_perform (K := 5) (B := 60) hT hA (by omega) (by decide) (by decide) (by omega) rfl rfl (fun q => absurd q (by decide)) (fun _ => (ct_B60 hT (hA.one (by omega) 60) (by omega) (by omega) (by omega)))
  · exact ct_perform (K := 0) (B := 11) hT hA (by omega) (by decide) (by decide) (by omega) rfl rfl (fun _ => (ct_B11 hT (hA.one (by omega) 11) (by omega) (by omega) (by omega))) (fun q => absurd rfl q)

set_option maxRecDepth 20000 in
set_option maxHeartbeats 4000000 in
theorem ct_B10 {G : QW} {N : AM} {X P n d : Nat} {b kd ln x dep : Int} (hT : TB G) (hA : AY N X P b kd ln n) (hn : n ≤ 50) (hdep : 0 ≤ dep ∧ dep ≤ 28) (hd : 6 ≤ d) : qM G mX0_performFirst d 0 0 [vR 22, vR X, vI 10, vI x, vI dep] N (fun r N2 => r = some (vI ((runV kd b x) * 2)) ∧ N2 = ranD (runT kd) N) := by
  refine qM.intro okX0_performFirst (Nat.le_of_ble_eq_true rfl) ?_
  have hRB := RBn d
  have hr := hA.r_
  have l1 := runT_len kd
  have l2 := bckT_len kd
  have l3 := senT_len kd
  have l4 := ptlT_len kd
  refine j_iload_n rfl rfl ?_
  refine j_lookup (off := 42) (tgt := 43) rfl (by decide) (by decide) (by decide) (by rfl) (by decide) ?_
  refine j_aload_n rfl rfl ?_
  refine j_aload_n rfl rfl ?_
  refine j_iconst rfl ?_
  refine j_aload_n rfl rfl ?_
  refine j_getI rfl f_X0_41 rfl hA.2.2.1.1.1 hA.2.2.1.1.2.1 ?_
  rw [hA.kd_]
  refine j_iload_n rfl rfl ?_
  refine j_iload rfl rfl ?_
  refine j_callV (ci := 0) rfl okX0_perform c_X0_44 (ct_P0k (d := 5) hT hA (by omega) (by omega) (by decide)) rfl rfl (hA.1.lt (by decide)) (hA.1.k (by decide) (by decide)) (by decide) rfl (Nat.le_of_ble_eq_true rfl) (RB.call hRB (by omega) (by decide)) ⟨Nat.le_refl _, Nat.le_refl _⟩ ?_
  rintro vq mq ⟨e1, e2⟩
  rw [e1, e2]
  clear e1 e2
  simp only [Option.toList_some, Option.toList_none, List.cons_append, List.nil_append]
  have hA := (hA.list (runT kd) (by first | omega | (simp only [List.length_append, List.length_cons, List.length_nil]; omega))).up (n2 := n + 12) (by first | omega | (simp only [List.length_append, List.length_cons, List.length_nil]; omega))
  refine j_iconst rfl ?_
  refine j_imul rfl ?_
  refine j_iret rfl rfl ?_ rfl (Nat.le_refl _)
  exact ⟨rfl, rfl⟩

set_option maxRecDepth 20000 in
set_option maxHeartbeats 4000000 in
theorem ct_P10 {G : QW} {N : AM} {X P n d : Nat} {b kd ln x dep : Int} (hT : TB G) (hA : AY N X P b kd ln n) (hn : n ≤ 45) (hdep : 0 ≤ dep ∧ dep ≤ 27) (hd : 7 ≤ d) : qM G mX0_perform d 0 0 [vR 22, vR X, vI 1, vI 0, vI x, vI dep] N (fun r N2 => r = some (vI ((runV kd b x) * 2)) ∧ N2 = ranD (10 :: runT kd) N) := by
  obtain ⟨d, rfl⟩ : ∃ d', d = d' + 1 := ⟨d - 1, by omega⟩
  exact ct_perform (K := 0) (B := 10) hT hA (by omega) (by decide) (by decide) (by omega) rfl rfl (fun _ => (ct_B10 hT (hA.one (by omega) 10) (by omega) (by omega) (by omega))) (fun q => absurd rfl q)

set_option maxRecDepth 20000 in
set_option maxHeartbeats 4000000 in
theorem ct_P13 {G : QW} {N : AM} {X P n d : Nat} {b kd ln x dep : Int} (hT : TB G) (hA : AY N X P b kd ln n) (hn : n ≤ 45) (hdep : 0 ≤ dep ∧ dep ≤ 27) (hd : 7 ≤ d) : qM G mX0_perform d 0 0 [vR 22, vR X, vI 1, vI 3, vI x, vI dep] N (fun r N2 => r = some (vI ((runV kd b x) * 2)) ∧ N2 = ranD (10 :: runT kd) N) := by
  obtain ⟨d, rfl⟩ : ∃ d', d = d' + 1 := ⟨d - 1, by omega⟩
  exact ct_perform (K := 0) (B := 10) hT hA (by omega) (by decide) (by decide) (by omega) rfl rfl (fun _ => (ct_B10 hT (hA.one (by omega) 10) (by omega) (by omega) (by omega))) (fun q => absurd rfl q)

set_option maxRecDepth 20000 in
set_option maxHeartbeats 4000000 in
theorem ct_B20 {G : QW} {N : AM} {X P n d : Nat} {b kd ln x dep : Int} (hT : TB G) (hA : AY N X P b kd ln n) (hn : n ≤ 45) (hdep : 0 ≤ dep ∧ dep ≤ 27) (hd : 8 ≤ d) : qM G mX0_performAbove d 0 0 [vR 22, vR X, vI 20, vI x, vI dep] N (fun r N2 => r = some (vI (((runV kd b x) * 2) + ln)) ∧ N2 = ranD (10 :: runT kd) N) := by
  refine qM.intro okX0_performAbove (Nat.le_of_ble_eq_true rfl) ?_
  have hRB := RBn d
  have hr := hA.r_
  have l1 := runT_len kd
  have l2 := bckT_len kd
  have l3 := senT_len kd
  have l4 := ptlT_len kd
  refine j_iload_n rfl rfl ?_
  refine j_lookup (off := 67) (tgt := 68) rfl (by decide) (by decide) (by decide) (by rfl) (by decide) ?_
  refine j_aload_n rfl rfl ?_
  refine j_aload_n rfl rfl ?_
  refine j_iconst rfl ?_
  refine j_iconst rfl ?_
  refine j_iload_n rfl rfl ?_
  refine j_iload rfl rfl ?_
  refine j_callV (ci := 0) rfl okX0_perform c_X0_44 (ct_P10 (d := 7) hT hA (by omega) (by omega) (by decide)) rfl rfl (hA.1.lt (by decide)) (hA.1.k (by decide) (by decide)) (by decide) rfl (Nat.le_of_ble_eq_true rfl) (RB.call hRB (by omega) (by decide)) ⟨Nat.le_refl _, Nat.le_refl _⟩ ?_
  rintro vq mq ⟨e1, e2⟩
  rw [e1, e2]
  clear e1 e2
  simp only [Option.toList_some, Option.toList_none, List.cons_append, List.nil_append]
  have hA := (hA.list (10 :: runT kd) (by first | omega | (simp only [List.length_append, List.length_cons, List.length_nil]; omega))).up (n2 := n + 12) (by first | omega | (simp only [List.length_append, List.length_cons, List.length_nil]; omega))
  refine j_aload_n rfl rfl ?_
  refine j_getR (q := P) rfl f_X0_48 rfl hA.2.2.1.1.1 hA.2.2.1.1.2.1 hA.2.2.1.2.1 ?_
  refine j_getI rfl f_X0_52 rfl hA.2.2.1.2.2.1 hA.2.2.1.2.2.2.1 ?_
  rw [hA.ln_]
  refine j_iadd rfl ?_
  refine j_iret rfl rfl ?_ rfl (Nat.le_refl _)
  exact ⟨rfl, rfl⟩

set_option maxRecDepth 20000 in
set_option maxHeartbeats 4000000 in
theorem ct_B71 {G : QW} {N : AM} {X P n d : Nat} {b kd ln x dep : Int} (hT : TB G) (hA : AY N X P b kd ln n) (hn : n ≤ 45) (hdep : 0 ≤ dep ∧ dep ≤ 27) (hd : 8 ≤ d) : qM G mX0_performAbove d 0 0 [vR 22, vR X, vI 71, vI x, vI dep] N (fun r N2 => r = some (vI (((runV kd b x) * 2) - (bckV kd b 2))) ∧ N2 = ranD (10 :: (runT kd ++ bckT kd)) N) := by
  refine qM.intro okX0_performAbove (Nat.le_of_ble_eq_true rfl) ?_
  have hRB := RBn d
  have hr := hA.r_
  have l1 := runT_len kd
  have l2 := bckT_len kd
  have l3 := senT_len kd
  have l4 := ptlT_len kd
  refine j_iload_n rfl rfl ?_
  refine j_lookup (off := 164) (tgt := 165) rfl (by decide) (by decide) (by decide) (by rfl) (by decide) ?_
  refine j_aload_n rfl rfl ?_
  refine j_aload_n rfl rfl ?_
  refine j_iconst rfl ?_
  refine j_iconst rfl ?_
  refine j_iload_n rfl rfl ?_
  refine j_iload rfl rfl ?_
  refine j_callV (ci := 0) rfl okX0_perform c_X0_44 (ct_P13 (d := 7) hT hA (by omega) (by omega) (by decide)) rfl rfl (hA.1.lt (by decide)) (hA.1.k (by decide) (by decide)) (by decide) rfl (Nat.le_of_ble_eq_true rfl) (RB.call hRB (by omega) (by decide)) ⟨Nat.le_refl _, Nat.le_refl _⟩ ?_
  rintro vq mq ⟨e1, e2⟩
  rw [e1, e2]
  clear e1 e2
  simp only [Option.toList_some, Option.toList_none, List.cons_append, List.nil_append]
  have hA := (hA.list (10 :: runT kd) (by first | omega | (simp only [List.length_append, List.length_cons, List.length_nil]; omega))).up (n2 := n + 12) (by first | omega | (simp only [List.length_append, List.length_cons, List.length_nil]; omega))
  refine j_aload_n rfl rfl ?_
  refine j_aload_n rfl rfl ?_
  refine j_iconst rfl ?_
  refine j_aload_n rfl rfl ?_
  refine j_getI rfl f_X0_41 rfl hA.2.2.1.1.1 hA.2.2.1.1.2.1 ?_
  rw [hA.kd_]
  refine j_iconst rfl ?_
  refine j_iload rfl rfl ?_
  refine j_callV (ci := 0) rfl okX0_perform c_X0_44 (ct_P2k (d := 3) hT hA (by omega) (by omega) (by decide)) rfl rfl (hA.1.lt (by decide)) (hA.1.k (by decide) (by decide)) (by decide) rfl (Nat.le_of_ble_eq_true rfl) (RB.call hRB (by omega) (by decide)) ⟨Nat.le_refl _, Nat.le_refl _⟩ ?_
  rintro vq mq ⟨e1, e2⟩
  rw [e1, e2]
  clear e1 e2
  simp only [Option.toList_some, Option.toList_none, List.cons_append, List.nil_append]
  have hA := (hA.list (bckT kd) (by first | omega | (simp only [List.length_append, List.length_cons, List.length_nil]; omega))).up (n2 := n + 24) (by first | omega | (simp only [List.length_append, List.length_cons, List.length_nil]; omega))
  refine j_isub rfl ?_
  refine j_iret rfl rfl ?_ rfl (Nat.le_refl _)
  exact ⟨rfl, (ranD_app _ _ N).symm⟩

set_option maxRecDepth 20000 in
set_option maxHeartbeats 4000000 in
theorem ct_P1k {G : QW} {N : AM} {X P n d : Nat} {b kd ln x dep : Int} (hT : TB G) (hA : AY N X P b kd ln n) (hn : n ≤ 40) (hdep : 0 ≤ dep ∧ dep ≤ 26) (hd : 9 ≤ d) : qM G mX0_perform d 0 0 [vR 22, vR X, vI 1, vI kd, vI x, vI dep] N (fun r N2 => r = some (vI (senV kd b x ln)) ∧ N2 = ranD (senT kd) N) := by
  obtain ⟨d, rfl⟩ : ∃ d', d = d' + 1 := ⟨d - 1, by omega⟩
  have hr := hA.r_
  have hk : kd = 0 ∨ kd = 1 ∨ kd = 2 ∨ kd = 3 ∨ kd = 4 ∨ kd = 5 ∨ kd = 6 := by omega
  rcases hk with rfl | rfl | rfl | rfl | rfl | rfl | rfl
  · exact ct_perform (K := 0) (B := 10) hT hA (by omega) (by decide) (by decide) (by omega) rfl rfl (fun _ => (ct_B10 hT (hA.one (by omega) 10) (by omega) (by omega) (by omega))) (fun q => absurd rfl q)
  · exact ct_perform (K := 1) (B := 20) hT hA (by omega) (by decide) (by decide) (by omega) rfl rfl (fun q => absurd q (by decide)) (fun _ => (ct_B20 hT (hA.one (by omega) 20) (by omega) (by omega) (by omega)))
  · exact ct_perform (K := 0) (B := 10) hT hA (by omega) (by decide) (by decide) (by omega) rfl rfl (fun _ => (ct_B10 hT (hA.one (by omega) 10) (by omega) (by omega) (by omega))) (fun q => absurd rfl q)
  · exact ct_perform (K := 0) (B := 10) hT hA (by omega) (by decide) (by decide) (by omega) rfl rfl (fun _ => (ct_B10 hT (hA.one (by omega) 10) (by omega) (by omega) (by omega))) (fun q => absurd rfl q)
  · exact ct_perform (K := 0) (B := 10) hT hA (by omega) (by decide) (by decide) (by omega) rfl rfl (fun _ => (ct_B10 hT (hA.one (by omega) 10) (by omega) (by omega) (by omega))) (fun q => absurd rfl q)
  · exact ct_perform (K := 0) (B := 10) hT hA (by omega) (by decide) (by decide) (by omega) rfl rfl (fun _ => (ct_B10 hT (hA.one (by omega) 10) (by omega) (by omega) (by omega))) (fun q => absurd rfl q)
  · exact ct_perform (K := 6) (B := 71) hT hA (by omega) (by decide) (by decide) (by omega) rfl rfl (fun q => absurd q (by decide)) (fun _ => (ct_B71 hT (hA.one (by omega) 71) (by omega) (by omega) (by omega)))

set_option maxRecDepth 20000 in
set_option maxHeartbeats 4000000 in
theorem ct_B2 {G : QW} {N : AM} {X P n d : Nat} {b kd ln x dep : Int} (hT : TB G) (hA : AY N X P b kd ln n) (hn : n ≤ 35) (hdep : 0 ≤ dep ∧ dep ≤ 26) (hd : 10 ≤ d) : qM G mX0_performFirst d 0 0 [vR 22, vR X, vI 2, vI x, vI dep] N (fun r N2 => r = some (vI ((senV kd b x ln) - (bckV kd b 1))) ∧ N2 = ranD (senT kd ++ bckT kd) N) := by
  refine qM.intro okX0_performFirst (Nat.le_of_ble_eq_true rfl) ?_
  have hRB := RBn d
  have hr := hA.r_
  have l1 := runT_len kd
  have l2 := bckT_len kd
  have l3 := senT_len kd
  have l4 := ptlT_len kd
  refine j_iload_n rfl rfl ?_
  refine j_lookup (off := 65) (tgt := 66) rfl (by decide) (by decide) (by decide) (by rfl) (by decide) ?_
  refine j_aload_n rfl rfl ?_
  refine j_aload_n rfl rfl ?_
  refine j_iconst rfl ?_
  refine j_aload_n rfl rfl ?_
  refine j_getI rfl f_X0_41 rfl hA.2.2.1.1.1 hA.2.2.1.1.2.1 ?_
  rw [hA.kd_]
  refine j_iload_n rfl rfl ?_
  refine j_iload rfl rfl ?_
  refine j_callV (ci := 0) rfl okX0_perform c_X0_44 (ct_P1k (d := 9) hT hA (by omega) (by omega) (by decide)) rfl rfl (hA.1.lt (by decide)) (hA.1.k (by decide) (by decide)) (by decide) rfl (Nat.le_of_ble_eq_true rfl) (RB.call hRB (by omega) (by decide)) ⟨Nat.le_refl _, Nat.le_refl _⟩ ?_
  rintro vq mq ⟨e1, e2⟩
  rw [e1, e2]
  clear e1 e2
  simp only [Option.toList_some, Option.toList_none, List.cons_append, List.nil_append]
  have hA := (hA.list (senT kd) (by first | omega | (simp only [List.length_append, List.length_cons, List.length_nil]; omega))).up (n2 := n + 12) (by first | omega | (simp only [List.length_append, List.length_cons, List.length_nil]; omega))
  refine j_aload_n rfl rfl ?_
  refine j_aload_n rfl rfl ?_
  refine j_iconst rfl ?_
  refine j_aload_n rfl rfl ?_
  refine j_getI rfl f_X0_41 rfl hA.2.2.1.1.1 hA.2.2.1.1.2.1 ?_
  rw [hA.kd_]
  refine j_iconst rfl ?_
  refine j_iload rfl rfl ?_
  refine j_callV (ci := 0) rfl okX0_perform c_X0_44 (ct_P2k (d := 3) hT hA (by omega) (by omega) (by decide)) rfl rfl (hA.1.lt (by decide)) (hA.1.k (by decide) (by decide)) (by decide) rfl (Nat.le_of_ble_eq_true rfl) (RB.call hRB (by omega) (by decide)) ⟨Nat.le_refl _, Nat.le_refl _⟩ ?_
  rintro vq mq ⟨e1, e2⟩
  rw [e1, e2]
  clear e1 e2
  simp only [Option.toList_some, Option.toList_none, List.cons_append, List.nil_append]
  have hA := (hA.list (bckT kd) (by first | omega | (simp only [List.length_append, List.length_cons, List.length_nil]; omega))).up (n2 := n + 24) (by first | omega | (simp only [List.length_append, List.length_cons, List.length_nil]; omega))
  refine j_isub rfl ?_
  refine j_iret rfl rfl ?_ rfl (Nat.le_refl _)
  exact ⟨rfl, (ranD_app _ _ N).symm⟩

set_option maxRecDepth 20000 in
set_option maxHeartbeats 4000000 in
theorem ct_P30 {G : QW} {N : AM} {X P n d : Nat} {b kd ln x dep : Int} (hT : TB G) (hA : AY N X P b kd ln n) (hn : n ≤ 30) (hdep : 0 ≤ dep ∧ dep ≤ 25) (hd : 11 ≤ d) : qM G mX0_perform d 0 0 [vR 22, vR X, vI 3, vI 0, vI x, vI dep] N (fun r N2 => r = some (vI (ptlV kd b x ln)) ∧ N2 = ranD (ptlT kd) N) := by
  obtain ⟨d, rfl⟩ : ∃ d', d = d' + 1 := ⟨d - 1, by omega⟩
  exact ct_perform (K := 0) (B := 2) hT hA (by omega) (by decide) (by decide) (by omega) rfl rfl (fun _ => (ct_B2 hT (hA.one (by omega) 2) (by omega) (by omega) (by omega))) (fun q => absurd rfl q)

set_option maxRecDepth 20000 in
set_option maxHeartbeats 4000000 in
theorem ct_B50 {G : QW} {N : AM} {X P n d : Nat} {b kd ln x dep : Int} (hT : TB G) (hA : AY N X P b kd ln n) (hn : n ≤ 30) (hdep : 0 ≤ dep ∧ dep ≤ 25) (hd : 12 ≤ d) : qM G mX0_performAbove d 0 0 [vR 22, vR X, vI 50, vI x, vI dep] N (fun r N2 => r = some (vI (z_ixor (ptlV kd b x ln) 6)) ∧ N2 = ranD (ptlT kd) N) := by
  refine qM.intro okX0_performAbove (Nat.le_of_ble_eq_true rfl) ?_
  have hRB := RBn d
  have hr := hA.r_
  have l1 := runT_len kd
  have l2 := bckT_len kd
  have l3 := senT_len kd
  have l4 := ptlT_len kd
  refine j_iload_n rfl rfl ?_
  refine j_lookup (off := 112) (tgt := 113) rfl (by decide) (by decide) (by decide) (by rfl) (by decide) ?_
  refine j_aload_n rfl rfl ?_
  refine j_aload_n rfl rfl ?_
  refine j_iconst rfl ?_
  refine j_iconst rfl ?_
  refine j_iload_n rfl rfl ?_
  refine j_iload rfl rfl ?_
  refine j_callV (ci := 0) rfl okX0_perform c_X0_44 (ct_P30 (d := 11) hT hA (by omega) (by omega) (by decide)) rfl rfl (hA.1.lt (by decide)) (hA.1.k (by decide) (by decide)) (by decide) rfl (Nat.le_of_ble_eq_true rfl) (RB.call hRB (by omega) (by decide)) ⟨Nat.le_refl _, Nat.le_refl _⟩ ?_
  rintro vq mq ⟨e1, e2⟩
  rw [e1, e2]
  clear e1 e2
  simp only [Option.toList_some, Option.toList_none, List.cons_append, List.nil_append]
  have hA := (hA.list (ptlT kd) (by first | omega | (simp only [List.length_append, List.length_cons, List.length_nil]; omega))).up (n2 := n + 12) (by first | omega | (simp only [List.length_append, List.length_cons, List.length_nil]; omega))
  refine j_bipush rfl (by decide) ?_
  refine j_ixor rfl ?_
  have z125_1 := z_ixor_rng (ptlV kd b x ln) 6
  refine j_iret rfl rfl ?_ rfl (Nat.le_refl _)
  exact ⟨rfl, rfl⟩

set_option maxRecDepth 20000 in
set_option maxHeartbeats 4000000 in
theorem ct_P34 {G : QW} {N : AM} {X P n d : Nat} {b kd ln x dep : Int} (hT : TB G) (hA : AY N X P b kd ln n) (hn : n ≤ 25) (hdep : 0 ≤ dep ∧ dep ≤ 24) (hd : 13 ≤ d) : qM G mX0_perform d 0 0 [vR 22, vR X, vI 3, vI 4, vI x, vI dep] N (fun r N2 => r = some (vI (z_ixor (ptlV kd b x ln) 6)) ∧ N2 = ranD (50 :: ptlT kd) N) := by
  obtain ⟨d, rfl⟩ : ∃ d', d = d' + 1 := ⟨d - 1, by omega⟩
  exact ct_perform (K := 4) (B := 50) hT hA (by omega) (by decide) (by decide) (by omega) rfl rfl (fun q => absurd q (by decide)) (fun _ => (ct_B50 hT (hA.one (by omega) 50) (by omega) (by omega) (by omega)))

set_option maxRecDepth 20000 in
set_option maxHeartbeats 4000000 in
theorem ct_B61 {G : QW} {N : AM} {X P n d : Nat} {b kd ln x dep : Int} (hT : TB G) (hA : AY N X P b kd ln n) (hn : n ≤ 25) (hdep : 0 ≤ dep ∧ dep ≤ 24) (hd : 14 ≤ d) : qM G mX0_performAbove d 0 0 [vR 22, vR X, vI 61, vI x, vI dep] N (fun r N2 => r = some (vI (z_ixor (ptlV kd b (x + 1) ln) 6)) ∧ N2 = ranD (50 :: ptlT kd) N) := by
  refine qM.intro okX0_performAbove (Nat.le_of_ble_eq_true rfl) ?_
  have hRB := RBn d
  have hr := hA.r_
  have l1 := runT_len kd
  have l2 := bckT_len kd
  have l3 := senT_len kd
  have l4 := ptlT_len kd
  refine j_iload_n rfl rfl ?_
  refine j_lookup (off := 138) (tgt := 139) rfl (by decide) (by decide) (by decide) (by rfl) (by decide) ?_
  refine j_aload_n rfl rfl ?_
  refine j_aload_n rfl rfl ?_
  refine j_iconst rfl ?_
  refine j_iconst rfl ?_
  refine j_iload_n rfl rfl ?_
  refine j_iconst rfl ?_
  refine j_iadd rfl ?_
  refine j_iload rfl rfl ?_
  refine j_callV (ci := 0) rfl okX0_perform c_X0_44 (ct_P34 (d := 13) hT hA (by omega) (by omega) (by decide)) rfl rfl (hA.1.lt (by decide)) (hA.1.k (by decide) (by decide)) (by decide) rfl (Nat.le_of_ble_eq_true rfl) (RB.call hRB (by omega) (by decide)) ⟨Nat.le_refl _, Nat.le_refl _⟩ ?_
  rintro vq mq ⟨e1, e2⟩
  rw [e1, e2]
  clear e1 e2
  simp only [Option.toList_some, Option.toList_none, List.cons_append, List.nil_append]
  have hA := (hA.list (50 :: ptlT kd) (by first | omega | (simp only [List.length_append, List.length_cons, List.length_nil]; omega))).up (n2 := n + 12) (by first | omega | (simp only [List.length_append, List.length_cons, List.length_nil]; omega))
  refine j_iret rfl rfl ?_ rfl (Nat.le_refl _)
  exact ⟨rfl, rfl⟩

set_option maxRecDepth 20000 in
set_option maxHeartbeats 4000000 in
theorem ct_P3k {G : QW} {N : AM} {X P n d : Nat} {b kd ln x dep : Int} (hT : TB G) (hA : AY N X P b kd ln n) (hn : n ≤ 20) (hdep : 0 ≤ dep ∧ dep ≤ 23) (hd : 15 ≤ d) : qM G mX0_perform d 0 0 [vR 22, vR X, vI 3, vI kd, vI x, vI dep] N (fun r N2 => r = some (vI (telV kd b x ln)) ∧ N2 = ranD (telT kd) N) := by
  obtain ⟨d, rfl⟩ : ∃ d', d = d' + 1 := ⟨d - 1, by omega⟩
  have hr := hA.r_
  have hk : kd = 0 ∨ kd = 1 ∨ kd = 2 ∨ kd = 3 ∨ kd = 4 ∨ kd = 5 ∨ kd = 6 := by omega
  rcases hk with rfl | rfl | rfl | rfl | rfl | rfl | rfl
  · exact ct_perform (K := 0) (B := 2) hT hA (by omega) (by decide) (by decide) (by omega) rfl rfl (fun _ => (ct_B2 hT (hA.one (by omega) 2) (by omega) (by omega) (by omega))) (fun q => absurd rfl q)
  · exact ct_perform (K := 0) (B := 2) hT hA (by omega) (by decide) (by decide) (by omega) rfl rfl (fun _ => (ct_B2 hT (hA.one (by omega) 2) (by omega) (by omega) (by omega))) (fun q => absurd rfl q)
  · exact ct_perform (K := 0) (B := 2) hT hA (by omega) (by decide) (by decide) (by omega) rfl rfl (fun _ => (ct_B2 hT (hA.one (by omega) 2) (by omega) (by omega) (by omega))) (fun q => absurd rfl q)
  · exact ct_perform (K := 0) (B := 2) hT hA (by omega) (by decide) (by decide) (by omega) rfl rfl (fun _ => (ct_B2 hT (hA.one (by omega) 2) (by omega) (by omega) (by omega))) (fun q => absurd rfl q)
  · exact ct_perform (K := 4) (B := 50) hT hA (by omega) (by decide) (by decide) (by omega) rfl rfl (fun q => absurd q (by decide)) (fun _ => (ct_B50 hT (hA.one (by omega) 50) (by omega) (by omega) (by omega)))
  · exact ct_perform (K := 5) (B := 61) hT hA (by omega) (by decide) (by decide) (by omega) rfl rfl (fun q => absurd q (by decide)) (fun _ => (ct_B61 hT (hA.one (by omega) 61) (by omega) (by omega) (by omega)))
  · exact ct_perform (K := 0) (B := 2) hT hA (by omega) (by decide) (by decide) (by omega) rfl rfl (fun _ => (ct_B2 hT (hA.one (by omega) 2) (by omega) (by omega) (by omega))) (fun q => absurd rfl q)

