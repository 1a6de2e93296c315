/-- how program() ends -/
def PGR (m : AM) (b : Int) (R : Except Int (PSt × List LRec)) : Option Vl → AM → Prop := fun r m' => match R with
  | .error p => r = some (vI (-100 - p)) ∧ ∃ N, FG m N ∧ IM N ∧ m' = si N 86 16 0
  | .ok z => r = some (vI z.2.length) ∧ ∃ N, FG m N ∧ IM N ∧ PS N z.1.1 0 z.1.2 ∧ RowsAll N z.2 ∧ mi N 91 6 = z.2.length ∧ m' = pgM N b

theorem lp_program_87E {G : QW} {m N : AM} {b p : Int} (hS : St m) (hG : FG m N) (hI : IM N) (e18 : mi N 86 18 = p) (hp0 : 0 ≤ p) : qJ G mX12_program { frames := 45, cells := 0, slots := 0, locals := 60 * 45 } (qF G (PGR m b (.error p)) 0 0) 87 [(0, vR 86), (1, vI b)] [] N 0 0 := by
  refine j_aload_n rfl rfl ?_
  refine j_iconst rfl ?_
  refine j_putI rfl f_X12_207 rfl ((hG.st hS).lt (by decide)) ((hG.st hS).k (by decide) (by decide)) ?_
  refine j_aload_n rfl rfl ?_
  refine j_getI rfl f_X12_213 rfl ((hG.st hS).lt (by decide)) ((hG.st hS).k (by decide) (by decide)) ?_
  rw [show mi (si N 86 16 0) 86 18 = mi N 86 18 from by simp [mi_si, mi_fil, mi_cpr, mi_sl, mi_sr]]
  have u93_1 := mi_rng N 86 18
  refine j_if_lt (tgt := 107) rfl (by decide) (by omega) (by omega) (fun hb96_1 => ?_) (fun hb96_1 => ?_)
  · skip
    exfalso; omega
  · skip
    refine j_bipush rfl (by decide) ?_
    refine j_aload_n rfl rfl ?_
    refine j_getI rfl f_X12_213 rfl ((hG.st hS).lt (by decide)) ((hG.st hS).k (by decide) (by decide)) ?_
    rw [show mi (si N 86 16 0) 86 18 = mi N 86 18 from by simp [mi_si, mi_fil, mi_cpr, mi_sl, mi_sr]]
    have u102_1 := mi_rng N 86 18
    refine j_isub rfl ?_
    refine j_iret rfl rfl ?_ rfl (Nat.le_refl _)
    rw [show mi N 86 18 = p from e18]
    exact ⟨rfl, N, hG, hI, rfl⟩

set_option maxRecDepth 20000 in
set_option maxHeartbeats 4000000 in
theorem lp_program_87O {G : QW} {m N : AM} {b : Int} {z : PSt × List LRec} (hS : St m) (hG : FG m N) (hI : IM N) (hP : PS N z.1.1 0 z.1.2) (hA : RowsAll N z.2) (h6 : mi N 91 6 = z.2.length) (hb0 : 0 ≤ b) (hb5 : b ≤ 5) (hlen : z.1.2.length ≤ 160) : qJ G mX12_program { frames := 45, cells := 0, slots := 0, locals := 60 * 45 } (qF G (PGR m b (.ok z)) 0 0) 87 [(0, vR 86), (1, vI b)] [] N 0 0 := by
  have h20 : mi N 86 20 = z.1.2.length := hP.2.2.2.1
  have e18 := hP.2.1
  refine j_aload_n rfl rfl ?_
  refine j_iconst rfl ?_
  refine j_putI rfl f_X12_207 rfl ((hG.st hS).lt (by decide)) ((hG.st hS).k (by decide) (by decide)) ?_
  refine j_aload_n rfl rfl ?_
  have e18 := hP.2.1
  refine j_getI rfl f_X12_213 rfl ((hG.st hS).lt (by decide)) ((hG.st hS).k (by decide) (by decide)) ?_
  rw [show mi (si N 86 16 0) 86 18 = mi N 86 18 from by simp [mi_si, mi_fil, mi_cpr, mi_sl, mi_sr]]
  have u93_1 := mi_rng N 86 18
  refine j_if_lt (tgt := 107) rfl (by decide) (by omega) (by omega) (fun hb96_1 => ?_) (fun hb96_1 => ?_)
  · skip
    refine j_aload_n rfl rfl ?_
    refine j_getR (q := 91) rfl f_X12_22 rfl ((hG.st hS).lt (by decide)) ((hG.st hS).k (by decide) (by decide)) ((hG.st hS).r (by decide)) ?_
    refine j_iload_n rfl rfl ?_
    refine j_aload_n rfl rfl ?_
    refine j_getR (q := 91) rfl f_X12_22 rfl ((hG.st hS).lt (by decide)) ((hG.st hS).k (by decide) (by decide)) ((hG.st hS).r (by decide)) ?_
    refine j_bipush rfl (by decide) ?_
    refine j_iald (n := 7) rfl ((hG.st hS).lt (by decide)) ((hG.st hS).k (by decide) (by decide)) ((hG.st hS).n (by decide) (by decide)) (by omega) (by omega) (by decide) ?_
    rw [show mi (si N 86 16 0) 91 (6 : Int).toNat = mi N 91 (6 : Int).toNat from by simp [mi_si, mi_fil, mi_cpr, mi_sl, mi_sr, ml_sl, ml_si, ml_sr, ml_fil, ml_cpr]]
    have u118_1 := mi_rng N 91 (6 : Int).toNat
    refine j_iast (n := 7) rfl ((hG.st hS).lt (by decide)) ((hG.st hS).k (by decide) (by decide)) ((hG.st hS).n (by decide) (by decide)) (by omega) (by omega) (by first | decide | omega) ?_
    refine j_iconst rfl ?_
    refine j_istore_n rfl (by decide) ?_
    refine j_loc (ls' := [(0, vR 86), (1, vI b), (2, vI 0)]) rfl ?_
    refine qJ_mem (m' := (mvr (mvr (mvr (mvr (mvr (mvr (si (si N 86 16 0) 91 b.toNat (mi N 91 (6 : Int).toNat)) 92 (12 * b) 72 0) 93 (12 * b) 72 0) 94 (12 * b) 72 0) 95 (12 * b) 72 0) 96 (12 * b) 72 0) 97 (12 * b) 72 0)) (by simp only [mvr_0 _ _ _ _ (Int.le_refl _)]) ?_
    have h01 : ∀ o j : Nat, o = 92 ∨ o = 93 → 0 ≤ mi (si (si N 86 16 0) 91 b.toNat (mi N 91 (6 : Int).toNat)) o j ∧ mi (si (si N 86 16 0) 91 b.toNat (mi N 91 (6 : Int).toNat)) o j ≤ 1 := fun o j ho => by rw [mi_si_ne _ _ (by omega), mi_si_ne _ _ (by omega)]; rcases ho with rfl | rfl; exact hI.a 92 0 1 (by decide) j; exact hI.a 93 0 1 (by decide) j
    refine lp_program_122 (m := (si (si N 86 16 0) 91 b.toNat (mi N 91 (6 : Int).toNat))) (hG.st hS) hb0 hb5 h01 ?_ 12 0 (by decide) (by decide)
    refine j_iconst rfl ?_
    refine j_istore_n rfl (by decide) ?_
    refine j_loc (ls' := [(0, vR 86), (1, vI b), (2, vI 0)]) rfl ?_
    refine qJ_mem (m' := (mvr (mvr (mvr (mvr (mvr (mvr (mvr (mvr (si (si N 86 16 0) 91 b.toNat (mi N 91 (6 : Int).toNat)) 92 (12 * b) 72 12) 93 (12 * b) 72 12) 94 (12 * b) 72 12) 95 (12 * b) 72 12) 96 (12 * b) 72 12) 97 (12 * b) 72 12) 98 (170 * b) 1020 0) 99 (170 * b) 1020 0)) (by simp only [mvr_0 _ _ _ _ (Int.le_refl _)]) ?_
    have e20 : mi (mvr (mvr (mvr (mvr (mvr (mvr (si (si N 86 16 0) 91 b.toNat (mi N 91 (6 : Int).toNat)) 92 (12 * b) 72 12) 93 (12 * b) 72 12) 94 (12 * b) 72 12) 95 (12 * b) 72 12) 96 (12 * b) 72 12) 97 (12 * b) 72 12) 86 20 = mi N 86 20 := by simp only [mi_mvr]; simp [mi_si]
    have e98 : ∀ j : Nat, 0 ≤ mi (mvr (mvr (mvr (mvr (mvr (mvr (si (si N 86 16 0) 91 b.toNat (mi N 91 (6 : Int).toNat)) 92 (12 * b) 72 12) 93 (12 * b) 72 12) 94 (12 * b) 72 12) 95 (12 * b) 72 12) 96 (12 * b) 72 12) 97 (12 * b) 72 12) 98 j ∧ mi (mvr (mvr (mvr (mvr (mvr (mvr (si (si N 86 16 0) 91 b.toNat (mi N 91 (6 : Int).toNat)) 92 (12 * b) 72 12) 93 (12 * b) 72 12) 94 (12 * b) 72 12) 95 (12 * b) 72 12) 96 (12 * b) 72 12) 97 (12 * b) 72 12) 98 j ≤ 124 := fun j => by have q : mi (mvr (mvr (mvr (mvr (mvr (mvr (si (si N 86 16 0) 91 b.toNat (mi N 91 (6 : Int).toNat)) 92 (12 * b) 72 12) 93 (12 * b) 72 12) 94 (12 * b) 72 12) 95 (12 * b) 72 12) 96 (12 * b) 72 12) 97 (12 * b) 72 12) 98 j = mi N 98 j := by {simp only [mi_mvr]; simp [mi_si]}; rw [q]; exact hI.a 98 0 124 (by decide) j
    refine lp_program_227 (m := (mvr (mvr (mvr (mvr (mvr (mvr (si (si N 86 16 0) 91 b.toNat (mi N 91 (6 : Int).toNat)) 92 (12 * b) 72 12) 93 (12 * b) 72 12) 94 (12 * b) 72 12) 95 (12 * b) 72 12) 96 (12 * b) 72 12) 97 (12 * b) 72 12)) (hG.st hS) hb0 hb5 (by rw [e20]; omega) e98 ?_ (mi N 86 20).toNat 0 (by rw [e20]; omega) (Int.le_refl 0)
    rw [e20]
    refine j_aload_n rfl rfl ?_
    refine j_getR (q := 91) rfl f_X12_22 rfl ((hG.st hS).lt (by decide)) ((hG.st hS).k (by decide) (by decide)) ((hG.st hS).r (by decide)) ?_
    refine j_iload_n rfl rfl ?_
    refine j_iald (n := 7) rfl ((hG.st hS).lt (by decide)) ((hG.st hS).k (by decide) (by decide)) ((hG.st hS).n (by decide) (by decide)) (by omega) (by omega) (by decide) ?_
    have u290_1 := mi_rng (mvr (mvr (mvr (mvr (mvr (mvr (mvr (mvr (si (si N 86 16 0) 91 b.toNat (mi N 91 (6 : Int).toNat)) 92 (12 * b) 72 12) 93 (12 * b) 72 12) 94 (12 * b) 72 12) 95 (12 * b) 72 12) 96 (12 * b) 72 12) 97 (12 * b) 72 12) 98 (170 * b) 1020 (mi N 86 20)) 99 (170 * b) 1020 (mi N 86 20)) 91 b.toNat
    refine j_iret rfl rfl ?_ rfl (Nat.le_refl _)
    have ef : mi (mvr (mvr (mvr (mvr (mvr (mvr (mvr (mvr (si (si N 86 16 0) 91 b.toNat (mi N 91 (6 : Int).toNat)) 92 (12 * b) 72 12) 93 (12 * b) 72 12) 94 (12 * b) 72 12) 95 (12 * b) 72 12) 96 (12 * b) 72 12) 97 (12 * b) 72 12) 98 (170 * b) 1020 (mi N 86 20)) 99 (170 * b) 1020 (mi N 86 20)) 91 b.toNat = mi N 91 6 := by simp only [mi_mvr]; simp [mi_si]; exact zi_toInt (mi_rng N 91 6).1 (mi_rng N 91 6).2
    rw [ef, h6]
    exact ⟨rfl, N, hG, hI, hP, hA, h6, rfl⟩
  · skip
    exfalso; omega

