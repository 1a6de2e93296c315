/-! runs of either side from a shared state -/
/-- only cells of the class that runs may write are written -/
def LT (m N : AM) : Prop := ∀ c j : Nat, (24 ≤ c ∧ c ≤ 31) ∨ c = 57 ∨ c = 0 → mi N c j = mi m c j
def CU (m N : AM) : Prop := QU m N ∧ (∀ c j : Nat, 86 ≤ c → c ≤ 144 → mi N c j = mi m c j) ∧ (∀ c j : Nat, 86 ≤ c → c ≤ 144 → ml N c j = ml m c j) ∧ LT m N
theorem CU.rf (m : AM) : CU m m := ⟨QU.rf m, fun _ _ _ _ => rfl, fun _ _ _ _ => rfl, fun _ _ _ => rfl⟩
theorem CU.trans {m N K : AM} (h : CU m N) (h2 : CU N K) : CU m K := ⟨h.1.trans h2.1, fun c j a b => (h2.2.1 c j a b).trans (h.2.1 c j a b), fun c j a b => (h2.2.2.1 c j a b).trans (h.2.2.1 c j a b), fun c j a => (h2.2.2.2 c j a).trans (h.2.2.2 c j a)⟩
theorem TF.cu {m N : AM} {o : Nat} (t : TF o m N) (ho : sto o) (h24 : o ≠ 24) : CU m N := by
  refine ⟨t.qu ho, fun c j a b => t.cel ?_ j, fun c j a b => t.lon (by omega) j, fun c j a => t.cel ?_ j⟩
  · unfold sto at ho
    unfold tcl
    omega
  · unfold sto at ho
    unfold tcl
    omega
theorem CU.cell {m N : AM} (h : CU m N) {c k : Nat} (hc : NQ c k) (h86 : c < 86) (v : Int) (h0 : ¬ ((24 ≤ c ∧ c ≤ 31) ∨ c = 57 ∨ c = 0) := by first | decide | omega) : CU m (si N c k v) := ⟨h.1.cell hc v, fun p j a b => by
  rw [mi_si_ne _ _ (by omega)]
  exact h.2.1 p j a b, h.2.2.1, fun p j a => by
  rw [mi_si_ne (p := p) (j := j) N v (fun q => h0 (by rw [← q.1]; exact a))]
  exact h.2.2.2 p j a⟩
theorem QU.fee {m N : AM} (h : QU m N) {f : Int} (hf : 145 ≤ fl m f) : feF N (fl N f) = feF m (fl m f) := by
  have e : ∀ r j, mi N (fl m f + r) j = mi m (fl m f + r) j := fun r j => h.2.2.1 _ j (nqd (by omega) j)
  rw [h.fle f]
  funext t k
  have e6 : ∀ j, mi N (fl m f + 6 + ((k : Nat) : Int).toNat) j = mi m (fl m f + 6 + ((k : Nat) : Int).toNat) j := fun j => by rw [Nat.add_assoc, e]
  unfold feF FX3_feltAt FJ9_max_7cf53 FJ9_min_7cf53
  simp only [e, e6]
/-- a flight of the class is flown from a state that came from a shared one -/
theorem ct_flyC {G : QW} {m N : AM} {o : Nat} {f n u : Int} (h : QR m) (hc : CU m N) (hQ : QR N) (ho : sto o) (hf : 0 ≤ f ∧ f < mi m 0 17) (hu : -2147483648 ≤ u ∧ u < 2147483648) (hn1 : 0 ≤ n) (hn : n ≤ 200) (h24 : o ≠ 24 := by decide) : qM G mX11_fly 5 0 0 [vR 0, vR o, vR (fl m f), vI n, vI u] N (fun r K => r = none ∧ (TF o N K ∧ JC K o (zwFly (wN m) (feF m (fl m f)) n u) ∧ JF K o (zwFly (wN m) (feF m (fl m f)) n u)) ∧ CU m K ∧ QR K) := by
  have e17 : mi N 0 17 = mi m 0 17 := hc.1.2.2.1 0 17 (by unfold NQ; omega)
  have q := ct_flyQ (G := G) (f := f) (n := n) (u := u) hQ ho (by rw [e17]; exact hf) hu hn1 hn
  rw [hc.1.fle, hc.1.wn] at q
  have e := hc.1.fee (h.flt hf.1 hf.2).1.2
  rw [hc.1.fle] at e
  rw [e] at q
  exact qM.mono q (fun r K z => ⟨z.1, ⟨z.2.1.1.1, z.2.1.1.2.2.2.1, z.2.1.1.2.2.2.2 trivial⟩, hc.trans (z.2.1.1.1.cu ho h24), z.2.2⟩)
theorem ct_flyWithoutC {G : QW} {m N : AM} {f n b fr y : Int} (h : QR m) (hc : CU m N) (hQ : QR N) (hf : 0 ≤ f ∧ f < mi m 0 17) (hb : 0 ≤ b ∧ b ≤ 5) (hfr : -2147483648 ≤ fr ∧ fr < 2147483648) (hy : 0 ≤ y ∧ y ≤ 9) (hn1 : 0 ≤ n) (hn : n ≤ 200) : qM G mX11_flyWithout 5 0 0 [vR 0, vI b, vI fr, vR (fl m f), vI n, vI y] N (fun r K => r = none ∧ (TF 40 N K ∧ JC K 40 (zwFlyX (wN m) (feF m (fl m f)) n b fr y)) ∧ CU m K ∧ QR K) := by
  have ho : sto 40 := Or.inr (Or.inr rfl)
  have e17 : mi N 0 17 = mi m 0 17 := hc.1.2.2.1 0 17 (by unfold NQ; omega)
  have q := ct_flyWithoutK (G := G) (a := fl N f) (n := n) (b := b) (fr := fr) (y := y) (hQ.gt ho) hQ.2.1.1 (hQ.flt hf.1 (by rw [e17]; exact hf.2)).2.1 hb hfr hy hn1 hn hQ.i (hQ.rc ho) hQ.2.2.2.2.1
  have e := hc.1.fee (h.flt hf.1 hf.2).1.2
  rw [e, hc.1.fle, hc.1.wn] at q
  exact qM.mono q (fun r K z => ⟨z.1, ⟨z.2.1.1, z.2.1.2.2.2.1⟩, hc.trans (z.2.1.1.cu ho (by decide)), hQ.bi ho z.2.1 z.2.2⟩)
/-- the reference's world behind runs -/
theorem FQ.wn {m N : AM} (h : FQ m N) : wN N = wN m := h.qu.wn
theorem felt_fq {m N : AM} (h : FQ m N) (k t : Int) : FX12_feltAt N k t = FX12_feltAt m k t := by
  have e : ∀ o ∈ ([101, 102, 103, 104, 105] : List Nat), mi N o = mi m o := fun o ho => funext (fun j => by
    have q := (by decide : ∀ o ∈ ([101, 102, 103, 104, 105] : List Nat), 101 ≤ o ∧ o ≤ 105) o ho
    exact h.cell (by omega) (by omega) (by omega))
  unfold FX12_feltAt FX12_heldBy
  simp only [e 101 (by decide), e 102 (by decide), e 103 (by decide), e 104 (by decide), e 105 (by decide)]
theorem HB.fq {m N : AM} (h : RS m) (hF : FQ m N) : HB N := fun b r h0 h1 r0 r1 => by
  rw [hF.cell (o := 88) (by omega) (by omega) (by omega)]
  exact h.2.1 b r h0 (by rw [← hF.cell (o := 86) (j := 1) (by omega) (by omega) (by omega)]; exact h1) r0 r1
theorem fq_felt {m N : AM} {f n : Int} (h : QR m) (hF : FQ m N) (hf : 0 ≤ f ∧ f < mi m 0 17) : ∀ t, 0 ≤ t → t < n → ∀ j : Nat, j < 3 → FX12_feltAt N ((3 * f) + j) t = feF m (fl m f) t j := fun t h0 _ j hj => by
  rw [felt_fq hF]
  have q := h.flt hf.1 hf.2
  exact felt_agree q.2.2 q.2.1 hf.1 h0 j hj
theorem ref_run {m N : AM} {f n : Int} (h : QR m) (hR : RI N) (hF : FQ m N) (h43 : mi N 86 43 < 0) (h46 : mi N 86 46 < 0) (h48 : mi N 86 48 < 0) (hf : 0 ≤ f ∧ f < mi m 0 17) (hn1 : 0 ≤ n) (hn : n ≤ 200) : JM (roM N f n) (zwFull (wN m) (feF m (fl m f)) n) := by
  have q := roM_zwA (f := f) (n := n) (F := feF m (fl m f)) hR (HB.fq h.1.1 hF) (fq_felt h hF hf) hn1 hn h43 h46
  rw [wM_wN h48, hF.wn] at q
  exact q
theorem ref_stop {m N : AM} {f n b fr : Int} (h : QR m) (hR : RI N) (hF : FQ m N) (h43 : mi N 86 43 < 0) (h46 : mi N 86 46 = b) (h47 : mi N 86 47 = fr) (h48 : mi N 86 48 < 0) (hf : 0 ≤ f ∧ f < mi m 0 17) (hn1 : 0 ≤ n) (hn : n ≤ 200) : JM (roM N f n) (zwFlyX (wN m) (feF m (fl m f)) n b fr 0) := by
  have q := roM_zwS (f := f) (n := n) (F := feF m (fl m f)) hR (HB.fq h.1.1 hF) (fq_felt h hF hf) hn1 hn h43 h46 h47
  rw [wM_wN h48, hF.wn] at q
  exact q
theorem ref_fail {m N : AM} {f n b fr y : Int} (h : QR m) (hR : RI N) (hF : FQ m N) (h43 : mi N 86 43 = b) (h44 : mi N 86 44 = fr) (h45 : mi N 86 45 = y) (hy : 0 < y ∧ y ≤ 10) (h46 : mi N 86 46 < 0) (h48 : mi N 86 48 < 0) (hb : 0 ≤ b ∧ b < mi m 86 1) (hf : 0 ≤ f ∧ f < mi m 0 17) (hn1 : 0 ≤ n) (hn : n ≤ 200) : JM (roM N f n) (zwFlyX (wN m) (feF m (fl m f)) n b fr y) := by
  have q := roM_zwF (f := f) (n := n) (F := feF m (fl m f)) hR (HB.fq h.1.1 hF) (fq_felt h hF hf) hn1 hn h43 h44 h45 hy h46 (by rw [hF.cell (o := 86) (j := 1) (by omega) (by omega) (by omega)]; exact hb)
  rw [wM_wN h48, hF.wn] at q
  exact q
theorem aiM_k (m : AM) : mi (aiM m) 86 43 < 0 ∧ mi (aiM m) 86 46 < 0 ∧ mi (aiM m) 86 48 < 0 := by
  unfold aiM
  rw [mi_si_ne _ _ (by decide), mi_si_ne _ _ (by decide), mi_si_same _ _ _ (by decide) (by decide), mi_si_ne _ _ (by decide), mi_si_same _ _ _ (by decide) (by decide), mi_si_same _ _ _ (by decide) (by decide)]
  decide
theorem FQ.run {m N : AM} (h : FQ m N) (f n : Int) : FQ m (roM N f n) := h.trans (((FR.rf N).run f n).fq)
/-- the numbers by which runs differ stay behind a run -/
theorem roM_k (N : AM) (f n : Int) {k : Nat} (hk : k < 35 ∨ 40 < k) : mi (roM N f n) 86 k = mi N 86 k := ((FR.rf N).run f n).cell (by omega) (by omega)
