/-- how many reals are taken -/
def trN (m : AM) (o : Nat) (i : Int) : Int := if mi m o 3 ≠ -1 ∧ 0 ≤ i ∧ i < mi m o 4 then mi m o 4 - i else 0
/-- reals taken from the t-th on -/
def trL (f : Nat) (k : Int) (o : Nat) (i : Int) : Nat → Int → AM → AM
  | 0, _, N => N
  | c + 1, t, N => trL f k o i c (t + 1) (si N (f + 6 + k.toNat) t.toNat (FX7_feltFrom N o (i + t)))
theorem trL_2 {f : Nat} {k : Int} {o : Nat} {i : Int} : ∀ (c : Nat) (t : Int) (N : AM), (trL f k o i c t N).2 = N.2 := by
  intro c
  induction c with
  | zero => intro t N; rfl
  | succ c ih => intro t N; exact ih _ _
theorem trL_mi {f : Nat} {k : Int} {o : Nat} {i : Int} {p j : Nat} (hp : p ≠ f + 6 + k.toNat) : ∀ (c : Nat) (t : Int) (N : AM), mi (trL f k o i c t N) p j = mi N p j := by
  intro c
  induction c with
  | zero => intro t N; rfl
  | succ c ih => intro t N; exact (ih _ _).trans (mi_si_ne _ _ (fun q => hp q.1))

set_option maxRecDepth 20000 in
set_option maxHeartbeats 4000000 in
theorem lp_takeRow {G : QW} {E : AM} {f o : Nat} {k i z : Int} {Rp : Option Vl → AM → Prop} (hk : 0 ≤ k ∧ k ≤ 2) (hz : 0 ≤ z ∧ (0 < z → 0 ≤ i) ∧ i + z ≤ 60 ∨ z = 0) (hexit : qJ G mX3_takeRow { frames := 2, cells := 0, slots := 0, locals := 60 * 2 } (qF G Rp 0 0) 64 [(0, vR f), (1, vI k), (4, vI z)] [] E 0 0) : ∀ (c : Nat) (t : Int) (N : AM), ObA N f 3 fsFlight → ObA N o 7 fsShelf → (mr N (f + 5) k.toNat = some (f + 6 + k.toNat) ∧ f + 6 + k.toNat < mz N ∧ mk N (f + 6 + k.toNat) = 13 ∧ mn N (f + 6 + k.toNat) = 60) → t + c = z → 0 ≤ t → trL f k o i c t N = E → qJ G mX3_takeRow { frames := 2, cells := 0, slots := 0, locals := 60 * 2 } (qF G Rp 0 0) 34 [(0, vR f), (1, vI k), (2, vR o), (3, vI i), (4, vI z), (5, vI t)] [] N 0 0 := by
  intro c
  induction c with
  | zero =>
    intro t N hF hO hr ht ht0 hE
    refine j_iload rfl rfl ?_
    refine j_iload rfl rfl ?_
    refine j_icmp_ge (tgt := 64) rfl (by decide) (by omega) (by omega) (by omega) (by omega) (fun hb19_1 => ?_) (fun hb19_1 => by exfalso; omega)
    refine j_loc (ls' := [(0, vR f), (1, vI k), (4, vI z)]) rfl ?_
    rw [show E = N from hE.symm] at hexit
    exact hexit
  | succ c ih =>
    intro t N hF hO hr ht ht0 hE
    have hE : trL f k o i c (t + 1) (si N (f + 6 + k.toNat) t.toNat (FX7_feltFrom N o (i + t))) = E := hE
    refine j_iload rfl rfl ?_
    refine j_iload rfl rfl ?_
    refine j_icmp_ge (tgt := 64) rfl (by decide) (by omega) (by omega) (by omega) (by omega) (fun hb38_1 => ?_) (fun hb38_1 => ?_)
    · skip
      exfalso
      omega
    · skip
      refine j_aload_n rfl rfl ?_
      refine j_getR (q := (f + 5)) rfl f_X3_26 rfl hF.1 hF.2.1 (hF.q 4 5 20 3 (by decide)).1 ?_
      refine j_iload_n rfl rfl ?_
      refine j_aald2 (n := 3) (v := (f + 6 + k.toNat)) rfl (hF.q 4 5 20 3 (by decide)).2.1 (hF.q 4 5 20 3 (by decide)).2.2.1 (hF.q 4 5 20 3 (by decide)).2.2.2 (by omega) (by omega) (by decide) hr.1 ?_
      refine j_iload rfl rfl ?_
      refine j_aload_n rfl rfl ?_
      refine j_iload_n rfl rfl ?_
      refine j_iload rfl rfl ?_
      refine j_iadd rfl ?_
      refine j_callV (ci := 7) rfl okX7_feltFrom c_X3_52 (ct_X7_feltFrom (by omega) (by omega) hO (by omega)) rfl rfl hO.1 hO.2.1 (by decide) rfl (Nat.le_of_ble_eq_true rfl) (by decide) (by decide) ?_
      rintro vq mq ⟨e1, e2⟩
      rw [e1, e2]
      clear e1 e2
      simp only [Option.toList_some, Option.toList_none, List.cons_append, List.nil_append]
      refine j_iast (n := 60) rfl hr.2.1 hr.2.2.1 hr.2.2.2 (by omega) (by omega) (by first | decide | omega) ?_
      refine j_iinc rfl rfl (by decide) ?_
      refine j_goto (tgt := 34) rfl (by decide) ?_
      refine j_loc (ls' := [(0, vR f), (1, vI k), (2, vR o), (3, vI i), (4, vI z), (5, vI (t + 1))]) rfl ?_
      exact ih (t + 1) _ hF hO hr (by omega) (by omega) hE

set_option maxRecDepth 20000 in
set_option maxHeartbeats 4000000 in
theorem ct_takeRow {G : QW} {m : AM} {f o : Nat} {k i : Int} (hF : ObA m f 3 fsFlight) (hO : ObA m o 7 fsShelf) (hk : 0 ≤ k ∧ k ≤ 2) (hr : (mr m (f + 5) k.toNat = some (f + 6 + k.toNat) ∧ f + 6 + k.toNat < mz m ∧ mk m (f + 6 + k.toNat) = 13 ∧ mn m (f + 6 + k.toNat) = 60)) (hi1 : -2147483648 ≤ i) (hi2 : i < 2147483648) (hl : 0 ≤ mi m o 4 ∧ mi m o 4 ≤ 60) : qM G mX3_takeRow 2 0 0 [vR f, vI k, vR o, vI i] m (fun r m' => r = some (vI (trN m o i)) ∧ m' = si (trL f k o i (trN m o i).toNat 0 m) (f + 4) k.toNat (trN m o i)) := by
  refine qM.intro okX3_takeRow (Nat.le_of_ble_eq_true rfl) ?_
  refine j_aload_n rfl rfl ?_
  refine j_callV (ci := 7) rfl okX7_holdsRow c_X3_42 (ct_X7_holdsRow hO) rfl rfl hO.1 hO.2.1 (by decide) rfl (Nat.le_of_ble_eq_true rfl) (by decide) (by decide) ?_
  rintro vq mq ⟨e1, e2⟩
  rw [e1, e2]
  clear e1 e2
  simp only [Option.toList_some, Option.toList_none, List.cons_append, List.nil_append]
  refine j_bif_eq (tgt := 28) rfl (by decide) (fun hb4_1 => ?_) (fun hb4_1 => ?_)
  · skip
    refine j_iconst rfl ?_
    refine j_istore rfl (by decide) ?_
    refine j_iconst rfl ?_
    refine j_istore rfl (by decide) ?_
    have hz : trN m o i = 0 := by unfold trN; first | (rw [if_pos (by omega)]; done) | (rw [if_neg (by omega)]; done)
    skip
    refine j_loc (ls' := [(0, vR f), (1, vI k), (2, vR o), (3, vI i), (4, vI 0), (5, vI 0)]) rfl ?_
    refine lp_takeRow (E := trL f k o i (trN m o i).toNat 0 m) hk (Or.inr rfl) ?_ (trN m o i).toNat 0 m hF hO hr (by rw [hz]; decide) (by decide) rfl
    have e2 := trL_2 (f := f) (k := k) (o := o) (i := i) (trN m o i).toNat 0 m
    have hF := ob2 e2 hF
    refine j_aload_n rfl rfl ?_
    refine j_getR (q := (f + 4)) rfl f_X3_21 rfl hF.1 hF.2.1 (hF.q 3 4 13 3 (by decide)).1 ?_
    refine j_iload_n rfl rfl ?_
    refine j_iload rfl rfl ?_
    refine j_iast (n := 3) rfl (hF.q 3 4 13 3 (by decide)).2.1 (hF.q 3 4 13 3 (by decide)).2.2.1 (hF.q 3 4 13 3 (by decide)).2.2.2 (by omega) (by omega) (by first | decide | omega) ?_
    refine j_iload rfl rfl ?_
    refine j_iret rfl rfl ?_ rfl (Nat.le_refl _)
    rw [hz]
    exact ⟨rfl, rfl⟩
  · skip
    refine j_iload_n rfl rfl ?_
    refine j_if_lt (tgt := 28) rfl (by decide) (by omega) (by omega) (fun hb8_1 => ?_) (fun hb8_1 => ?_)
    · skip
      refine j_iconst rfl ?_
      refine j_istore rfl (by decide) ?_
      refine j_iconst rfl ?_
      refine j_istore rfl (by decide) ?_
      have hz : trN m o i = 0 := by unfold trN; first | (rw [if_pos (by omega)]; done) | (rw [if_neg (by omega)]; done)
      skip
      refine j_loc (ls' := [(0, vR f), (1, vI k), (2, vR o), (3, vI i), (4, vI 0), (5, vI 0)]) rfl ?_
      refine lp_takeRow (E := trL f k o i (trN m o i).toNat 0 m) hk (Or.inr rfl) ?_ (trN m o i).toNat 0 m hF hO hr (by rw [hz]; decide) (by decide) rfl
      have e2 := trL_2 (f := f) (k := k) (o := o) (i := i) (trN m o i).toNat 0 m
      have hF := ob2 e2 hF
      refine j_aload_n rfl rfl ?_
      refine j_getR (q := (f + 4)) rfl f_X3_21 rfl hF.1 hF.2.1 (hF.q 3 4 13 3 (by decide)).1 ?_
      refine j_iload_n rfl rfl ?_
      refine j_iload rfl rfl ?_
      refine j_iast (n := 3) rfl (hF.q 3 4 13 3 (by decide)).2.1 (hF.q 3 4 13 3 (by decide)).2.2.1 (hF.q 3 4 13 3 (by decide)).2.2.2 (by omega) (by omega) (by first | decide | omega) ?_
      refine j_iload rfl rfl ?_
      refine j_iret rfl rfl ?_ rfl (Nat.le_refl _)
      rw [hz]
      exact ⟨rfl, rfl⟩
    · skip
      refine j_iload_n rfl rfl ?_
      refine j_aload_n rfl rfl ?_
      refine j_getI rfl f_X3_48 rfl hO.1 hO.2.1 ?_
      have u13_1 := mi_rng m o 4
      refine j_icmp_ge (tgt := 28) rfl (by decide) (by omega) (by omega) (by omega) (by omega) (fun hb16_1 => ?_) (fun hb16_1 => ?_)
      · skip
        refine j_iconst rfl ?_
        refine j_istore rfl (by decide) ?_
        refine j_iconst rfl ?_
        refine j_istore rfl (by decide) ?_
        have hz : trN m o i = 0 := by unfold trN; first | (rw [if_pos (by omega)]; done) | (rw [if_neg (by omega)]; done)
        skip
        refine j_loc (ls' := [(0, vR f), (1, vI k), (2, vR o), (3, vI i), (4, vI 0), (5, vI 0)]) rfl ?_
        refine lp_takeRow (E := trL f k o i (trN m o i).toNat 0 m) hk (Or.inr rfl) ?_ (trN m o i).toNat 0 m hF hO hr (by rw [hz]; decide) (by decide) rfl
        have e2 := trL_2 (f := f) (k := k) (o := o) (i := i) (trN m o i).toNat 0 m
        have hF := ob2 e2 hF
        refine j_aload_n rfl rfl ?_
        refine j_getR (q := (f + 4)) rfl f_X3_21 rfl hF.1 hF.2.1 (hF.q 3 4 13 3 (by decide)).1 ?_
        refine j_iload_n rfl rfl ?_
        refine j_iload rfl rfl ?_
        refine j_iast (n := 3) rfl (hF.q 3 4 13 3 (by decide)).2.1 (hF.q 3 4 13 3 (by decide)).2.2.1 (hF.q 3 4 13 3 (by decide)).2.2.2 (by omega) (by omega) (by first | decide | omega) ?_
        refine j_iload rfl rfl ?_
        refine j_iret rfl rfl ?_ rfl (Nat.le_refl _)
        rw [hz]
        exact ⟨rfl, rfl⟩
      · skip
        refine j_aload_n rfl rfl ?_
        refine j_getI rfl f_X3_48 rfl hO.1 hO.2.1 ?_
        have u20_1 := mi_rng m o 4
        refine j_iload_n rfl rfl ?_
        refine j_isub rfl ?_
        refine j_goto (tgt := 29) rfl (by decide) ?_
        refine j_istore rfl (by decide) ?_
        refine j_iconst rfl ?_
        refine j_istore rfl (by decide) ?_
        have hz : trN m o i = (mi m o 4) - i := by unfold trN; first | (rw [if_pos (by omega)]; done) | (rw [if_neg (by omega)]; done)
        rw [← hz]
        refine j_loc (ls' := [(0, vR f), (1, vI k), (2, vR o), (3, vI i), (4, vI (trN m o i)), (5, vI 0)]) rfl ?_
        refine lp_takeRow (E := trL f k o i (trN m o i).toNat 0 m) hk (by omega) ?_ (trN m o i).toNat 0 m hF hO hr (by omega) (by decide) rfl
        have e2 := trL_2 (f := f) (k := k) (o := o) (i := i) (trN m o i).toNat 0 m
        have hF := ob2 e2 hF
        refine j_aload_n rfl rfl ?_
        refine j_getR (q := (f + 4)) rfl f_X3_21 rfl hF.1 hF.2.1 (hF.q 3 4 13 3 (by decide)).1 ?_
        refine j_iload_n rfl rfl ?_
        refine j_iload rfl rfl ?_
        refine j_iast (n := 3) rfl (hF.q 3 4 13 3 (by decide)).2.1 (hF.q 3 4 13 3 (by decide)).2.2.1 (hF.q 3 4 13 3 (by decide)).2.2.2 (by omega) (by omega) (by first | decide | omega) ?_
        refine j_iload rfl rfl ?_
        refine j_iret rfl rfl ?_ rfl (Nat.le_refl _)
        exact ⟨rfl, rfl⟩

def FX11_feltRow (m : AM) (fk : Int) (sh : Int) (i : Int) : Int × AM :=
  if 0 ≤ fk ∧ (0 ≤ fk / 10 ∧ fk / 10 < mi m 0 17) ∧ fk % 10 ≤ 2 then
    if sh < (-1) then
      ((-1), m)
    else
      if sh < 6 then
        if sh ≠ (-1) then
          if mi m (68 + 3 * sh.toNat) 2 < 0 ∧ mi m (68 + 3 * sh.toNat) 3 = -1 then
            ((trN m (68 + 3 * sh.toNat) i), (si (trL (fl m (fk / 10)) (fk % 10) (68 + 3 * sh.toNat) i (trN m (68 + 3 * sh.toNat) i).toNat 0 m) ((fl m (fk / 10)) + 4) (fk % 10).toNat (trN m (68 + 3 * sh.toNat) i)))
          else
            if mi m (68 + 3 * sh.toNat) 3 = 3 ∨ mi m (68 + 3 * sh.toNat) 3 = 4 then
              ((trN m (68 + 3 * sh.toNat) i), (si (trL (fl m (fk / 10)) (fk % 10) (68 + 3 * sh.toNat) i (trN m (68 + 3 * sh.toNat) i).toNat 0 m) ((fl m (fk / 10)) + 4) (fk % 10).toNat (trN m (68 + 3 * sh.toNat) i)))
            else
              ((-12), m)
        else
          (0, (FX3_leaveRow m (fl m (fk / 10)) (fk % 10)))
      else
        ((-1), m)
  else
    ((-1), m)
set_option maxRecDepth 20000 in
set_option maxHeartbeats 4000000 in
theorem ct_X11_feltRow {G : QW} {m : AM} (hS : St m) (hI : IM m) {fk : Int} {sh : Int} {i : Int} (hfk1 : -2147483648 ≤ fk) (hfk2 : fk < 2147483648) (hsh1 : -2147483648 ≤ sh) (hsh2 : sh < 2147483648) (hi1 : -2147483648 ≤ i) (hi2 : i < 2147483648) (hFl : HF m) (hl : 0 ≤ mi m (68 + 3 * sh.toNat) 4 ∧ mi m (68 + 3 * sh.toNat) 4 ≤ 60) : qM G mX11_feltRow 3 0 0 [vR 0, vI fk, vI sh, vI i] m (fun r m' => r = some (vI (FX11_feltRow m fk sh i).1) ∧ m' = (FX11_feltRow m fk sh i).2) := by
  refine qM.intro okX11_feltRow (Nat.le_of_ble_eq_true rfl) ?_
  refine j_aload_n rfl rfl ?_
  refine j_iload_n rfl rfl ?_
  refine j_callV (ci := 11) rfl okX11_isFelt c_X11_159 (ct_X11_isFelt hS hI (by omega) (by omega)) rfl rfl (hS.lt (by decide)) (hS.k (by decide) (by decide)) (by decide) rfl (Nat.le_of_ble_eq_true rfl) (by decide) (by decide) ?_
  rintro vq mq ⟨e1, e2⟩
  rw [e1, e2]
  clear e1 e2
  simp only [Option.toList_some, Option.toList_none, List.cons_append, List.nil_append]
  have w1 := hI.s 0 17 (0) 8 (by decide)
  refine j_bif_eq (tgt := 19) rfl (by decide) (fun hb5_1 => ?_) (fun hb5_1 => ?_)
  · skip
    refine j_iconst rfl ?_
    refine j_iret rfl rfl ?_ rfl (Nat.le_refl _)
    unfold FX11_feltRow
    rw [if_neg hb5_1]
    exact ⟨rfl, rfl⟩
  · skip
    refine j_iload_n rfl rfl ?_
    refine j_iconst rfl ?_
    refine j_icmp_lt (tgt := 19) rfl (by decide) (by omega) (by omega) (by omega) (by omega) (fun hb10_1 => ?_) (fun hb10_1 => ?_)
    · skip
      refine j_iconst rfl ?_
      refine j_iret rfl rfl ?_ rfl (Nat.le_refl _)
      unfold FX11_feltRow
      rw [if_pos hb5_1, if_pos hb10_1]
      exact ⟨rfl, rfl⟩
    · skip
      refine j_iload_n rfl rfl ?_
      refine j_bipush rfl (by decide) ?_
      refine j_icmp_lt (tgt := 21) rfl (by decide) (by omega) (by omega) (by omega) (by omega) (fun hb16_1 => ?_) (fun hb16_1 => ?_)
      · skip
        refine j_aload_n rfl rfl ?_
        refine j_getR (q := 4) rfl f_X11_24 rfl (hS.lt (by decide)) (hS.k (by decide) (by decide)) (hS.r (by decide)) ?_
        refine j_iload_n rfl rfl ?_
        refine j_bipush rfl (by decide) ?_
        refine j_idivN rfl (by omega) (by omega) (by omega) (by omega) ?_
        have hq1 := hFl (fk / 10) (by omega) (by omega)
        refine j_aald (k := 18) (n := 8) (v := (fl m (fk / 10))) rfl (hS.lt (by decide)) (hS.k (by decide) (by decide)) el18 (hS.n (by decide) (by decide)) (by omega) (by omega) (by decide) hq1.1 ?_
        refine j_astore rfl (by decide) ?_
        refine j_iload_n rfl rfl ?_
        refine j_iconst rfl ?_
        refine j_icmp_ne (tgt := 48) rfl (by decide) (by omega) (by omega) (by omega) (by omega) (fun hb34_1 => ?_) (fun hb34_1 => ?_)
        · skip
          refine j_aload_n rfl rfl ?_
          refine j_getR (q := 5) rfl f_X11_30 rfl (hS.lt (by decide)) (hS.k (by decide) (by decide)) (hS.r (by decide)) ?_
          refine j_iload_n rfl rfl ?_
          have hq2 := hS.sh sh (by omega) (by omega)
          refine j_aald (k := 19) (n := 6) (v := (68 + 3 * sh.toNat)) rfl (hS.lt (by decide)) (hS.k (by decide) (by decide)) el19 (hS.n (by decide) (by decide)) (by omega) (by omega) (by decide) hq2.1 ?_
          refine j_astore rfl (by decide) ?_
          refine j_aload rfl rfl ?_
          refine j_callV (ci := 7) rfl okX7_isEmpty c_X11_173 (ct_X7_isEmpty hq2.2) rfl rfl hq2.2.1 hq2.2.2.1 (by decide) rfl (Nat.le_of_ble_eq_true rfl) (by decide) (by decide) ?_
          rintro vq mq ⟨e1, e2⟩
          rw [e1, e2]
          clear e1 e2
          simp only [Option.toList_some, Option.toList_none, List.cons_append, List.nil_append]
          refine j_bif_ne (tgt := 75) rfl (by decide) (fun hb61_1 => ?_) (fun hb61_1 => ?_)
          · skip
            refine j_aload rfl rfl ?_
            refine j_iload_n rfl rfl ?_
            refine j_bipush rfl (by decide) ?_
            refine j_iremN rfl (by omega) (by omega) (by omega) (by omega) ?_
            refine j_aload rfl rfl ?_
            refine j_iload_n rfl rfl ?_
            refine j_callV (ci := 3) rfl okX3_takeRow c_X11_180 (ct_takeRow hq1.2.1 hq2.2 (by omega) (by have q := hq1.2.2 (fk % 10).toNat (by omega); exact q) (by omega) (by omega) hl) rfl rfl hq1.2.1.1 hq1.2.1.2.1 (by decide) rfl (Nat.le_of_ble_eq_true rfl) (by decide) (by decide) ?_
            rintro vq mq ⟨e1, e2⟩
            rw [e1, e2]
            clear e1 e2
            simp only [Option.toList_some, Option.toList_none, List.cons_append, List.nil_append]
            refine j_iret rfl rfl ?_ rfl (Nat.le_refl _)
            unfold FX11_feltRow
            rw [if_pos hb5_1, if_neg hb10_1, if_pos hb16_1, if_pos hb34_1, if_pos hb61_1]
            exact ⟨rfl, rfl⟩
          · skip
            refine j_aload rfl rfl ?_
            refine j_callV (ci := 7) rfl okX7_holdsReals c_X11_177 (ct_X7_holdsReals hq2.2) rfl rfl hq2.2.1 hq2.2.2.1 (by decide) rfl (Nat.le_of_ble_eq_true rfl) (by decide) (by decide) ?_
            rintro vq mq ⟨e1, e2⟩
            rw [e1, e2]
            clear e1 e2
            simp only [Option.toList_some, Option.toList_none, List.cons_append, List.nil_append]
            refine j_bif_ne (tgt := 75) rfl (by decide) (fun hb69_1 => ?_) (fun hb69_1 => ?_)
            · skip
              refine j_aload rfl rfl ?_
              refine j_iload_n rfl rfl ?_
              refine j_bipush rfl (by decide) ?_
              refine j_iremN rfl (by omega) (by omega) (by omega) (by omega) ?_
              refine j_aload rfl rfl ?_
              refine j_iload_n rfl rfl ?_
              refine j_callV (ci := 3) rfl okX3_takeRow c_X11_180 (ct_takeRow hq1.2.1 hq2.2 (by omega) (by have q := hq1.2.2 (fk % 10).toNat (by omega); exact q) (by omega) (by omega) hl) rfl rfl hq1.2.1.1 hq1.2.1.2.1 (by decide) rfl (Nat.le_of_ble_eq_true rfl) (by decide) (by decide) ?_
              rintro vq mq ⟨e1, e2⟩
              rw [e1, e2]
              clear e1 e2
              simp only [Option.toList_some, Option.toList_none, List.cons_append, List.nil_append]
              refine j_iret rfl rfl ?_ rfl (Nat.le_refl _)
              unfold FX11_feltRow
              rw [if_pos hb5_1, if_neg hb10_1, if_pos hb16_1, if_pos hb34_1, if_neg hb61_1, if_pos hb69_1]
              exact ⟨rfl, rfl⟩
            · skip
              refine j_bipush rfl (by decide) ?_
              refine j_iret rfl rfl ?_ rfl (Nat.le_refl _)
              unfold FX11_feltRow
              rw [if_pos hb5_1, if_neg hb10_1, if_pos hb16_1, if_pos hb34_1, if_neg hb61_1, if_neg hb69_1]
              exact ⟨rfl, rfl⟩
        · skip
          refine j_aload rfl rfl ?_
          refine j_iload_n rfl rfl ?_
          refine j_bipush rfl (by decide) ?_
          refine j_iremN rfl (by omega) (by omega) (by omega) (by omega) ?_
          refine j_callV (ci := 3) rfl okX3_leaveRow c_X11_170 (ct_X3_leaveRow (by omega) (by omega) hq1.2.1 (by omega) (by omega)) rfl rfl hq1.2.1.1 hq1.2.1.2.1 (by decide) rfl (Nat.le_of_ble_eq_true rfl) (by decide) (by decide) ?_
          rintro vq mq ⟨e1, e2⟩
          rw [e1, e2]
          clear e1 e2
          simp only [Option.toList_some, Option.toList_none, List.cons_append, List.nil_append]
          refine j_iconst rfl ?_
          refine j_iret rfl rfl ?_ rfl (Nat.le_refl _)
          unfold FX11_feltRow
          rw [if_pos hb5_1, if_neg hb10_1, if_pos hb16_1, if_neg (not_not_intro hb34_1)]
          exact ⟨rfl, rfl⟩
      · skip
        refine j_iconst rfl ?_
        refine j_iret rfl rfl ?_ rfl (Nat.le_refl _)
        unfold FX11_feltRow
        rw [if_pos hb5_1, if_neg hb10_1, if_neg hb16_1]
        exact ⟨rfl, rfl⟩

