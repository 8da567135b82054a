/-! ===== class and reference: how quiet the words are ===== -/
def cN (g : Nat → Int32) (a : Int32) : Nat → Nat
  | 0 => 0
  | n + 1 => cN g a n + (if iabs (g n) ≤ a then 0 else 1)
theorem cN_le (g : Nat → Int32) (a : Int32) : ∀ n, cN g a n ≤ n
  | 0 => Nat.le_refl 0
  | n + 1 => by
    have h := cN_le g a n
    show cN g a n + (if iabs (g n) ≤ a then 0 else 1) ≤ n + 1
    split <;> omega
theorem cN_congr {g h : Nat → Int32} (a : Int32) : ∀ n, (∀ j, j < n → g j = h j) → cN g a n = cN h a n
  | 0, _ => rfl
  | n + 1, e => by
    show cN g a n + (if iabs (g n) ≤ a then 0 else 1) = cN h a n + (if iabs (h n) ≤ a then 0 else 1)
    rw [cN_congr a n (fun j hj => e j (by omega)), e n (by omega)]
theorem bit_nI (p : Prop) [Decidable p] : (if p then (0 : Int32) else 1) = nI (if p then 0 else 1) := by
  split <;> rfl
theorem cntAb_nat (g : Nat → Int32) (a : Int32) : ∀ n, cntAb g a n = nI (cN g a n)
  | 0 => rfl
  | n + 1 => by
    show cntAb g a n + (if iabs (g n) ≤ a then 0 else 1) = nI (cN g a n + (if iabs (g n) ≤ a then 0 else 1))
    rw [cntAb_nat g a n, bit_nI, nI_add]
theorem gMost_le {f : Nat → Int32} {a : Int32} (ha : 0 ≤ a.toInt) : ∀ n, gMost f n ≤ a ↔ cN f a n = 0
  | 0 => by
    have z : (0 : Int32).toInt = 0 := rfl
    show (0 : Int32) ≤ a ↔ (0 : Nat) = 0
    rw [i_le, z]
    exact ⟨fun _ => rfl, fun _ => ha⟩
  | n + 1 => by
    have ih := gMost_le (f := f) ha n
    show (if amt (f n) ≤ gMost f n then gMost f n else amt (f n)) ≤ a ↔ cN f a n + (if iabs (f n) ≤ a then 0 else 1) = 0
    rw [amt_abs]
    rw [i_le] at ih
    by_cases c : iabs (f n) ≤ gMost f n
    · rw [if_pos c, i_le]
      rw [i_le] at c
      by_cases d : iabs (f n) ≤ a
      · rw [if_pos d, Nat.add_zero]
        exact ih
      · rw [if_neg d]
        rw [i_le] at d
        omega
    · rw [if_neg c]
      rw [i_le] at c
      by_cases d : iabs (f n) ≤ a
      · rw [if_pos d, Nat.add_zero]
        have d2 := d
        rw [i_le] at d2
        exact ⟨fun _ => ih.mp (by omega), fun _ => d⟩
      · rw [if_neg d]
        exact ⟨fun q => absurd q d, fun q => by omega⟩
theorem cN_shift {f g : Nat → Int32} {a : Int32} : ∀ n, (∀ j, j < n → g (j + 1) = f j) → cN g a (n + 1) = cN f a n + (if iabs (g 0) ≤ a then 0 else 1)
  | 0, _ => rfl
  | n + 1, h => by
    show cN g a (n + 1) + (if iabs (g (n + 1)) ≤ a then 0 else 1) = cN f a n + (if iabs (f n) ≤ a then 0 else 1) + (if iabs (g 0) ≤ a then 0 else 1)
    rw [cN_shift n (fun j hj => h j (by omega)), h n (by omega)]
    omega
/-- ring, rows and shape: what the numbers that go into the ring need -/
def SR3 (v : SV) (f : Nat → Int32) (tk fi : Nat) : Prop := SRa v f tk fi ∧ SRb v f ∧ SRc v f
theorem sr3_congr {v : SV} {f g : Nat → Int32} {tk fi : Nat} (h : SR3 v f tk fi) (e : ∀ j, j < 100 → g j = f j) : SR3 v g tk fi := by
  obtain ⟨⟨a1, a2, a3, a4, a5, a6, a7, a8⟩, ⟨b1, b2, b3, b4, b5⟩, ⟨c1, c2, c3⟩⟩ := h
  refine ⟨⟨(e _ (by decide)).trans a1, a2, a3, a4, a5, fun j hj => (e _ (by omega)).trans (a6 j hj), fun j p q => (e _ (by omega)).trans (a7 j p q), fun j hj => by rw [e _ (by omega)]; exact a8 j hj⟩, ⟨fun t ht => ?_, (e _ (by decide)).trans b2, (e _ (by decide)).trans b3, b4, b5⟩, ⟨(e _ (by decide)).trans c1, (e _ (by decide)).trans c2, c3⟩⟩
  rw [e (65 + t) (by omega), e (69 + t) (by omega), e (74 + t) (by omega)]
  exact b1 t ht
theorem feed_ok {v : SV} {f : Nat → Int32} {tk fi : Nat} {x : Int32} (h : SR3 v f tk fi) (hx : -30000 ≤ x.toInt ∧ x.toInt ≤ 30000) : SR3 (sFeed v x) (gNx f x) tk ((fi + 63) % 64) := by
  have h1 := let_a h.1 h.2.1 h.2.2 hx
  have h2 := let_b (x := x) h.2.1
  have h3 := let_c (x := x) h.2.2
  refine ⟨?_, ?_, ?_⟩
  · unfold SRa at h1 ⊢
    exact h1
  · unfold SRb at h2 ⊢
    exact h2
  · unfold SRc at h3 ⊢
    exact h3
theorem sr3_go {v : SV} {p : PV} {tk fi : Nat} {x : Int32} (h : SR3 v (sl p.1 5) tk fi) (hx : -30000 ≤ x.toInt ∧ x.toInt ≤ 30000) : SR3 (sFeed v x) (sl (goP p 5 x).1 5) tk ((fi + 63) % 64) :=
  sr3_congr (feed_ok h hx) (fun j hj => sl_slP _ _ _ hj)
theorem go5_at {p : PV} {x : Int32} {j : Nat} (hj : j < 100) : sl (goP p 5 x).1 5 j = gNx (sl p.1 5) x j := sl_slP _ _ _ hj
theorem cN_go {v : SV} {p : PV} {tk fi : Nat} {a : Int32} (h : SR3 v (sl p.1 5) tk fi) : cN (sl (goP p 5 0).1 5) a (64 - tk) + (if iabs (sl p.1 5 (63 - tk)) ≤ a then 0 else 1) = cN (sl p.1 5) a (64 - tk) + (if iabs (sWrd v 0) ≤ a then 0 else 1) := by
  have e64 := h.1.1
  have htk := h.1.2.1
  have hk : (sl p.1 5 64).toNatClampNeg = tk := by
    rw [e64]
    exact nI_clamp (by omega)
  have e0 : sl (goP p 5 0).1 5 0 = sWrd v 0 := by
    rw [go5_at (by decide)]
    exact wrt_eq h.1 h.2.1 h.2.2 0
  have e1 : ∀ j, j < 63 - tk → sl (goP p 5 0).1 5 (j + 1) = sl p.1 5 j := fun j hj => by
    rw [go5_at (by omega)]
    unfold gNx
    rw [if_neg (by omega), if_pos (by omega), hk, if_pos (by omega), Nat.add_sub_cancel]
  have e2 : 64 - tk = (63 - tk) + 1 := by omega
  rw [e2, cN_shift _ e1, e0]
  show _ = cN (sl p.1 5) a (63 - tk) + (if iabs (sl p.1 5 (63 - tk)) ≤ a then 0 else 1) + _
  omega
theorem qa_ok {a : Int32} (ha : 0 ≤ a.toInt) {tk : Nat} : ∀ (d i : Nat) (v : SV) (p : PV) (fi : Nat), SR3 v (sl p.1 5) tk fi → (qaRun a d i (nI (cN (sl p.1 5) a (64 - tk))) v).1 = (mqRun a (64 - tk) (d + 1) i p).1
  | 0, i, v, p, fi, h => by
    show (if nI (cN (sl p.1 5) a (64 - tk)) ≤ 0 then nI i else -1000004) = (if gMost (sl p.1 5) (64 - tk) ≤ a then (nI i, p) else (-1000004, goP p 5 0)).1
    have hm := gMost_le (f := sl p.1 5) ha (64 - tk)
    have hl := cN_le (sl p.1 5) a (64 - tk)
    by_cases c : gMost (sl p.1 5) (64 - tk) ≤ a
    · rw [if_pos c, hm.mp c, if_pos (by decide)]
    · have hne : ¬ cN (sl p.1 5) a (64 - tk) = 0 := fun z => c (hm.mpr z)
      rw [if_neg c, if_neg (fun z => hne (by
        have := (nI_leI (b := 0) (by omega) (by omega)).mp z
        omega))]
  | d + 1, i, v, p, fi, h => by
    have hm := gMost_le (f := sl p.1 5) ha (64 - tk)
    have hl := cN_le (sl p.1 5) a (64 - tk)
    have htk := h.1.2.1
    show (if nI (cN (sl p.1 5) a (64 - tk)) ≤ 0 then (nI i, v) else qaRun a d (i + 1) (nI (cN (sl p.1 5) a (64 - tk)) - (if iabs (rAt (vW v) (vFi v) (vLe v) (vLe v - 1)) ≤ a then 0 else 1) + (if iabs (sWrd v 0) ≤ a then 0 else 1)) (sFeed v 0)).1 = (if gMost (sl p.1 5) (64 - tk) ≤ a then (nI i, p) else mqRun a (64 - tk) (d + 1) (i + 1) (goP p 5 0)).1
    by_cases c : gMost (sl p.1 5) (64 - tk) ≤ a
    · rw [if_pos c, hm.mp c, if_pos (by decide)]
    · have hne : ¬ cN (sl p.1 5) a (64 - tk) = 0 := fun z => c (hm.mpr z)
      rw [if_neg c, if_neg (fun z => hne (by
        have := (nI_leI (b := 0) (by omega) (by omega)).mp z
        omega))]
      have er : rAt (vW v) (vFi v) (vLe v) (vLe v - 1) = sl p.1 5 (63 - tk) := by
        have e3 : vLe v - 1 = nI (63 - tk) := by
          rw [h.1.2.2.1]
          exact natSub (a := 64 - tk) (b := 1) (by omega)
        rw [e3]
        exact rAt_ring h.1 (63 - tk) (by omega)
      have hg := cN_go (a := a) h
      have e2 : 64 - tk = (63 - tk) + 1 := by omega
      have e4 : cN (sl p.1 5) a (64 - tk) = cN (sl p.1 5) a (63 - tk) + (if iabs (sl p.1 5 (63 - tk)) ≤ a then 0 else 1) := by
        rw [e2]
        rfl
      have e5 : nI (cN (sl p.1 5) a (64 - tk)) - nI (if iabs (sl p.1 5 (63 - tk)) ≤ a then 0 else 1) = nI (cN (sl p.1 5) a (63 - tk)) := natSub (by omega)
      have e6 : cN (sl p.1 5) a (63 - tk) + (if iabs (sWrd v 0) ≤ a then 0 else 1) = cN (sl (goP p 5 0).1 5) a (64 - tk) := by omega
      rw [er, bit_nI, e5, bit_nI, nI_add, e6]
      exact qa_ok ha d (i + 1) (sFeed v 0) (goP p 5 0) _ (sr3_go h z30)
theorem sr_sr3 {v : SV} {f : Nat → Int32} {S : Int64} {tk fi a : Nat} (h : SR v f S tk fi a) : SR3 v f tk fi := ⟨h.1, h.2.1, h.2.2.1⟩
theorem cnt_ring {v : SV} {f : Nat → Int32} {tk fi : Nat} (h : SR3 v f tk fi) (a : Int32) : cntAb (fun j => rAt (vW v) (vFi v) (vLe v) (nI j)) a (64 - tk) = nI (cN f a (64 - tk)) := by
  rw [cntAb_nat]
  congr 1
  exact cN_congr a _ (fun j hj => rAt_ring h.1 j (by omega))
theorem sum_ring {v : SV} {s : Nat → Int32} {tk fi : Nat} (h : SR3 v (sl s 0) tk fi) : ∀ n, n ≤ 64 → sumAb (fun j => rAt (vW v) (vFi v) (vLe v) (nI j)) n = tapS (mWd s 1) n
  | 0, _ => rfl
  | n + 1, hn => by
    show sumAb (fun j => rAt (vW v) (vFi v) (vLe v) (nI j)) n + iabs (rAt (vW v) (vFi v) (vLe v) (nI n)) = tapS (mWd s 1) n + mWd s 1 n
    have e : mWd s 1 n = amt (s n) := if_neg (by decide)
    rw [sum_ring h n (by omega), rAt_ring h.1 n (by omega), e, amt_abs, sl0]
theorem abs_0 {x : Int32} (h : -30000 ≤ x.toInt ∧ x.toInt ≤ 30000) : iabs x ≤ 0 ↔ x = 0 := by
  have z : (0 : Int32).toInt = 0 := rfl
  rw [i_le, iabs_toInt (by omega), z]
  constructor
  · intro q
    apply Int32.toInt_inj.mp
    omega
  · intro q
    rw [q, z]
    decide
theorem cnt_words {v : SV} {s : Nat → Int32} {tk fi : Nat} (h : SR3 v (sl s 0) tk fi) : ∀ n, n ≤ 64 → cntAb (fun j => rAt (vW v) (vFi v) (vLe v) (nI j)) 0 n = tapS (mWd s 0) n
  | 0, _ => rfl
  | n + 1, hn => by
    show cntAb (fun j => rAt (vW v) (vFi v) (vLe v) (nI j)) 0 n + (if iabs (rAt (vW v) (vFi v) (vLe v) (nI n)) ≤ 0 then 0 else 1) = tapS (mWd s 0) n + mWd s 0 n
    have e : mWd s 0 n = if s n = 0 then 0 else 1 := if_pos rfl
    have hb := h.1.2.2.2.2.2.2.2 n (by omega)
    rw [cnt_words h n (by omega), rAt_ring h.1 n (by omega), e]
    congr 1
    have e2 := abs_0 hb
    rw [sl0] at e2 ⊢
    by_cases c : s n = 0
    · rw [if_pos c, if_pos (e2.mpr c)]
    · rw [if_neg c, if_neg (fun z => c (e2.mp z))]
