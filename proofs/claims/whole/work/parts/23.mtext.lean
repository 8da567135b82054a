/-! ===== the reference: texts ===== -/
def mT (tx : Nat → Int32) (ny : Nat) (p : Nat) : Int32 := if nI ny ≤ nI p then 0 else tx p
def dcM (t : Nat → Int32) (p : Nat) : Nat → Nat
  | 0 => 0
  | f + 1 => if inR (t p) 48 57 = true then dcM t (p + 1) f + 1 else 0
theorem dcM_le (t : Nat → Int32) : ∀ (f p : Nat), dcM t p f ≤ f
  | 0, _ => Nat.le_refl 0
  | f + 1, p => by
    unfold dcM
    split
    · exact Nat.succ_le_succ (dcM_le t f (p + 1))
    · exact Nat.zero_le _
def mV (t : Nat → Int32) (e : Nat) : Nat → Int32
  | 0 => 0
  | i + 1 => 10 * mV t e i + t (e + i) - 48
def nE (tx : Nat → Int32) (ny p : Nat) (mf : Int32) : Nat := if mf = 0 then p else if mT tx ny p = 45 then p + 1 else p
def nK (tx : Nat → Int32) (ny p : Nat) (mf : Int32) : Nat := dcM (mT tx ny) (nE tx ny p mf) 5
def nP (tx : Nat → Int32) (ny p : Nat) (mf : Int32) : Nat := nE tx ny p mf + nK tx ny p mf
def nB (tx : Nat → Int32) (ny p : Nat) (mf : Int32) : Bool := !decide (nI (nP tx ny p mf) ≤ nI (nE tx ny p mf))
def nV (tx : Nat → Int32) (ny p : Nat) (mf : Int32) : Int32 := if mf = 0 then mV (mT tx ny) (nE tx ny p mf) (nK tx ny p mf) else if mT tx ny p = 45 then -mV (mT tx ny) (nE tx ny p mf) (nK tx ny p mf) else mV (mT tx ny) (nE tx ny p mf) (nK tx ny p mf)
theorem nP_ge (tx : Nat → Int32) (ny p : Nat) (mf : Int32) : p ≤ nP tx ny p mf ∧ nP tx ny p mf ≤ p + 6 := by
  have h := dcM_le (mT tx ny) 5 (nE tx ny p mf)
  have h2 : p ≤ nE tx ny p mf ∧ nE tx ny p mf ≤ p + 1 := by
    unfold nE
    split
    · omega
    · split <;> omega
  unfold nP nK
  omega
def mTkP (tx : Nat → Int32) (ny p : Nat) (c : Int32) : Nat := if mT tx ny p = c then p + 1 else p
abbrev OV : Type := Bool × Nat × (Nat → Int32)
def stN (tx : Nat → Int32) (ny : Nat) (j : Nat) (mf : Int32) (o : OV) : OV := if o.1 = true then (nB tx ny o.2.1 mf, nP tx ny o.2.1 mf, upd o.2.2 j (nV tx ny o.2.1 mf)) else (false, o.2.1, o.2.2)
def stK (tx : Nat → Int32) (ny : Nat) (c : Int32) (o : OV) : OV := if o.1 = true then (decide (mT tx ny o.2.1 = c), mTkP tx ny o.2.1 c, o.2.2) else (false, o.2.1, o.2.2)
def mOrd (tx : Nat → Int32) (ny : Nat) (L : Int32) (p : Nat) (to : Nat → Int32) : OV :=
  if L = 115 then stK tx ny 59 (stN tx ny 0 1 (true, p + 1, to))
  else if L = 122 then stK tx ny 59 (stN tx ny 0 0 (true, p + 1, to))
  else if L = 116 then stK tx ny 59 (stN tx ny 2 1 (stK tx ny 44 (stN tx ny 1 0 (stK tx ny 44 (stN tx ny 0 0 (true, p + 1, to))))))
  else if L = 102 then stK tx ny 59 (stN tx ny 1 0 (stK tx ny 44 (stN tx ny 0 0 (true, p + 1, to))))
  else if L = 107 then stK tx ny 59 (stN tx ny 0 0 (true, p + 1, to))
  else if L = 103 then stK tx ny 59 (stN tx ny 0 0 (true, p + 1, to))
  else (false, p, to)
theorem mOrd_115 (tx : Nat → Int32) (ny p : Nat) (to : Nat → Int32) : mOrd tx ny 115 p to = stK tx ny 59 (stN tx ny 0 1 (true, p + 1, to)) := if_pos rfl
theorem mOrd_122 (tx : Nat → Int32) (ny p : Nat) (to : Nat → Int32) : mOrd tx ny 122 p to = stK tx ny 59 (stN tx ny 0 0 (true, p + 1, to)) := (if_neg (by decide)).trans (if_pos rfl)
theorem mOrd_116 (tx : Nat → Int32) (ny p : Nat) (to : Nat → Int32) : mOrd tx ny 116 p to = stK tx ny 59 (stN tx ny 2 1 (stK tx ny 44 (stN tx ny 1 0 (stK tx ny 44 (stN tx ny 0 0 (true, p + 1, to)))))) := (if_neg (by decide)).trans ((if_neg (by decide)).trans (if_pos rfl))
theorem mOrd_102 (tx : Nat → Int32) (ny p : Nat) (to : Nat → Int32) : mOrd tx ny 102 p to = stK tx ny 59 (stN tx ny 1 0 (stK tx ny 44 (stN tx ny 0 0 (true, p + 1, to)))) := (if_neg (by decide)).trans ((if_neg (by decide)).trans ((if_neg (by decide)).trans (if_pos rfl)))
theorem mOrd_107 (tx : Nat → Int32) (ny p : Nat) (to : Nat → Int32) : mOrd tx ny 107 p to = stK tx ny 59 (stN tx ny 0 0 (true, p + 1, to)) := (if_neg (by decide)).trans ((if_neg (by decide)).trans ((if_neg (by decide)).trans ((if_neg (by decide)).trans (if_pos rfl))))
theorem mOrd_103 (tx : Nat → Int32) (ny p : Nat) (to : Nat → Int32) : mOrd tx ny 103 p to = stK tx ny 59 (stN tx ny 0 0 (true, p + 1, to)) := (if_neg (by decide)).trans ((if_neg (by decide)).trans ((if_neg (by decide)).trans ((if_neg (by decide)).trans ((if_neg (by decide)).trans (if_pos rfl)))))
theorem stN_ge (tx : Nat → Int32) (ny j : Nat) (mf : Int32) (o : OV) : o.2.1 ≤ (stN tx ny j mf o).2.1 ∧ (stN tx ny j mf o).2.1 ≤ o.2.1 + 6 := by
  unfold stN
  split
  · exact nP_ge tx ny o.2.1 mf
  · exact ⟨Nat.le_refl _, Nat.le_add_right _ _⟩
theorem mTkP_ge (tx : Nat → Int32) (ny p : Nat) (c : Int32) : p ≤ mTkP tx ny p c ∧ mTkP tx ny p c ≤ p + 1 := by
  unfold mTkP
  split <;> omega
theorem stK_ge (tx : Nat → Int32) (ny : Nat) (c : Int32) (o : OV) : o.2.1 ≤ (stK tx ny c o).2.1 ∧ (stK tx ny c o).2.1 ≤ o.2.1 + 1 := by
  unfold stK
  split
  · exact mTkP_ge tx ny o.2.1 c
  · exact ⟨Nat.le_refl _, Nat.le_add_right _ _⟩
theorem mOrd_ge (tx : Nat → Int32) (ny : Nat) (L : Int32) (p : Nat) (to : Nat → Int32) : (mOrd tx ny L p to).2.1 ≤ p + 22 ∧ ((mOrd tx ny L p to).1 = true → p + 1 ≤ (mOrd tx ny L p to).2.1) ∧ p ≤ (mOrd tx ny L p to).2.1 := by
  have k11 : p + 1 ≤ (stN tx ny 0 0 (true, p + 1, to)).2.1 ∧ (stN tx ny 0 0 (true, p + 1, to)).2.1 ≤ p + 1 + 6 := stN_ge tx ny 0 0 (true, p + 1, to)
  have k12 : p + 1 ≤ (stN tx ny 0 1 (true, p + 1, to)).2.1 ∧ (stN tx ny 0 1 (true, p + 1, to)).2.1 ≤ p + 1 + 6 := stN_ge tx ny 0 1 (true, p + 1, to)
  have k21 := stK_ge tx ny 59 (stN tx ny 0 0 (true, p + 1, to))
  have k22 := stK_ge tx ny 59 (stN tx ny 0 1 (true, p + 1, to))
  have k3 := stK_ge tx ny 44 (stN tx ny 0 0 (true, p + 1, to))
  have k4 := stN_ge tx ny 1 0 (stK tx ny 44 (stN tx ny 0 0 (true, p + 1, to)))
  have k5 := stK_ge tx ny 59 (stN tx ny 1 0 (stK tx ny 44 (stN tx ny 0 0 (true, p + 1, to))))
  have k6 := stK_ge tx ny 44 (stN tx ny 1 0 (stK tx ny 44 (stN tx ny 0 0 (true, p + 1, to))))
  have k7 := stN_ge tx ny 2 1 (stK tx ny 44 (stN tx ny 1 0 (stK tx ny 44 (stN tx ny 0 0 (true, p + 1, to)))))
  have k8 := stK_ge tx ny 59 (stN tx ny 2 1 (stK tx ny 44 (stN tx ny 1 0 (stK tx ny 44 (stN tx ny 0 0 (true, p + 1, to))))))
  unfold mOrd
  repeat' split
  · exact ⟨by omega, fun _ => by omega, by omega⟩
  · exact ⟨by omega, fun _ => by omega, by omega⟩
  · exact ⟨by omega, fun _ => by omega, by omega⟩
  · exact ⟨by omega, fun _ => by omega, by omega⟩
  · exact ⟨by omega, fun _ => by omega, by omega⟩
  · exact ⟨by omega, fun _ => by omega, by omega⟩
  · exact ⟨Nat.le_add_right _ _, fun h => by simp at h, Nat.le_refl _⟩
def mDoR (L : Int32) (s : Nat → Int32) (su : Nat → Int64) (tk : Nat) (to : Nat → Int32) : Int32 := if L = 102 then mFeeR s (to 0) (to 1) else if L = 107 then mSteR tk (to 0) else if L = 115 then mSamR s (to 0) else if L = 116 then mTapR s (to 0) (to 1) (to 2) else if L = 122 then mSilR s su (to 0) else mGivR tk (to 0)
def mDoS (L : Int32) (s : Nat → Int32) (su : Nat → Int64) (tk : Nat) (to : Nat → Int32) : Nat → Int32 := if L = 102 then mFeeS s (to 0) (to 1) else if L = 107 then mSteS s tk (to 0) else if L = 115 then mSamS s (to 0) else if L = 116 then mTapS s (to 0) (to 1) (to 2) else if L = 122 then mSilS s su (to 0) else mGivS s tk (to 0)
def mDoU (L : Int32) (s : Nat → Int32) (su : Nat → Int64) (to : Nat → Int32) : Nat → Int64 := if L = 102 then su else if L = 107 then su else if L = 115 then mSamU s su (to 0) else if L = 116 then su else if L = 122 then mSilU s su (to 0) else su
theorem inR_nat {x lo hi : Int32} {a b : Nat} (hl : lo.toInt = a) (hh : hi.toInt = b) (h : inR x lo hi = true) : x = nI x.toNatClampNeg ∧ a ≤ x.toNatClampNeg ∧ x.toNatClampNeg ≤ b := by
  obtain ⟨p, q⟩ := inR_iff.mp h
  refine ⟨nat_of (by omega), ?_, ?_⟩
  · show a ≤ x.toInt.toNat
    omega
  · show x.toInt.toNat ≤ b
    omega
theorem gOk_fee {s : Nat → Int32} {tk : Nat} {d g : Int32} (h : gOk (sl s 0) tk) : gOk (sl (mFeeS s d g) 0) tk := by
  unfold mFeeS
  split
  · split
    · rename_i h1 h2
      obtain ⟨e, p, q⟩ := inR_nat (a := 1) (b := 64) rfl rfl h1
      refine ⟨by show upd (upd s 73 d) 78 g (100 * 0 + 64) = nI tk; rw [pk_un (by omega), pk_un (by omega)]; exact h.1, h.2.1, fun t ht z => ?_⟩
      by_cases h4 : t = 4
      · subst h4
        exact ⟨d.toNatClampNeg, by show upd (upd s 73 d) 78 g 73 = _; rw [pk_un (by omega), pk_us]; exact e, p, q⟩
      · obtain ⟨k, k1, k2, k3⟩ := h.2.2 t ht (z.imp id (fun y => by
          have y2 : upd (upd s 73 d) 78 g (100 * 0 + (65 + t)) = 1 := y
          rw [pk_un (by omega), pk_un (by omega)] at y2
          exact y2))
        exact ⟨k, by show upd (upd s 73 d) 78 g (100 * 0 + (69 + t)) = _; rw [pk_un (by omega), pk_un (by omega)]; exact k1, k2, k3⟩
    · exact h
  · exact h
theorem gOk_tap {s : Nat → Int32} {tk : Nat} {t d g : Int32} (h : gOk (sl s 0) tk) : gOk (sl (mTapS s t d g) 0) tk := by
  unfold mTapS
  split
  · split
    · split
      · rename_i h0 h1 h2
        obtain ⟨e, p, q⟩ := inR_nat (a := 1) (b := 64) rfl rfl h1
        obtain ⟨e0, p0, q0⟩ := inR_nat (a := 0) (b := 3) rfl rfl h0
        refine ⟨by show mTap s t.toNatClampNeg d g (100 * 0 + 64) = nI tk; unfold mTap; rw [pk_un (by omega), pk_un (by omega), pk_un (by omega)]; exact h.1, h.2.1, fun i hi z => ?_⟩
        by_cases h4 : i = t.toNatClampNeg
        · exact ⟨d.toNatClampNeg, by show mTap s t.toNatClampNeg d g (100 * 0 + (69 + i)) = _; unfold mTap; rw [pk_un (by omega), ← h4, Nat.mul_zero, Nat.zero_add, pk_us]; exact e, p, q⟩
        · obtain ⟨k, k1, k2, k3⟩ := h.2.2 i hi (by
            rcases Decidable.em (i = 4) with h5 | h5
            · exact Or.inl h5
            · have y2 : mTap s t.toNatClampNeg d g (100 * 0 + (65 + i)) = 1 := z.resolve_left h5
              unfold mTap at y2
              rw [pk_un (by omega), pk_un (by omega), pk_un (by omega)] at y2
              exact Or.inr y2)
          exact ⟨k, by show mTap s t.toNatClampNeg d g (100 * 0 + (69 + i)) = _; unfold mTap; rw [pk_un (by omega), pk_un (by omega), pk_un (by omega)]; exact k1, k2, k3⟩
      · exact h
    · exact h
  · exact h
theorem gOk_sam {s : Nat → Int32} {tk : Nat} {x : Int32} (h : gOk (sl s 0) tk) : gOk (sl (mSamS s x) 0) tk := by
  unfold mSamS
  split
  · exact gOk_gS x h
  · exact h
theorem gOk_sil {s : Nat → Int32} {su : Nat → Int64} {tk : Nat} {x : Int32} (h : gOk (sl s 0) tk) : gOk (sl (mSilS s su x) 0) tk := by
  unfold mSilS
  split
  · exact mSil_ok (p := (s, su)) h _
  · exact h
def mSteK (tk : Nat) (x : Int32) : Nat := if inR x 1 48 = true then if nI (tk + x.toNatClampNeg) ≤ 48 then tk + x.toNatClampNeg else tk else tk
def mGivK (tk : Nat) (x : Int32) : Nat := if inR x 1 48 = true then if x ≤ nI tk then tk - x.toNatClampNeg else tk else tk
theorem gOk_ste {s : Nat → Int32} {tk : Nat} {x : Int32} (h : gOk (sl s 0) tk) : gOk (sl (mSteS s tk x) 0) (mSteK tk x) := by
  unfold mSteS mSteK
  split
  · split
    · rename_i h1 h2
      obtain ⟨e, p, q⟩ := inR_nat (a := 1) (b := 48) rfl rfl h1
      have h3 := h.2.1
      have h4 : tk + x.toNatClampNeg ≤ 48 := (nI_leI (a := tk + x.toNatClampNeg) (b := 48) (by omega) (by omega)).mp h2
      have hz : ∀ j, 64 ≤ j → mSt3 s tk x.toNatClampNeg j = mSt2 s tk x.toNatClampNeg j := fun j hj => by
        unfold mSt3 zfA
        rw [if_neg (by omega)]
      have hy : ∀ j, j ≠ 98 → j ≠ 64 → mSt2 s tk x.toNatClampNeg j = s j := fun j hj hk => by
        unfold mSt2 mSt1
        rw [pk_un hj, pk_un hk]
      refine ⟨?_, h4, fun t ht z => ?_⟩
      · show mSt3 s tk x.toNatClampNeg (100 * 0 + 64) = _
        rw [hz _ (by omega)]
        unfold mSt2 mSt1
        rw [pk_un (by omega), Nat.mul_zero, Nat.zero_add, pk_us]
      · obtain ⟨k, k1, k2, k3⟩ := h.2.2 t ht (z.imp id (fun y => by
          have y2 : mSt3 s tk x.toNatClampNeg (100 * 0 + (65 + t)) = 1 := y
          rw [hz _ (by omega), hy _ (by omega) (by omega)] at y2
          exact y2))
        exact ⟨k, by show mSt3 s tk x.toNatClampNeg (100 * 0 + (69 + t)) = _; rw [hz _ (by omega), hy _ (by omega) (by omega)]; exact k1, k2, k3⟩
    · exact h
  · exact h
theorem gOk_giv {s : Nat → Int32} {tk : Nat} {x : Int32} (h : gOk (sl s 0) tk) : gOk (sl (mGivS s tk x) 0) (mGivK tk x) := by
  unfold mGivS mGivK
  split
  · split
    · have h3 := h.2.1
      refine ⟨by show upd s 64 (nI (tk - x.toNatClampNeg)) (100 * 0 + 64) = _; rw [Nat.mul_zero, Nat.zero_add, pk_us], by omega, fun t ht z => ?_⟩
      obtain ⟨k, k1, k2, k3⟩ := h.2.2 t ht (z.imp id (fun y => by
        have y2 : upd s 64 (nI (tk - x.toNatClampNeg)) (100 * 0 + (65 + t)) = 1 := y
        rw [pk_un (by omega)] at y2
        exact y2))
      exact ⟨k, by show upd s 64 (nI (tk - x.toNatClampNeg)) (100 * 0 + (69 + t)) = _; rw [pk_un (by omega)]; exact k1, k2, k3⟩
    · exact h
  · exact h
def mDoK (L : Int32) (tk : Nat) (to : Nat → Int32) : Nat := if L = 102 then tk else if L = 107 then mSteK tk (to 0) else if L = 115 then tk else if L = 116 then tk else if L = 122 then tk else mGivK tk (to 0)
theorem gOk_does {L : Int32} {s : Nat → Int32} {su : Nat → Int64} {tk : Nat} {to : Nat → Int32} (h : gOk (sl s 0) tk) : gOk (sl (mDoS L s su tk to) 0) (mDoK L tk to) := by
  unfold mDoS mDoK
  split
  · exact gOk_fee h
  · split
    · exact gOk_ste h
    · split
      · exact gOk_sam h
      · split
        · exact gOk_tap h
        · split
          · exact gOk_sil h
          · exact gOk_giv h
theorem pl_n {tx : Nat → Int32} {ny q a : Nat} {mf : Int32} (h : q ≤ a) : nP tx ny q mf ≤ a + 6 := Nat.le_trans (nP_ge tx ny q mf).2 (Nat.add_le_add_right h 6)
theorem pl_k {tx : Nat → Int32} {ny q a : Nat} {c : Int32} (h : q ≤ a) : mTkP tx ny q c ≤ a + 1 := by
  unfold mTkP
  split <;> omega
abbrev GV : Type := Int32 × Nat × (Nat → Int32) × (Nat → Int64) × (Nat → Int32) × Int32 × Int32
def mgo (tx : Nat → Int32) (ny : Nat) : Nat → Nat → Nat → (Nat → Int32) → (Nat → Int64) → Nat → (Nat → Int32) → Int32 → Int32 → GV
  | 0, i, p, s, su, _, to, re, ca => (nI i, p, s, su, to, re, ca)
  | d + 1, i, p, s, su, tk, to, re, ca =>
    if nI ny ≤ nI p then (nI i, p, s, su, to, re, ca)
    else if (mOrd tx ny (mT tx ny p) p to).1 = true then
      if -1000001 < mDoR (mT tx ny p) s su tk (mOrd tx ny (mT tx ny p) p to).2.2 then
        mgo tx ny d (i + 1) (mOrd tx ny (mT tx ny p) p to).2.1 (mDoS (mT tx ny p) s su tk (mOrd tx ny (mT tx ny p) p to).2.2) (mDoU (mT tx ny p) s su (mOrd tx ny (mT tx ny p) p to).2.2) (mDoK (mT tx ny p) tk (mOrd tx ny (mT tx ny p) p to).2.2) (mOrd tx ny (mT tx ny p) p to).2.2 re ca
      else (-(nI p) - 1, (mOrd tx ny (mT tx ny p) p to).2.1, mDoS (mT tx ny p) s su tk (mOrd tx ny (mT tx ny p) p to).2.2, mDoU (mT tx ny p) s su (mOrd tx ny (mT tx ny p) p to).2.2, (mOrd tx ny (mT tx ny p) p to).2.2, 2, mDoR (mT tx ny p) s su tk (mOrd tx ny (mT tx ny p) p to).2.2)
    else (-(nI p) - 1, (mOrd tx ny (mT tx ny p) p to).2.1, s, su, (mOrd tx ny (mT tx ny p) p to).2.2, 1, nI (mOrd tx ny (mT tx ny p) p to).2.1 - nI p)
def mgoA (tx : Nat → Int32) (ny : Nat) (s : Nat → Int32) (su : Nat → Int64) (tk : Nat) (to : Nat → Int32) (re ca : Int32) : GV := mgo tx ny 60 0 0 s su tk to re ca
abbrev mgK (s : Nat → Int32) (su : Nat → Int64) (tx : Nat → Int32) (ny tk : Nat) (to : Nat → Int32) (re ca : Int32) : GV := mgoA tx ny (kS s) (kU su) tk to re ca
def mFau (s : Nat → Int32) (su : Nat → Int64) (tx : Nat → Int32) (ny tk p : Nat) (to : Nat → Int32) (re ca w : Int32) : GV :=
  if inR w 0 2 = true then (if (mgK s su tx ny tk to re ca).1 < 0 then (if w = 0 then -(mgK s su tx ny tk to re ca).1 - 1 else if w = 1 then (mgK s su tx ny tk to re ca).2.2.2.2.2.1 else (mgK s su tx ny tk to re ca).2.2.2.2.2.2) else -1000004, (mgK s su tx ny tk to re ca).2.1, mCp (mgK s su tx ny tk to re ca).2.2.1 6 0, mCu (mgK s su tx ny tk to re ca).2.2.2.1 6 0, (mgK s su tx ny tk to re ca).2.2.2.2.1, (mgK s su tx ny tk to re ca).2.2.2.2.2.1, (mgK s su tx ny tk to re ca).2.2.2.2.2.2)
  else (-1000001, p, s, su, to, re, ca)
def mPla (s : Nat → Int32) (su : Nat → Int64) (n : Nat) (tx : Nat → Int32) (ny tk : Nat) (to : Nat → Int32) (re ca : Int32) : GV × Nat :=
  if 0 ≤ (mgK s su tx ny tk to re ca).1 then (((mgK s su tx ny tk to re ca).1, (mgK s su tx ny tk to re ca).2.1, mActS (mgK s su tx ny tk to re ca).1 n (mgK s su tx ny tk to re ca).2.2.1, mActU (mgK s su tx ny tk to re ca).1 n (mgK s su tx ny tk to re ca).2.2.2.1, (mgK s su tx ny tk to re ca).2.2.2.2), mActN (mgK s su tx ny tk to re ca).1 n)
  else ((-1000002, (mgK s su tx ny tk to re ca).2.1, mCp (mgK s su tx ny tk to re ca).2.2.1 6 0, mCu (mgK s su tx ny tk to re ca).2.2.2.1 6 0, (mgK s su tx ny tk to re ca).2.2.2.2), n)
set_option maxRecDepth 100000 in
set_option maxHeartbeats 4000000 in
theorem c_X9_sign (E : XE) (N m : Nat) (G : GW) (s : Nat → Int32) (su : Nat → Int64) (st : Int32) (tx : Nat → Int32) (ny : Nat) (re ca : Int32) (p : Nat) (to : Nat → Int32) (hny : ny ≤ 60) (hp : p ≤ 1100) (hb_m : xB E ≤ m) (hn_m : m + 5 ≤ N) : MF E yX9_sign cX9_sign 1 (some .int) 0 0 0 0 [.ref m] N (ov m (mC E m s su st tx (nI ny) re ca (nI p) to) G) (some (.int (mT tx ny p))) (ov m (mC E m s su st tx (nI ny) re ca (nI p) to) G) := by
  refine MF.mk RX9 rfl (by decide +kernel) rfl (fun K C Z hin hN => ?_)
  show XW E K 1 N 0 0 _ 0 [(0, .ref m)] []
  refine x_aload_n C dX9_sign_0 0 rfl ?_
  refine x_get C (xlo (i := 0) hb_m) (xhi (i := 0) hn_m rfl) (ov_at (i := 0) rfl) f_X9_114 rfl dX9_sign_1 ?_
  refine x_aload_n C dX9_sign_4 0 rfl ?_
  refine x_get C (xlo (i := 0) hb_m) (xhi (i := 0) hn_m rfl) (ov_at (i := 0) rfl) f_X9_111 rfl dX9_sign_5 ?_
  refine x_icmp_ge C 23 dX9_sign_8 rfl (fun c8 => ?_) (fun c8 => ?_)
  · refine x_iconst C 0 dX9_sign_23 rfl ?_
    exact x_iret C Z rfl rfl (by simp [mT, c8]) rfl dX9_sign_24
  · have q9p : p < ny := Nat.not_le.mp (fun h => c8 ((nI_leI (a := ny) (b := p) (by omega) (by omega)).mpr h))
    refine x_aload_n C dX9_sign_11 0 rfl ?_
    refine x_get C (xlo (i := 0) hb_m) (xhi (i := 0) hn_m rfl) (ov_at (i := 0) rfl) f_X9_17 rfl dX9_sign_12 ?_
    refine x_aload_n C dX9_sign_15 0 rfl ?_
    refine x_get C (xlo (i := 0) hb_m) (xhi (i := 0) hn_m rfl) (ov_at (i := 0) rfl) f_X9_114 rfl dX9_sign_16 ?_
    refine x_cald C (tx (p)) (xlo (i := 3) hb_m) (xhi (i := 3) hn_m rfl) (ov_at (i := 3) rfl) (vp_in_nI (by omega) (by decide)) (by rw [nI_clamp (by omega)]) dX9_sign_19 ?_
    refine x_goto C 24 dX9_sign_20 rfl ?_
    exact x_iret C Z rfl rfl (by simp [mT, c8]) rfl dX9_sign_24

set_option maxRecDepth 100000 in
set_option maxHeartbeats 4000000 in
theorem c_X9_number (E : XE) (N m : Nat) (G : GW) (s : Nat → Int32) (su : Nat → Int64) (st : Int32) (tx : Nat → Int32) (ny : Nat) (re ca : Int32) (p : Nat) (to : Nat → Int32) (j : Nat) (mf : Int32) (hny : ny ≤ 60) (hp : p ≤ 1000) (hj : j < 3) (hb_m : xB E ≤ m) (hn_m : m + 5 ≤ N) : MF E yX9_number cX9_number 6 (some .boolean) 1 22 0 0 [.ref m, .int (nI j), .int mf] N (ov m (mC E m s su st tx (nI ny) re ca (nI p) to) G) (some (.int (bI (nB tx ny p mf)))) (ov m (mC E m s su st tx (nI ny) re ca (nI (nP tx ny p mf)) (upd to j (nV tx ny p mf))) G) := by
  refine MF.mk RX9 rfl (by decide +kernel) rfl (fun K C Z hin hN => ?_)
  show XW E K 6 N 0 0 _ 0 [(0, .ref m), (1, .int (nI j)), (2, .int mf)] []
  refine x_iload_n C dX9_number_0 2 rfl ?_
  refine x_if_eq C 17 dX9_number_1 rfl (fun c1 => ?_) (fun c1 => ?_)
  · refine x_iconst C 0 dX9_number_17 rfl ?_
    refine x_istore_n (L' := [(3, .int 0), (0, .ref m), (1, .int (nI j)), (2, .int mf)]) C dX9_number_18 rfl rfl ?_
    refine x_aload_n C dX9_number_19 1 rfl ?_
    refine x_dup C dX9_number_20 rfl ?_
    refine x_get C (xlo (i := 0) hb_m) (xhi (i := 0) hn_m rfl) (ov_at (i := 0) rfl) f_X9_114 rfl dX9_number_21 ?_
    refine x_iload_n C dX9_number_24 0 rfl ?_
    refine x_if_eq C 32 dX9_number_25 rfl (fun _ => ?_) (fun c => absurd c (by decide))
    refine x_iconst C 0 dX9_number_32 rfl ?_
    refine x_iadd C dX9_number_33 ?_
    refine x_v (w := .int (nI (p))) (congrArg Value.int (natAdd (a := p) (b := 0) (by omega))) ?_
    refine x_put (G' := ov m (mC E m s su st tx (nI ny) re ca (nI (p)) to) G) C (xlo (i := 0) hb_m) (xhi (i := 0) hn_m rfl) (ov_at (i := 0) rfl) f_X9_114 xt_X9 rfl rfl rfl rfl (ov_set (i := 0) rfl rfl) dX9_number_34 ?_
    refine x_aload_n C dX9_number_37 1 rfl ?_
    refine x_get C (xlo (i := 0) hb_m) (xhi (i := 0) hn_m rfl) (ov_at (i := 0) rfl) f_X9_114 rfl dX9_number_38 ?_
    refine x_istore (L' := [(4, .int (nI (p))), (3, .int 0), (0, .ref m), (1, .int (nI j)), (2, .int mf)]) C dX9_number_41 rfl rfl ?_
    refine x_iconst C 0 dX9_number_43 rfl ?_
    refine x_istore (L' := [(5, .int 0), (4, .int (nI (p))), (3, .int 0), (0, .ref m), (1, .int (nI j)), (2, .int mf)]) C dX9_number_44 rfl rfl ?_
    refine x_perm (L' := [(0, .ref m), (1, .int (nI j)), (3, .int 0), (4, .int (nI (p))), (5, .int 0)]) [3, 4, 2, 1, 0] rfl ?_
    have lp46_1 : ∀ (d i : Nat), i + d = 5 → i + dcM (mT tx ny) (p + i) d = dcM (mT tx ny) p 5 → XW E K 6 N 0 0 (ov m (mC E m s su st tx (nI ny) re ca (nI (p + i)) to) G) 46 [(0, .ref m), (1, .int (nI j)), (3, .int 0), (4, .int (nI (p))), (5, .int (mV (mT tx ny) p i))] [] := by
      intro d
      induction d with
      | zero =>
        intro i hd hq
        have hi : i = 5 := by omega
        refine x_aload_n C dX9_number_46 0 rfl ?_
        refine x_get C (xlo (i := 0) hb_m) (xhi (i := 0) hn_m rfl) (ov_at (i := 0) rfl) f_X9_114 rfl dX9_number_47 ?_
        refine x_iload C dX9_number_50 3 rfl ?_
        refine x_iconst C 5 dX9_number_52 rfl ?_
        refine x_iadd C dX9_number_53 ?_
        refine x_v (w := .int (nI (p + 5))) (congrArg Value.int (natAdd (a := p) (b := 5) (by omega))) ?_
        refine x_icmp_ge C 99 dX9_number_54 rfl (fun _ => ?_) (fun c => absurd c (not_not_intro (nI_le (by omega) (by omega))))
        have q9E : nE tx ny p mf = p := by simp [nE, c1]
        have q9K : nK tx ny p mf = i := by unfold nK; rw [q9E, ← hq]; simp [dcM, c1]
        refine x_aload_n C dX9_number_99 0 rfl ?_
        refine x_get C (xlo (i := 0) hb_m) (xhi (i := 0) hn_m rfl) (ov_at (i := 0) rfl) f_X9_21 rfl dX9_number_100 ?_
        refine x_iload_n C dX9_number_103 1 rfl ?_
        refine x_iload_n C dX9_number_104 2 rfl ?_
        refine x_if_eq C 114 dX9_number_105 rfl (fun _ => ?_) (fun c => absurd c (by decide))
        refine x_iload C dX9_number_114 4 rfl ?_
        refine x_iast (G' := ov m (mC E m s su st tx (nI ny) re ca (nI (p + i)) (upd to j (mV (mT tx ny) p i))) G) C j (xlo (i := 4) hb_m) (xhi (i := 4) hn_m rfl) (ov_at (i := 4) rfl) (vp_in_nI (by omega) (by decide)) (nI_clamp (by omega)) (ov_set (i := 4) rfl rfl) dX9_number_116 ?_
        refine x_aload_n C dX9_number_117 0 rfl ?_
        refine x_get C (xlo (i := 0) hb_m) (xhi (i := 0) hn_m rfl) (ov_at (i := 0) rfl) f_X9_114 rfl dX9_number_118 ?_
        refine x_iload C dX9_number_121 3 rfl ?_
        refine x_icmp_le C 130 dX9_number_123 rfl (fun c123 => ?_) (fun c123 => ?_)
        · refine x_iconst C 0 dX9_number_130 rfl ?_
          exact x_iret C Z rfl rfl (by simp only [nB, nP, q9E, q9K]; simp [bI, c1, c123]) (by simp only [nP, nV, q9E, q9K]; simp [if_true, c1, c123]) dX9_number_131
        · refine x_iconst C 1 dX9_number_126 rfl ?_
          refine x_goto C 131 dX9_number_127 rfl ?_
          exact x_iret C Z rfl rfl (by simp only [nB, nP, q9E, q9K]; simp [bI, c1, c123]) (by simp only [nP, nV, q9E, q9K]; simp [if_true, c1, c123]) dX9_number_131
      | succ d ih =>
        intro i hd hq
        have hi : i < 5 := by omega
        refine x_aload_n C dX9_number_46 0 rfl ?_
        refine x_get C (xlo (i := 0) hb_m) (xhi (i := 0) hn_m rfl) (ov_at (i := 0) rfl) f_X9_114 rfl dX9_number_47 ?_
        refine x_iload C dX9_number_50 3 rfl ?_
        refine x_iconst C 5 dX9_number_52 rfl ?_
        refine x_iadd C dX9_number_53 ?_
        refine x_v (w := .int (nI (p + 5))) (congrArg Value.int (natAdd (a := p) (b := 5) (by omega))) ?_
        refine x_icmp_ge C 99 dX9_number_54 rfl (fun c => absurd c (nI_ge (by omega) (by omega))) (fun _ => ?_)
        refine x_aload_n C dX9_number_57 0 rfl ?_
        refine x_cV1 C (c_X9_sign E N m _ s su st tx ny re ca (p + i) to (by first | assumption | omega | decide) (by first | assumption | omega | decide) hb_m hn_m) v_X9_117 hN (xlo (i := 0) hb_m) (xhi (i := 0) hn_m rfl) (ov_at (i := 0) rfl) rfl rfl rfl rfl rfl dX9_number_58 ?_
        refine x_bipush C 48 dX9_number_61 rfl ?_
        refine x_bipush C 57 dX9_number_63 rfl ?_
        refine x_cS1 C (c_X9_in E N _ (mT tx ny (p + i)) 48 57) v_X9_54 hN rfl rfl rfl rfl dX9_number_65 ?_
        refine x_ifb_eq C 99 dX9_number_68 rfl (fun c68 => ?_) (fun c68 => ?_)
        · have q9E : nE tx ny p mf = p := by simp [nE, c1, c68]
          have q9K : nK tx ny p mf = i := by unfold nK; rw [q9E, ← hq]; simp [dcM, c1, c68]
          refine x_aload_n C dX9_number_99 0 rfl ?_
          refine x_get C (xlo (i := 0) hb_m) (xhi (i := 0) hn_m rfl) (ov_at (i := 0) rfl) f_X9_21 rfl dX9_number_100 ?_
          refine x_iload_n C dX9_number_103 1 rfl ?_
          refine x_iload_n C dX9_number_104 2 rfl ?_
          refine x_if_eq C 114 dX9_number_105 rfl (fun _ => ?_) (fun c => absurd c (by decide))
          refine x_iload C dX9_number_114 4 rfl ?_
          refine x_iast (G' := ov m (mC E m s su st tx (nI ny) re ca (nI (p + i)) (upd to j (mV (mT tx ny) p i))) G) C j (xlo (i := 4) hb_m) (xhi (i := 4) hn_m rfl) (ov_at (i := 4) rfl) (vp_in_nI (by omega) (by decide)) (nI_clamp (by omega)) (ov_set (i := 4) rfl rfl) dX9_number_116 ?_
          refine x_aload_n C dX9_number_117 0 rfl ?_
          refine x_get C (xlo (i := 0) hb_m) (xhi (i := 0) hn_m rfl) (ov_at (i := 0) rfl) f_X9_114 rfl dX9_number_118 ?_
          refine x_iload C dX9_number_121 3 rfl ?_
          refine x_icmp_le C 130 dX9_number_123 rfl (fun c123 => ?_) (fun c123 => ?_)
          · refine x_iconst C 0 dX9_number_130 rfl ?_
            exact x_iret C Z rfl rfl (by simp only [nB, nP, q9E, q9K]; simp [bI, c1, c68, c123]) (by simp only [nP, nV, q9E, q9K]; simp [if_true, c1, c68, c123]) dX9_number_131
          · refine x_iconst C 1 dX9_number_126 rfl ?_
            refine x_goto C 131 dX9_number_127 rfl ?_
            exact x_iret C Z rfl rfl (by simp only [nB, nP, q9E, q9K]; simp [bI, c1, c68, c123]) (by simp only [nP, nV, q9E, q9K]; simp [if_true, c1, c68, c123]) dX9_number_131
        · refine x_bipush C 10 dX9_number_71 rfl ?_
          refine x_iload C dX9_number_73 4 rfl ?_
          refine x_imul C dX9_number_75 ?_
          refine x_aload_n C dX9_number_76 0 rfl ?_
          refine x_cV1 C (c_X9_sign E N m _ s su st tx ny re ca (p + i) to (by first | assumption | omega | decide) (by first | assumption | omega | decide) hb_m hn_m) v_X9_117 hN (xlo (i := 0) hb_m) (xhi (i := 0) hn_m rfl) (ov_at (i := 0) rfl) rfl rfl rfl rfl rfl dX9_number_77 ?_
          refine x_iadd C dX9_number_80 ?_
          refine x_bipush C 48 dX9_number_81 rfl ?_
          refine x_isub C dX9_number_83 ?_
          refine x_istore (L' := [(5, .int (((10 * (mV (mT tx ny) p i)) + (mT tx ny (p + i))) - 48)), (0, .ref m), (1, .int (nI j)), (3, .int 0), (4, .int (nI (p)))]) C dX9_number_84 rfl rfl ?_
          refine x_aload_n C dX9_number_86 1 rfl ?_
          refine x_dup C dX9_number_87 rfl ?_
          refine x_get C (xlo (i := 0) hb_m) (xhi (i := 0) hn_m rfl) (ov_at (i := 0) rfl) f_X9_114 rfl dX9_number_88 ?_
          refine x_iconst C 1 dX9_number_91 rfl ?_
          refine x_iadd C dX9_number_92 ?_
          refine x_v (w := .int (nI (p + i + 1))) (congrArg Value.int (natAdd (a := p + i) (b := 1) (by omega))) ?_
          refine x_put (G' := ov m (mC E m s su st tx (nI ny) re ca (nI (p + i + 1)) to) G) C (xlo (i := 0) hb_m) (xhi (i := 0) hn_m rfl) (ov_at (i := 0) rfl) f_X9_114 xt_X9 rfl rfl rfl rfl (ov_set (i := 0) rfl rfl) dX9_number_93 ?_
          refine x_goto C 46 dX9_number_96 rfl ?_
          refine x_perm (L' := [(0, .ref m), (1, .int (nI j)), (3, .int 0), (4, .int (nI (p))), (5, .int (((10 * (mV (mT tx ny) p i)) + (mT tx ny (p + i))) - 48))]) [1, 2, 3, 4, 0] rfl ?_
          refine x_to (L' := [(0, .ref m), (1, .int (nI j)), (3, .int 0), (4, .int (nI (p))), (5, .int (mV (mT tx ny) p (i + 1)))]) (G' := ov m (mC E m s su st tx (nI ny) re ca (nI (p + (i + 1))) to) G) (by simp only [mV]; first | done | rfl) rfl rfl ?_
          exact ih (i + 1) (by omega) (by rw [← hq]; simp only [dcM, if_pos c1, c68, eq_self, if_true]; simp only [← Nat.add_assoc]; omega)
    refine x_to (L' := [(0, .ref m), (1, .int (nI j)), (3, .int 0), (4, .int (nI (p))), (5, .int (mV (mT tx ny) p 0))]) (G' := ov m (mC E m s su st tx (nI ny) re ca (nI (p + 0)) to) G) rfl rfl rfl ?_
    exact lp46_1 _ 0 (Nat.add_sub_cancel' (by omega)) (by simp)
  · refine x_aload_n C dX9_number_4 0 rfl ?_
    refine x_cV1 C (c_X9_sign E N m _ s su st tx ny re ca p to (by first | assumption | omega | decide) (by first | assumption | omega | decide) hb_m hn_m) v_X9_117 hN (xlo (i := 0) hb_m) (xhi (i := 0) hn_m rfl) (ov_at (i := 0) rfl) rfl rfl rfl rfl rfl dX9_number_5 ?_
    refine x_bipush C 45 dX9_number_8 rfl ?_
    refine x_icmp_ne C 17 dX9_number_10 rfl (fun c10 => ?_) (fun c10 => ?_)
    · refine x_iconst C 0 dX9_number_17 rfl ?_
      refine x_istore_n (L' := [(3, .int 0), (0, .ref m), (1, .int (nI j)), (2, .int mf)]) C dX9_number_18 rfl rfl ?_
      refine x_aload_n C dX9_number_19 1 rfl ?_
      refine x_dup C dX9_number_20 rfl ?_
      refine x_get C (xlo (i := 0) hb_m) (xhi (i := 0) hn_m rfl) (ov_at (i := 0) rfl) f_X9_114 rfl dX9_number_21 ?_
      refine x_iload_n C dX9_number_24 0 rfl ?_
      refine x_if_eq C 32 dX9_number_25 rfl (fun _ => ?_) (fun c => absurd c (by decide))
      refine x_iconst C 0 dX9_number_32 rfl ?_
      refine x_iadd C dX9_number_33 ?_
      refine x_v (w := .int (nI (p))) (congrArg Value.int (natAdd (a := p) (b := 0) (by omega))) ?_
      refine x_put (G' := ov m (mC E m s su st tx (nI ny) re ca (nI (p)) to) G) C (xlo (i := 0) hb_m) (xhi (i := 0) hn_m rfl) (ov_at (i := 0) rfl) f_X9_114 xt_X9 rfl rfl rfl rfl (ov_set (i := 0) rfl rfl) dX9_number_34 ?_
      refine x_aload_n C dX9_number_37 1 rfl ?_
      refine x_get C (xlo (i := 0) hb_m) (xhi (i := 0) hn_m rfl) (ov_at (i := 0) rfl) f_X9_114 rfl dX9_number_38 ?_
      refine x_istore (L' := [(4, .int (nI (p))), (3, .int 0), (0, .ref m), (1, .int (nI j)), (2, .int mf)]) C dX9_number_41 rfl rfl ?_
      refine x_iconst C 0 dX9_number_43 rfl ?_
      refine x_istore (L' := [(5, .int 0), (4, .int (nI (p))), (3, .int 0), (0, .ref m), (1, .int (nI j)), (2, .int mf)]) C dX9_number_44 rfl rfl ?_
      refine x_perm (L' := [(0, .ref m), (1, .int (nI j)), (3, .int 0), (4, .int (nI (p))), (5, .int 0)]) [3, 4, 2, 1, 0] rfl ?_
      have lp46_2 : ∀ (d i : Nat), i + d = 5 → i + dcM (mT tx ny) (p + i) d = dcM (mT tx ny) p 5 → XW E K 6 N 0 0 (ov m (mC E m s su st tx (nI ny) re ca (nI (p + i)) to) G) 46 [(0, .ref m), (1, .int (nI j)), (3, .int 0), (4, .int (nI (p))), (5, .int (mV (mT tx ny) p i))] [] := by
        intro d
        induction d with
        | zero =>
          intro i hd hq
          have hi : i = 5 := by omega
          refine x_aload_n C dX9_number_46 0 rfl ?_
          refine x_get C (xlo (i := 0) hb_m) (xhi (i := 0) hn_m rfl) (ov_at (i := 0) rfl) f_X9_114 rfl dX9_number_47 ?_
          refine x_iload C dX9_number_50 3 rfl ?_
          refine x_iconst C 5 dX9_number_52 rfl ?_
          refine x_iadd C dX9_number_53 ?_
          refine x_v (w := .int (nI (p + 5))) (congrArg Value.int (natAdd (a := p) (b := 5) (by omega))) ?_
          refine x_icmp_ge C 99 dX9_number_54 rfl (fun _ => ?_) (fun c => absurd c (not_not_intro (nI_le (by omega) (by omega))))
          have q9E : nE tx ny p mf = p := by simp [nE, c1, c10]
          have q9K : nK tx ny p mf = i := by unfold nK; rw [q9E, ← hq]; simp [dcM, c1, c10]
          refine x_aload_n C dX9_number_99 0 rfl ?_
          refine x_get C (xlo (i := 0) hb_m) (xhi (i := 0) hn_m rfl) (ov_at (i := 0) rfl) f_X9_21 rfl dX9_number_100 ?_
          refine x_iload_n C dX9_number_103 1 rfl ?_
          refine x_iload_n C dX9_number_104 2 rfl ?_
          refine x_if_eq C 114 dX9_number_105 rfl (fun _ => ?_) (fun c => absurd c (by decide))
          refine x_iload C dX9_number_114 4 rfl ?_
          refine x_iast (G' := ov m (mC E m s su st tx (nI ny) re ca (nI (p + i)) (upd to j (mV (mT tx ny) p i))) G) C j (xlo (i := 4) hb_m) (xhi (i := 4) hn_m rfl) (ov_at (i := 4) rfl) (vp_in_nI (by omega) (by decide)) (nI_clamp (by omega)) (ov_set (i := 4) rfl rfl) dX9_number_116 ?_
          refine x_aload_n C dX9_number_117 0 rfl ?_
          refine x_get C (xlo (i := 0) hb_m) (xhi (i := 0) hn_m rfl) (ov_at (i := 0) rfl) f_X9_114 rfl dX9_number_118 ?_
          refine x_iload C dX9_number_121 3 rfl ?_
          refine x_icmp_le C 130 dX9_number_123 rfl (fun c123 => ?_) (fun c123 => ?_)
          · refine x_iconst C 0 dX9_number_130 rfl ?_
            exact x_iret C Z rfl rfl (by simp only [nB, nP, q9E, q9K]; simp [bI, c1, c10, c123]) (by simp only [nP, nV, q9E, q9K]; simp [if_true, c1, c10, c123]) dX9_number_131
          · refine x_iconst C 1 dX9_number_126 rfl ?_
            refine x_goto C 131 dX9_number_127 rfl ?_
            exact x_iret C Z rfl rfl (by simp only [nB, nP, q9E, q9K]; simp [bI, c1, c10, c123]) (by simp only [nP, nV, q9E, q9K]; simp [if_true, c1, c10, c123]) dX9_number_131
        | succ d ih =>
          intro i hd hq
          have hi : i < 5 := by omega
          refine x_aload_n C dX9_number_46 0 rfl ?_
          refine x_get C (xlo (i := 0) hb_m) (xhi (i := 0) hn_m rfl) (ov_at (i := 0) rfl) f_X9_114 rfl dX9_number_47 ?_
          refine x_iload C dX9_number_50 3 rfl ?_
          refine x_iconst C 5 dX9_number_52 rfl ?_
          refine x_iadd C dX9_number_53 ?_
          refine x_v (w := .int (nI (p + 5))) (congrArg Value.int (natAdd (a := p) (b := 5) (by omega))) ?_
          refine x_icmp_ge C 99 dX9_number_54 rfl (fun c => absurd c (nI_ge (by omega) (by omega))) (fun _ => ?_)
          refine x_aload_n C dX9_number_57 0 rfl ?_
          refine x_cV1 C (c_X9_sign E N m _ s su st tx ny re ca (p + i) to (by first | assumption | omega | decide) (by first | assumption | omega | decide) hb_m hn_m) v_X9_117 hN (xlo (i := 0) hb_m) (xhi (i := 0) hn_m rfl) (ov_at (i := 0) rfl) rfl rfl rfl rfl rfl dX9_number_58 ?_
          refine x_bipush C 48 dX9_number_61 rfl ?_
          refine x_bipush C 57 dX9_number_63 rfl ?_
          refine x_cS1 C (c_X9_in E N _ (mT tx ny (p + i)) 48 57) v_X9_54 hN rfl rfl rfl rfl dX9_number_65 ?_
          refine x_ifb_eq C 99 dX9_number_68 rfl (fun c68 => ?_) (fun c68 => ?_)
          · have q9E : nE tx ny p mf = p := by simp [nE, c1, c10, c68]
            have q9K : nK tx ny p mf = i := by unfold nK; rw [q9E, ← hq]; simp [dcM, c1, c10, c68]
            refine x_aload_n C dX9_number_99 0 rfl ?_
            refine x_get C (xlo (i := 0) hb_m) (xhi (i := 0) hn_m rfl) (ov_at (i := 0) rfl) f_X9_21 rfl dX9_number_100 ?_
            refine x_iload_n C dX9_number_103 1 rfl ?_
            refine x_iload_n C dX9_number_104 2 rfl ?_
            refine x_if_eq C 114 dX9_number_105 rfl (fun _ => ?_) (fun c => absurd c (by decide))
            refine x_iload C dX9_number_114 4 rfl ?_
            refine x_iast (G' := ov m (mC E m s su st tx (nI ny) re ca (nI (p + i)) (upd to j (mV (mT tx ny) p i))) G) C j (xlo (i := 4) hb_m) (xhi (i := 4) hn_m rfl) (ov_at (i := 4) rfl) (vp_in_nI (by omega) (by decide)) (nI_clamp (by omega)) (ov_set (i := 4) rfl rfl) dX9_number_116 ?_
            refine x_aload_n C dX9_number_117 0 rfl ?_
            refine x_get C (xlo (i := 0) hb_m) (xhi (i := 0) hn_m rfl) (ov_at (i := 0) rfl) f_X9_114 rfl dX9_number_118 ?_
            refine x_iload C dX9_number_121 3 rfl ?_
            refine x_icmp_le C 130 dX9_number_123 rfl (fun c123 => ?_) (fun c123 => ?_)
            · refine x_iconst C 0 dX9_number_130 rfl ?_
              exact x_iret C Z rfl rfl (by simp only [nB, nP, q9E, q9K]; simp [bI, c1, c10, c68, c123]) (by simp only [nP, nV, q9E, q9K]; simp [if_true, c1, c10, c68, c123]) dX9_number_131
            · refine x_iconst C 1 dX9_number_126 rfl ?_
              refine x_goto C 131 dX9_number_127 rfl ?_
              exact x_iret C Z rfl rfl (by simp only [nB, nP, q9E, q9K]; simp [bI, c1, c10, c68, c123]) (by simp only [nP, nV, q9E, q9K]; simp [if_true, c1, c10, c68, c123]) dX9_number_131
          · refine x_bipush C 10 dX9_number_71 rfl ?_
            refine x_iload C dX9_number_73 4 rfl ?_
            refine x_imul C dX9_number_75 ?_
            refine x_aload_n C dX9_number_76 0 rfl ?_
            refine x_cV1 C (c_X9_sign E N m _ s su st tx ny re ca (p + i) to (by first | assumption | omega | decide) (by first | assumption | omega | decide) hb_m hn_m) v_X9_117 hN (xlo (i := 0) hb_m) (xhi (i := 0) hn_m rfl) (ov_at (i := 0) rfl) rfl rfl rfl rfl rfl dX9_number_77 ?_
            refine x_iadd C dX9_number_80 ?_
            refine x_bipush C 48 dX9_number_81 rfl ?_
            refine x_isub C dX9_number_83 ?_
            refine x_istore (L' := [(5, .int (((10 * (mV (mT tx ny) p i)) + (mT tx ny (p + i))) - 48)), (0, .ref m), (1, .int (nI j)), (3, .int 0), (4, .int (nI (p)))]) C dX9_number_84 rfl rfl ?_
            refine x_aload_n C dX9_number_86 1 rfl ?_
            refine x_dup C dX9_number_87 rfl ?_
            refine x_get C (xlo (i := 0) hb_m) (xhi (i := 0) hn_m rfl) (ov_at (i := 0) rfl) f_X9_114 rfl dX9_number_88 ?_
            refine x_iconst C 1 dX9_number_91 rfl ?_
            refine x_iadd C dX9_number_92 ?_
            refine x_v (w := .int (nI (p + i + 1))) (congrArg Value.int (natAdd (a := p + i) (b := 1) (by omega))) ?_
            refine x_put (G' := ov m (mC E m s su st tx (nI ny) re ca (nI (p + i + 1)) to) G) C (xlo (i := 0) hb_m) (xhi (i := 0) hn_m rfl) (ov_at (i := 0) rfl) f_X9_114 xt_X9 rfl rfl rfl rfl (ov_set (i := 0) rfl rfl) dX9_number_93 ?_
            refine x_goto C 46 dX9_number_96 rfl ?_
            refine x_perm (L' := [(0, .ref m), (1, .int (nI j)), (3, .int 0), (4, .int (nI (p))), (5, .int (((10 * (mV (mT tx ny) p i)) + (mT tx ny (p + i))) - 48))]) [1, 2, 3, 4, 0] rfl ?_
            refine x_to (L' := [(0, .ref m), (1, .int (nI j)), (3, .int 0), (4, .int (nI (p))), (5, .int (mV (mT tx ny) p (i + 1)))]) (G' := ov m (mC E m s su st tx (nI ny) re ca (nI (p + (i + 1))) to) G) (by simp only [mV]; first | done | rfl) rfl rfl ?_
            exact ih (i + 1) (by omega) (by rw [← hq]; simp only [dcM, if_neg c1, if_neg c10, c68, eq_self, if_true]; simp only [← Nat.add_assoc]; omega)
      refine x_to (L' := [(0, .ref m), (1, .int (nI j)), (3, .int 0), (4, .int (nI (p))), (5, .int (mV (mT tx ny) p 0))]) (G' := ov m (mC E m s su st tx (nI ny) re ca (nI (p + 0)) to) G) rfl rfl rfl ?_
      exact lp46_2 _ 0 (Nat.add_sub_cancel' (by omega)) (by simp)
    · refine x_iconst C 1 dX9_number_13 rfl ?_
      refine x_goto C 18 dX9_number_14 rfl ?_
      refine x_istore_n (L' := [(3, .int 1), (0, .ref m), (1, .int (nI j)), (2, .int mf)]) C dX9_number_18 rfl rfl ?_
      refine x_aload_n C dX9_number_19 1 rfl ?_
      refine x_dup C dX9_number_20 rfl ?_
      refine x_get C (xlo (i := 0) hb_m) (xhi (i := 0) hn_m rfl) (ov_at (i := 0) rfl) f_X9_114 rfl dX9_number_21 ?_
      refine x_iload_n C dX9_number_24 0 rfl ?_
      refine x_if_eq C 32 dX9_number_25 rfl (fun c => absurd c (by decide)) (fun _ => ?_)
      refine x_iconst C 1 dX9_number_28 rfl ?_
      refine x_goto C 33 dX9_number_29 rfl ?_
      refine x_iadd C dX9_number_33 ?_
      refine x_v (w := .int (nI (p + 1))) (congrArg Value.int (natAdd (a := p) (b := 1) (by omega))) ?_
      refine x_put (G' := ov m (mC E m s su st tx (nI ny) re ca (nI (p + 1)) to) G) C (xlo (i := 0) hb_m) (xhi (i := 0) hn_m rfl) (ov_at (i := 0) rfl) f_X9_114 xt_X9 rfl rfl rfl rfl (ov_set (i := 0) rfl rfl) dX9_number_34 ?_
      refine x_aload_n C dX9_number_37 1 rfl ?_
      refine x_get C (xlo (i := 0) hb_m) (xhi (i := 0) hn_m rfl) (ov_at (i := 0) rfl) f_X9_114 rfl dX9_number_38 ?_
      refine x_istore (L' := [(4, .int (nI (p + 1))), (3, .int 1), (0, .ref m), (1, .int (nI j)), (2, .int mf)]) C dX9_number_41 rfl rfl ?_
      refine x_iconst C 0 dX9_number_43 rfl ?_
      refine x_istore (L' := [(5, .int 0), (4, .int (nI (p + 1))), (3, .int 1), (0, .ref m), (1, .int (nI j)), (2, .int mf)]) C dX9_number_44 rfl rfl ?_
      refine x_perm (L' := [(0, .ref m), (1, .int (nI j)), (3, .int 1), (4, .int (nI (p + 1))), (5, .int 0)]) [3, 4, 2, 1, 0] rfl ?_
      have lp46_3 : ∀ (d i : Nat), i + d = 5 → i + dcM (mT tx ny) (p + 1 + i) d = dcM (mT tx ny) (p + 1) 5 → XW E K 6 N 0 0 (ov m (mC E m s su st tx (nI ny) re ca (nI (p + 1 + i)) to) G) 46 [(0, .ref m), (1, .int (nI j)), (3, .int 1), (4, .int (nI (p + 1))), (5, .int (mV (mT tx ny) (p + 1) i))] [] := by
        intro d
        induction d with
        | zero =>
          intro i hd hq
          have hi : i = 5 := by omega
          refine x_aload_n C dX9_number_46 0 rfl ?_
          refine x_get C (xlo (i := 0) hb_m) (xhi (i := 0) hn_m rfl) (ov_at (i := 0) rfl) f_X9_114 rfl dX9_number_47 ?_
          refine x_iload C dX9_number_50 3 rfl ?_
          refine x_iconst C 5 dX9_number_52 rfl ?_
          refine x_iadd C dX9_number_53 ?_
          refine x_v (w := .int (nI (p + 6))) (congrArg Value.int (natAdd (a := p + 1) (b := 5) (by omega))) ?_
          refine x_icmp_ge C 99 dX9_number_54 rfl (fun _ => ?_) (fun c => absurd c (not_not_intro (nI_le (by omega) (by omega))))
          have q9E : nE tx ny p mf = p + 1 := by simp [nE, c1, c10]
          have q9K : nK tx ny p mf = i := by unfold nK; rw [q9E, ← hq]; simp [dcM, c1, c10]
          refine x_aload_n C dX9_number_99 0 rfl ?_
          refine x_get C (xlo (i := 0) hb_m) (xhi (i := 0) hn_m rfl) (ov_at (i := 0) rfl) f_X9_21 rfl dX9_number_100 ?_
          refine x_iload_n C dX9_number_103 1 rfl ?_
          refine x_iload_n C dX9_number_104 2 rfl ?_
          refine x_if_eq C 114 dX9_number_105 rfl (fun c => absurd c (by decide)) (fun _ => ?_)
          refine x_iload C dX9_number_108 4 rfl ?_
          refine x_ineg C dX9_number_110 ?_
          refine x_goto C 116 dX9_number_111 rfl ?_
          refine x_iast (G' := ov m (mC E m s su st tx (nI ny) re ca (nI (p + 1 + i)) (upd to j (-(mV (mT tx ny) (p + 1) i)))) G) C j (xlo (i := 4) hb_m) (xhi (i := 4) hn_m rfl) (ov_at (i := 4) rfl) (vp_in_nI (by omega) (by decide)) (nI_clamp (by omega)) (ov_set (i := 4) rfl rfl) dX9_number_116 ?_
          refine x_aload_n C dX9_number_117 0 rfl ?_
          refine x_get C (xlo (i := 0) hb_m) (xhi (i := 0) hn_m rfl) (ov_at (i := 0) rfl) f_X9_114 rfl dX9_number_118 ?_
          refine x_iload C dX9_number_121 3 rfl ?_
          refine x_icmp_le C 130 dX9_number_123 rfl (fun c123 => ?_) (fun c123 => ?_)
          · refine x_iconst C 0 dX9_number_130 rfl ?_
            exact x_iret C Z rfl rfl (by simp only [nB, nP, q9E, q9K]; simp [bI, c1, c10, c123]) (by simp only [nP, nV, q9E, q9K]; simp [if_true, c1, c10, c123]) dX9_number_131
          · refine x_iconst C 1 dX9_number_126 rfl ?_
            refine x_goto C 131 dX9_number_127 rfl ?_
            exact x_iret C Z rfl rfl (by simp only [nB, nP, q9E, q9K]; simp [bI, c1, c10, c123]) (by simp only [nP, nV, q9E, q9K]; simp [if_true, c1, c10, c123]) dX9_number_131
        | succ d ih =>
          intro i hd hq
          have hi : i < 5 := by omega
          refine x_aload_n C dX9_number_46 0 rfl ?_
          refine x_get C (xlo (i := 0) hb_m) (xhi (i := 0) hn_m rfl) (ov_at (i := 0) rfl) f_X9_114 rfl dX9_number_47 ?_
          refine x_iload C dX9_number_50 3 rfl ?_
          refine x_iconst C 5 dX9_number_52 rfl ?_
          refine x_iadd C dX9_number_53 ?_
          refine x_v (w := .int (nI (p + 6))) (congrArg Value.int (natAdd (a := p + 1) (b := 5) (by omega))) ?_
          refine x_icmp_ge C 99 dX9_number_54 rfl (fun c => absurd c (nI_ge (by omega) (by omega))) (fun _ => ?_)
          refine x_aload_n C dX9_number_57 0 rfl ?_
          refine x_cV1 C (c_X9_sign E N m _ s su st tx ny re ca (p + 1 + i) to (by first | assumption | omega | decide) (by first | assumption | omega | decide) hb_m hn_m) v_X9_117 hN (xlo (i := 0) hb_m) (xhi (i := 0) hn_m rfl) (ov_at (i := 0) rfl) rfl rfl rfl rfl rfl dX9_number_58 ?_
          refine x_bipush C 48 dX9_number_61 rfl ?_
          refine x_bipush C 57 dX9_number_63 rfl ?_
          refine x_cS1 C (c_X9_in E N _ (mT tx ny (p + 1 + i)) 48 57) v_X9_54 hN rfl rfl rfl rfl dX9_number_65 ?_
          refine x_ifb_eq C 99 dX9_number_68 rfl (fun c68 => ?_) (fun c68 => ?_)
          · have q9E : nE tx ny p mf = p + 1 := by simp [nE, c1, c10, c68]
            have q9K : nK tx ny p mf = i := by unfold nK; rw [q9E, ← hq]; simp [dcM, c1, c10, c68]
            refine x_aload_n C dX9_number_99 0 rfl ?_
            refine x_get C (xlo (i := 0) hb_m) (xhi (i := 0) hn_m rfl) (ov_at (i := 0) rfl) f_X9_21 rfl dX9_number_100 ?_
            refine x_iload_n C dX9_number_103 1 rfl ?_
            refine x_iload_n C dX9_number_104 2 rfl ?_
            refine x_if_eq C 114 dX9_number_105 rfl (fun c => absurd c (by decide)) (fun _ => ?_)
            refine x_iload C dX9_number_108 4 rfl ?_
            refine x_ineg C dX9_number_110 ?_
            refine x_goto C 116 dX9_number_111 rfl ?_
            refine x_iast (G' := ov m (mC E m s su st tx (nI ny) re ca (nI (p + 1 + i)) (upd to j (-(mV (mT tx ny) (p + 1) i)))) G) C j (xlo (i := 4) hb_m) (xhi (i := 4) hn_m rfl) (ov_at (i := 4) rfl) (vp_in_nI (by omega) (by decide)) (nI_clamp (by omega)) (ov_set (i := 4) rfl rfl) dX9_number_116 ?_
            refine x_aload_n C dX9_number_117 0 rfl ?_
            refine x_get C (xlo (i := 0) hb_m) (xhi (i := 0) hn_m rfl) (ov_at (i := 0) rfl) f_X9_114 rfl dX9_number_118 ?_
            refine x_iload C dX9_number_121 3 rfl ?_
            refine x_icmp_le C 130 dX9_number_123 rfl (fun c123 => ?_) (fun c123 => ?_)
            · refine x_iconst C 0 dX9_number_130 rfl ?_
              exact x_iret C Z rfl rfl (by simp only [nB, nP, q9E, q9K]; simp [bI, c1, c10, c68, c123]) (by simp only [nP, nV, q9E, q9K]; simp [if_true, c1, c10, c68, c123]) dX9_number_131
            · refine x_iconst C 1 dX9_number_126 rfl ?_
              refine x_goto C 131 dX9_number_127 rfl ?_
              exact x_iret C Z rfl rfl (by simp only [nB, nP, q9E, q9K]; simp [bI, c1, c10, c68, c123]) (by simp only [nP, nV, q9E, q9K]; simp [if_true, c1, c10, c68, c123]) dX9_number_131
          · refine x_bipush C 10 dX9_number_71 rfl ?_
            refine x_iload C dX9_number_73 4 rfl ?_
            refine x_imul C dX9_number_75 ?_
            refine x_aload_n C dX9_number_76 0 rfl ?_
            refine x_cV1 C (c_X9_sign E N m _ s su st tx ny re ca (p + 1 + i) to (by first | assumption | omega | decide) (by first | assumption | omega | decide) hb_m hn_m) v_X9_117 hN (xlo (i := 0) hb_m) (xhi (i := 0) hn_m rfl) (ov_at (i := 0) rfl) rfl rfl rfl rfl rfl dX9_number_77 ?_
            refine x_iadd C dX9_number_80 ?_
            refine x_bipush C 48 dX9_number_81 rfl ?_
            refine x_isub C dX9_number_83 ?_
            refine x_istore (L' := [(5, .int (((10 * (mV (mT tx ny) (p + 1) i)) + (mT tx ny (p + 1 + i))) - 48)), (0, .ref m), (1, .int (nI j)), (3, .int 1), (4, .int (nI (p + 1)))]) C dX9_number_84 rfl rfl ?_
            refine x_aload_n C dX9_number_86 1 rfl ?_
            refine x_dup C dX9_number_87 rfl ?_
            refine x_get C (xlo (i := 0) hb_m) (xhi (i := 0) hn_m rfl) (ov_at (i := 0) rfl) f_X9_114 rfl dX9_number_88 ?_
            refine x_iconst C 1 dX9_number_91 rfl ?_
            refine x_iadd C dX9_number_92 ?_
            refine x_v (w := .int (nI (p + 1 + i + 1))) (congrArg Value.int (natAdd (a := p + 1 + i) (b := 1) (by omega))) ?_
            refine x_put (G' := ov m (mC E m s su st tx (nI ny) re ca (nI (p + 1 + i + 1)) to) G) C (xlo (i := 0) hb_m) (xhi (i := 0) hn_m rfl) (ov_at (i := 0) rfl) f_X9_114 xt_X9 rfl rfl rfl rfl (ov_set (i := 0) rfl rfl) dX9_number_93 ?_
            refine x_goto C 46 dX9_number_96 rfl ?_
            refine x_perm (L' := [(0, .ref m), (1, .int (nI j)), (3, .int 1), (4, .int (nI (p + 1))), (5, .int (((10 * (mV (mT tx ny) (p + 1) i)) + (mT tx ny (p + 1 + i))) - 48))]) [1, 2, 3, 4, 0] rfl ?_
            refine x_to (L' := [(0, .ref m), (1, .int (nI j)), (3, .int 1), (4, .int (nI (p + 1))), (5, .int (mV (mT tx ny) (p + 1) (i + 1)))]) (G' := ov m (mC E m s su st tx (nI ny) re ca (nI (p + 1 + (i + 1))) to) G) (by simp only [mV]; first | done | rfl) rfl rfl ?_
            exact ih (i + 1) (by omega) (by rw [← hq]; simp only [dcM, if_neg c1, if_pos c10, c68, eq_self, if_true]; simp only [← Nat.add_assoc]; omega)
      refine x_to (L' := [(0, .ref m), (1, .int (nI j)), (3, .int 1), (4, .int (nI (p + 1))), (5, .int (mV (mT tx ny) (p + 1) 0))]) (G' := ov m (mC E m s su st tx (nI ny) re ca (nI (p + 1 + 0)) to) G) rfl rfl rfl ?_
      exact lp46_3 _ 0 (Nat.add_sub_cancel' (by omega)) (by simp)

set_option maxRecDepth 100000 in
set_option maxHeartbeats 4000000 in
theorem c_X9_takes (E : XE) (N m : Nat) (G : GW) (s : Nat → Int32) (su : Nat → Int64) (st : Int32) (tx : Nat → Int32) (ny : Nat) (re ca : Int32) (p : Nat) (to : Nat → Int32) (w : Int32) (hny : ny ≤ 60) (hp : p ≤ 1000) (hb_m : xB E ≤ m) (hn_m : m + 5 ≤ N) : MF E yX9_takes cX9_takes 2 (some .boolean) 1 20 0 0 [.ref m, .int w] N (ov m (mC E m s su st tx (nI ny) re ca (nI p) to) G) (some (.int (bI (decide (mT tx ny p = w))))) (ov m (mC E m s su st tx (nI ny) re ca (nI (mTkP tx ny p w)) to) G) := by
  refine MF.mk RX9 rfl (by decide +kernel) rfl (fun K C Z hin hN => ?_)
  show XW E K 2 N 0 0 _ 0 [(0, .ref m), (1, .int w)] []
  refine x_aload_n C dX9_takes_0 0 rfl ?_
  refine x_cV1 C (c_X9_sign E N m _ s su st tx ny re ca p to (by first | assumption | omega | decide) (by first | assumption | omega | decide) hb_m hn_m) v_X9_117 hN (xlo (i := 0) hb_m) (xhi (i := 0) hn_m rfl) (ov_at (i := 0) rfl) rfl rfl rfl rfl rfl dX9_takes_1 ?_
  refine x_iload_n C dX9_takes_4 1 rfl ?_
  refine x_icmp_eq C 10 dX9_takes_5 rfl (fun c5 => ?_) (fun c5 => ?_)
  · refine x_aload_n C dX9_takes_10 0 rfl ?_
    refine x_dup C dX9_takes_11 rfl ?_
    refine x_get C (xlo (i := 0) hb_m) (xhi (i := 0) hn_m rfl) (ov_at (i := 0) rfl) f_X9_114 rfl dX9_takes_12 ?_
    refine x_iconst C 1 dX9_takes_15 rfl ?_
    refine x_iadd C dX9_takes_16 ?_
    refine x_v (w := .int (nI (p + 1))) (congrArg Value.int (natAdd (a := p) (b := 1) (by omega))) ?_
    refine x_put (G' := ov m (mC E m s su st tx (nI ny) re ca (nI (p + 1)) to) G) C (xlo (i := 0) hb_m) (xhi (i := 0) hn_m rfl) (ov_at (i := 0) rfl) f_X9_114 xt_X9 rfl rfl rfl rfl (ov_set (i := 0) rfl rfl) dX9_takes_17 ?_
    refine x_iconst C 1 dX9_takes_20 rfl ?_
    exact x_iret C Z rfl rfl (by simp [mTkP, bI, c5]) (by simp [mTkP, bI, c5]) dX9_takes_21
  · refine x_iconst C 0 dX9_takes_8 rfl ?_
    exact x_iret C Z rfl rfl (by simp [mTkP, bI, c5]) (by simp [mTkP, bI, c5]) dX9_takes_9

set_option maxRecDepth 100000 in
set_option maxHeartbeats 4000000 in
theorem c_X9_order (E : XE) (N m : Nat) (G : GW) (s : Nat → Int32) (su : Nat → Int64) (st : Int32) (tx : Nat → Int32) (ny : Nat) (re ca : Int32) (p : Nat) (to : Nat → Int32) (L : Int32) (hny : ny ≤ 60) (hp : p ≤ 900) (hb_m : xB E ≤ m) (hn_m : m + 5 ≤ N) : MF E yX9_order cX9_order 3 (some .boolean) 2 47 0 0 [.ref m, .int L] N (ov m (mC E m s su st tx (nI ny) re ca (nI p) to) G) (some (.int (bI (mOrd tx ny L p to).1))) (ov m (mC E m s su st tx (nI ny) re ca (nI ((mOrd tx ny L p to).2.1)) ((mOrd tx ny L p to).2.2)) G) := by
  refine MF.mk RX9 rfl (by decide +kernel) rfl (fun K C Z hin hN => ?_)
  show XW E K 3 N 0 0 _ 0 [(0, .ref m), (1, .int L)] []
  rcases Decidable.em (L = 115) with s9_115 | s9_115
  · subst s9_115
    refine x_iload_n C dX9_order_0 1 rfl ?_
    refine x_bipush C 115 dX9_order_1 rfl ?_
    refine x_icmp_eq C 36 dX9_order_3 rfl (fun _ => ?_) (fun c => absurd c (by decide))
    refine x_iconst C 1 dX9_order_36 rfl ?_
    refine x_goto C 41 dX9_order_37 rfl ?_
    refine x_istore_n (L' := [(2, .int 1), (0, .ref m), (1, .int 115)]) C dX9_order_41 rfl rfl ?_
    refine x_iload_n C dX9_order_42 0 rfl ?_
    refine x_if_ne C 48 dX9_order_43 rfl (fun _ => ?_) (fun c => absurd c (by decide))
    refine x_aload_n C dX9_order_48 1 rfl ?_
    refine x_dup C dX9_order_49 rfl ?_
    refine x_get C (xlo (i := 0) hb_m) (xhi (i := 0) hn_m rfl) (ov_at (i := 0) rfl) f_X9_114 rfl dX9_order_50 ?_
    refine x_iconst C 1 dX9_order_53 rfl ?_
    refine x_iadd C dX9_order_54 ?_
    refine x_v (w := .int (nI (p + 1))) (congrArg Value.int (natAdd (a := p) (b := 1) (by omega))) ?_
    refine x_put (G' := ov m (mC E m s su st tx (nI ny) re ca (nI (p + 1)) to) G) C (xlo (i := 0) hb_m) (xhi (i := 0) hn_m rfl) (ov_at (i := 0) rfl) f_X9_114 xt_X9 rfl rfl rfl rfl (ov_set (i := 0) rfl rfl) dX9_order_55 ?_
    refine x_aload_n C dX9_order_58 1 rfl ?_
    refine x_iconst C 0 dX9_order_59 rfl ?_
    refine x_iload_n C dX9_order_60 2 rfl ?_
    refine x_bipush C 115 dX9_order_61 rfl ?_
    refine x_icmp_ne C 70 dX9_order_63 rfl (fun c => absurd c (by decide)) (fun _ => ?_)
    refine x_iconst C 1 dX9_order_66 rfl ?_
    refine x_goto C 71 dX9_order_67 rfl ?_
    refine x_cV1 C (c_X9_number E N m _ s su st tx ny re ca (p + 1) to 0 1 (by first | assumption | omega | decide) (Nat.le_trans (Nat.le_refl (p + 1)) (by omega)) (by first | assumption | omega | decide) hb_m hn_m) v_X9_121 hN (xlo (i := 0) hb_m) (xhi (i := 0) hn_m rfl) (ov_at (i := 0) rfl) rfl rfl rfl rfl rfl dX9_order_71 ?_
    refine x_istore_n (L' := [(2, .int (bI (nB tx ny (p + 1) 1))), (0, .ref m), (1, .int 115)]) C dX9_order_74 rfl rfl ?_
    refine x_iload_n C dX9_order_75 2 rfl ?_
    refine x_bipush C 116 dX9_order_76 rfl ?_
    refine x_icmp_eq C 87 dX9_order_78 rfl (fun c => absurd c (by decide)) (fun _ => ?_)
    refine x_iload_n C dX9_order_81 2 rfl ?_
    refine x_bipush C 102 dX9_order_82 rfl ?_
    refine x_icmp_ne C 115 dX9_order_84 rfl (fun _ => ?_) (fun c => absurd c (by decide))
    refine x_iload_n C dX9_order_115 2 rfl ?_
    refine x_bipush C 116 dX9_order_116 rfl ?_
    refine x_icmp_ne C 149 dX9_order_118 rfl (fun _ => ?_) (fun c => absurd c (by decide))
    refine x_iload_n C dX9_order_149 0 rfl ?_
    refine x_ifb_eq C 166 dX9_order_150 rfl (fun c150 => ?_) (fun c150 => ?_)
    · refine x_iconst C 0 dX9_order_166 rfl ?_
      exact x_iret C Z rfl rfl (by first | (simp only [mOrd_115, stN, stK, c150, eq_self, Bool.false_eq_true, if_true, if_false]; done) | (simp [mOrd_115, stN, stK, c150]; done) | (simp [mOrd_115, stN, stK, bI, c150]; done)) (by first | (simp only [mOrd_115, stN, stK, c150, eq_self, Bool.false_eq_true, if_true, if_false]; done) | (simp [mOrd_115, stN, stK, c150]; done) | (simp [mOrd_115, stN, stK, bI, c150]; done)) dX9_order_167
    · refine x_aload_n C dX9_order_153 1 rfl ?_
      refine x_bipush C 59 dX9_order_154 rfl ?_
      refine x_cV1 C (c_X9_takes E N m _ s su st tx ny re ca (nP tx ny (p + 1) 1) (upd to 0 (nV tx ny (p + 1) 1)) 59 (by first | assumption | omega | decide) (Nat.le_trans (pl_n (Nat.le_refl (p + 1))) (by omega)) hb_m hn_m) v_X9_125 hN (xlo (i := 0) hb_m) (xhi (i := 0) hn_m rfl) (ov_at (i := 0) rfl) rfl rfl rfl rfl rfl dX9_order_156 ?_
      refine x_tb_eq C 166 167 dX9_order_159 rfl dX9_order_162 dX9_order_163 rfl dX9_order_166 rfl ?_
      exact x_iret C Z rfl (bI_n _) (by first | (simp only [mOrd_115, stN, stK, c150, eq_self, Bool.false_eq_true, if_true, if_false]; done) | (simp [mOrd_115, stN, stK, c150]; done) | (simp [mOrd_115, stN, stK, bI, c150]; done)) (by first | (simp only [mOrd_115, stN, stK, c150, eq_self, Bool.false_eq_true, if_true, if_false]; done) | (simp [mOrd_115, stN, stK, c150]; done) | (simp [mOrd_115, stN, stK, bI, c150]; done)) dX9_order_167
  rcases Decidable.em (L = 122) with s9_122 | s9_122
  · subst s9_122
    refine x_iload_n C dX9_order_0 1 rfl ?_
    refine x_bipush C 115 dX9_order_1 rfl ?_
    refine x_icmp_eq C 36 dX9_order_3 rfl (fun c => absurd c (by decide)) (fun _ => ?_)
    refine x_iload_n C dX9_order_6 1 rfl ?_
    refine x_bipush C 122 dX9_order_7 rfl ?_
    refine x_icmp_eq C 36 dX9_order_9 rfl (fun _ => ?_) (fun c => absurd c (by decide))
    refine x_iconst C 1 dX9_order_36 rfl ?_
    refine x_goto C 41 dX9_order_37 rfl ?_
    refine x_istore_n (L' := [(2, .int 1), (0, .ref m), (1, .int 122)]) C dX9_order_41 rfl rfl ?_
    refine x_iload_n C dX9_order_42 0 rfl ?_
    refine x_if_ne C 48 dX9_order_43 rfl (fun _ => ?_) (fun c => absurd c (by decide))
    refine x_aload_n C dX9_order_48 1 rfl ?_
    refine x_dup C dX9_order_49 rfl ?_
    refine x_get C (xlo (i := 0) hb_m) (xhi (i := 0) hn_m rfl) (ov_at (i := 0) rfl) f_X9_114 rfl dX9_order_50 ?_
    refine x_iconst C 1 dX9_order_53 rfl ?_
    refine x_iadd C dX9_order_54 ?_
    refine x_v (w := .int (nI (p + 1))) (congrArg Value.int (natAdd (a := p) (b := 1) (by omega))) ?_
    refine x_put (G' := ov m (mC E m s su st tx (nI ny) re ca (nI (p + 1)) to) G) C (xlo (i := 0) hb_m) (xhi (i := 0) hn_m rfl) (ov_at (i := 0) rfl) f_X9_114 xt_X9 rfl rfl rfl rfl (ov_set (i := 0) rfl rfl) dX9_order_55 ?_
    refine x_aload_n C dX9_order_58 1 rfl ?_
    refine x_iconst C 0 dX9_order_59 rfl ?_
    refine x_iload_n C dX9_order_60 2 rfl ?_
    refine x_bipush C 115 dX9_order_61 rfl ?_
    refine x_icmp_ne C 70 dX9_order_63 rfl (fun _ => ?_) (fun c => absurd c (by decide))
    refine x_iconst C 0 dX9_order_70 rfl ?_
    refine x_cV1 C (c_X9_number E N m _ s su st tx ny re ca (p + 1) to 0 0 (by first | assumption | omega | decide) (Nat.le_trans (Nat.le_refl (p + 1)) (by omega)) (by first | assumption | omega | decide) hb_m hn_m) v_X9_121 hN (xlo (i := 0) hb_m) (xhi (i := 0) hn_m rfl) (ov_at (i := 0) rfl) rfl rfl rfl rfl rfl dX9_order_71 ?_
    refine x_istore_n (L' := [(2, .int (bI (nB tx ny (p + 1) 0))), (0, .ref m), (1, .int 122)]) C dX9_order_74 rfl rfl ?_
    refine x_iload_n C dX9_order_75 2 rfl ?_
    refine x_bipush C 116 dX9_order_76 rfl ?_
    refine x_icmp_eq C 87 dX9_order_78 rfl (fun c => absurd c (by decide)) (fun _ => ?_)
    refine x_iload_n C dX9_order_81 2 rfl ?_
    refine x_bipush C 102 dX9_order_82 rfl ?_
    refine x_icmp_ne C 115 dX9_order_84 rfl (fun _ => ?_) (fun c => absurd c (by decide))
    refine x_iload_n C dX9_order_115 2 rfl ?_
    refine x_bipush C 116 dX9_order_116 rfl ?_
    refine x_icmp_ne C 149 dX9_order_118 rfl (fun _ => ?_) (fun c => absurd c (by decide))
    refine x_iload_n C dX9_order_149 0 rfl ?_
    refine x_ifb_eq C 166 dX9_order_150 rfl (fun c150 => ?_) (fun c150 => ?_)
    · refine x_iconst C 0 dX9_order_166 rfl ?_
      exact x_iret C Z rfl rfl (by first | (simp only [mOrd_122, stN, stK, c150, eq_self, Bool.false_eq_true, if_true, if_false]; done) | (simp [mOrd_122, stN, stK, c150]; done) | (simp [mOrd_122, stN, stK, bI, c150]; done)) (by first | (simp only [mOrd_122, stN, stK, c150, eq_self, Bool.false_eq_true, if_true, if_false]; done) | (simp [mOrd_122, stN, stK, c150]; done) | (simp [mOrd_122, stN, stK, bI, c150]; done)) dX9_order_167
    · refine x_aload_n C dX9_order_153 1 rfl ?_
      refine x_bipush C 59 dX9_order_154 rfl ?_
      refine x_cV1 C (c_X9_takes E N m _ s su st tx ny re ca (nP tx ny (p + 1) 0) (upd to 0 (nV tx ny (p + 1) 0)) 59 (by first | assumption | omega | decide) (Nat.le_trans (pl_n (Nat.le_refl (p + 1))) (by omega)) hb_m hn_m) v_X9_125 hN (xlo (i := 0) hb_m) (xhi (i := 0) hn_m rfl) (ov_at (i := 0) rfl) rfl rfl rfl rfl rfl dX9_order_156 ?_
      refine x_tb_eq C 166 167 dX9_order_159 rfl dX9_order_162 dX9_order_163 rfl dX9_order_166 rfl ?_
      exact x_iret C Z rfl (bI_n _) (by first | (simp only [mOrd_122, stN, stK, c150, eq_self, Bool.false_eq_true, if_true, if_false]; done) | (simp [mOrd_122, stN, stK, c150]; done) | (simp [mOrd_122, stN, stK, bI, c150]; done)) (by first | (simp only [mOrd_122, stN, stK, c150, eq_self, Bool.false_eq_true, if_true, if_false]; done) | (simp [mOrd_122, stN, stK, c150]; done) | (simp [mOrd_122, stN, stK, bI, c150]; done)) dX9_order_167
  rcases Decidable.em (L = 116) with s9_116 | s9_116
  · subst s9_116
    refine x_iload_n C dX9_order_0 1 rfl ?_
    refine x_bipush C 115 dX9_order_1 rfl ?_
    refine x_icmp_eq C 36 dX9_order_3 rfl (fun c => absurd c (by decide)) (fun _ => ?_)
    refine x_iload_n C dX9_order_6 1 rfl ?_
    refine x_bipush C 122 dX9_order_7 rfl ?_
    refine x_icmp_eq C 36 dX9_order_9 rfl (fun c => absurd c (by decide)) (fun _ => ?_)
    refine x_iload_n C dX9_order_12 1 rfl ?_
    refine x_bipush C 116 dX9_order_13 rfl ?_
    refine x_icmp_eq C 36 dX9_order_15 rfl (fun _ => ?_) (fun c => absurd c (by decide))
    refine x_iconst C 1 dX9_order_36 rfl ?_
    refine x_goto C 41 dX9_order_37 rfl ?_
    refine x_istore_n (L' := [(2, .int 1), (0, .ref m), (1, .int 116)]) C dX9_order_41 rfl rfl ?_
    refine x_iload_n C dX9_order_42 0 rfl ?_
    refine x_if_ne C 48 dX9_order_43 rfl (fun _ => ?_) (fun c => absurd c (by decide))
    refine x_aload_n C dX9_order_48 1 rfl ?_
    refine x_dup C dX9_order_49 rfl ?_
    refine x_get C (xlo (i := 0) hb_m) (xhi (i := 0) hn_m rfl) (ov_at (i := 0) rfl) f_X9_114 rfl dX9_order_50 ?_
    refine x_iconst C 1 dX9_order_53 rfl ?_
    refine x_iadd C dX9_order_54 ?_
    refine x_v (w := .int (nI (p + 1))) (congrArg Value.int (natAdd (a := p) (b := 1) (by omega))) ?_
    refine x_put (G' := ov m (mC E m s su st tx (nI ny) re ca (nI (p + 1)) to) G) C (xlo (i := 0) hb_m) (xhi (i := 0) hn_m rfl) (ov_at (i := 0) rfl) f_X9_114 xt_X9 rfl rfl rfl rfl (ov_set (i := 0) rfl rfl) dX9_order_55 ?_
    refine x_aload_n C dX9_order_58 1 rfl ?_
    refine x_iconst C 0 dX9_order_59 rfl ?_
    refine x_iload_n C dX9_order_60 2 rfl ?_
    refine x_bipush C 115 dX9_order_61 rfl ?_
    refine x_icmp_ne C 70 dX9_order_63 rfl (fun _ => ?_) (fun c => absurd c (by decide))
    refine x_iconst C 0 dX9_order_70 rfl ?_
    refine x_cV1 C (c_X9_number E N m _ s su st tx ny re ca (p + 1) to 0 0 (by first | assumption | omega | decide) (Nat.le_trans (Nat.le_refl (p + 1)) (by omega)) (by first | assumption | omega | decide) hb_m hn_m) v_X9_121 hN (xlo (i := 0) hb_m) (xhi (i := 0) hn_m rfl) (ov_at (i := 0) rfl) rfl rfl rfl rfl rfl dX9_order_71 ?_
    refine x_istore_n (L' := [(2, .int (bI (nB tx ny (p + 1) 0))), (0, .ref m), (1, .int 116)]) C dX9_order_74 rfl rfl ?_
    refine x_iload_n C dX9_order_75 2 rfl ?_
    refine x_bipush C 116 dX9_order_76 rfl ?_
    refine x_icmp_eq C 87 dX9_order_78 rfl (fun _ => ?_) (fun c => absurd c (by decide))
    refine x_iload_n C dX9_order_87 0 rfl ?_
    refine x_ifb_eq C 113 dX9_order_88 rfl (fun c88 => ?_) (fun c88 => ?_)
    · refine x_iconst C 0 dX9_order_113 rfl ?_
      refine x_istore_n (L' := [(2, .int 0), (0, .ref m), (1, .int 116)]) C dX9_order_114 rfl rfl ?_
      refine x_iload_n C dX9_order_115 2 rfl ?_
      refine x_bipush C 116 dX9_order_116 rfl ?_
      refine x_icmp_ne C 149 dX9_order_118 rfl (fun c => absurd c (by decide)) (fun _ => ?_)
      refine x_iload_n C dX9_order_121 0 rfl ?_
      refine x_if_eq C 147 dX9_order_122 rfl (fun _ => ?_) (fun c => absurd c (by decide))
      refine x_iconst C 0 dX9_order_147 rfl ?_
      refine x_istore_n (L' := [(2, .int 0), (0, .ref m), (1, .int 116)]) C dX9_order_148 rfl rfl ?_
      refine x_iload_n C dX9_order_149 0 rfl ?_
      refine x_if_eq C 166 dX9_order_150 rfl (fun _ => ?_) (fun c => absurd c (by decide))
      refine x_iconst C 0 dX9_order_166 rfl ?_
      exact x_iret C Z rfl rfl (by first | (simp only [mOrd_116, stN, stK, c88, eq_self, Bool.false_eq_true, if_true, if_false]; done) | (simp [mOrd_116, stN, stK, c88]; done) | (simp [mOrd_116, stN, stK, bI, c88]; done)) (by first | (simp only [mOrd_116, stN, stK, c88, eq_self, Bool.false_eq_true, if_true, if_false]; done) | (simp [mOrd_116, stN, stK, c88]; done) | (simp [mOrd_116, stN, stK, bI, c88]; done)) dX9_order_167
    · refine x_aload_n C dX9_order_91 1 rfl ?_
      refine x_bipush C 44 dX9_order_92 rfl ?_
      refine x_cV1 C (c_X9_takes E N m _ s su st tx ny re ca (nP tx ny (p + 1) 0) (upd to 0 (nV tx ny (p + 1) 0)) 44 (by first | assumption | omega | decide) (Nat.le_trans (pl_n (Nat.le_refl (p + 1))) (by omega)) hb_m hn_m) v_X9_125 hN (xlo (i := 0) hb_m) (xhi (i := 0) hn_m rfl) (ov_at (i := 0) rfl) rfl rfl rfl rfl rfl dX9_order_94 ?_
      refine x_ifb_eq C 113 dX9_order_97 rfl (fun c97 => ?_) (fun c97 => ?_)
      · refine x_iconst C 0 dX9_order_113 rfl ?_
        refine x_istore_n (L' := [(2, .int 0), (0, .ref m), (1, .int 116)]) C dX9_order_114 rfl rfl ?_
        refine x_iload_n C dX9_order_115 2 rfl ?_
        refine x_bipush C 116 dX9_order_116 rfl ?_
        refine x_icmp_ne C 149 dX9_order_118 rfl (fun c => absurd c (by decide)) (fun _ => ?_)
        refine x_iload_n C dX9_order_121 0 rfl ?_
        refine x_if_eq C 147 dX9_order_122 rfl (fun _ => ?_) (fun c => absurd c (by decide))
        refine x_iconst C 0 dX9_order_147 rfl ?_
        refine x_istore_n (L' := [(2, .int 0), (0, .ref m), (1, .int 116)]) C dX9_order_148 rfl rfl ?_
        refine x_iload_n C dX9_order_149 0 rfl ?_
        refine x_if_eq C 166 dX9_order_150 rfl (fun _ => ?_) (fun c => absurd c (by decide))
        refine x_iconst C 0 dX9_order_166 rfl ?_
        exact x_iret C Z rfl rfl (by first | (simp only [mOrd_116, stN, stK, c88, c97, eq_self, Bool.false_eq_true, if_true, if_false]; done) | (simp [mOrd_116, stN, stK, c88, c97]; done) | (simp [mOrd_116, stN, stK, bI, c88, c97]; done)) (by first | (simp only [mOrd_116, stN, stK, c88, c97, eq_self, Bool.false_eq_true, if_true, if_false]; done) | (simp [mOrd_116, stN, stK, c88, c97]; done) | (simp [mOrd_116, stN, stK, bI, c88, c97]; done)) dX9_order_167
      · refine x_aload_n C dX9_order_100 1 rfl ?_
        refine x_iconst C 1 dX9_order_101 rfl ?_
        refine x_iconst C 0 dX9_order_102 rfl ?_
        refine x_cV1 C (c_X9_number E N m _ s su st tx ny re ca (mTkP tx ny (nP tx ny (p + 1) 0) 44) (upd to 0 (nV tx ny (p + 1) 0)) 1 0 (by first | assumption | omega | decide) (Nat.le_trans (pl_k (pl_n (Nat.le_refl (p + 1)))) (by omega)) (by first | assumption | omega | decide) hb_m hn_m) v_X9_121 hN (xlo (i := 0) hb_m) (xhi (i := 0) hn_m rfl) (ov_at (i := 0) rfl) rfl rfl rfl rfl rfl dX9_order_103 ?_
        refine x_tb_eq C 113 114 dX9_order_106 rfl dX9_order_109 dX9_order_110 rfl dX9_order_113 rfl ?_
        refine x_istore_n (L' := [(2, .int (bI (nB tx ny (mTkP tx ny (nP tx ny (p + 1) 0) 44) 0))), (0, .ref m), (1, .int 116)]) C dX9_order_114 rfl rfl ?_
        refine x_iload_n C dX9_order_115 2 rfl ?_
        refine x_bipush C 116 dX9_order_116 rfl ?_
        refine x_icmp_ne C 149 dX9_order_118 rfl (fun c => absurd c (by decide)) (fun _ => ?_)
        refine x_iload_n C dX9_order_121 0 rfl ?_
        refine x_ifb_eq C 147 dX9_order_122 rfl (fun c122 => ?_) (fun c122 => ?_)
        · refine x_iconst C 0 dX9_order_147 rfl ?_
          refine x_istore_n (L' := [(2, .int 0), (0, .ref m), (1, .int 116)]) C dX9_order_148 rfl rfl ?_
          refine x_iload_n C dX9_order_149 0 rfl ?_
          refine x_if_eq C 166 dX9_order_150 rfl (fun _ => ?_) (fun c => absurd c (by decide))
          refine x_iconst C 0 dX9_order_166 rfl ?_
          exact x_iret C Z rfl rfl (by first | (simp only [mOrd_116, stN, stK, c88, c97, c122, eq_self, Bool.false_eq_true, if_true, if_false]; done) | (simp [mOrd_116, stN, stK, c88, c97, c122]; done) | (simp [mOrd_116, stN, stK, bI, c88, c97, c122]; done)) (by first | (simp only [mOrd_116, stN, stK, c88, c97, c122, eq_self, Bool.false_eq_true, if_true, if_false]; done) | (simp [mOrd_116, stN, stK, c88, c97, c122]; done) | (simp [mOrd_116, stN, stK, bI, c88, c97, c122]; done)) dX9_order_167
        · refine x_aload_n C dX9_order_125 1 rfl ?_
          refine x_bipush C 44 dX9_order_126 rfl ?_
          refine x_cV1 C (c_X9_takes E N m _ s su st tx ny re ca (nP tx ny (mTkP tx ny (nP tx ny (p + 1) 0) 44) 0) (upd (upd to 0 (nV tx ny (p + 1) 0)) 1 (nV tx ny (mTkP tx ny (nP tx ny (p + 1) 0) 44) 0)) 44 (by first | assumption | omega | decide) (Nat.le_trans (pl_n (pl_k (pl_n (Nat.le_refl (p + 1))))) (by omega)) hb_m hn_m) v_X9_125 hN (xlo (i := 0) hb_m) (xhi (i := 0) hn_m rfl) (ov_at (i := 0) rfl) rfl rfl rfl rfl rfl dX9_order_128 ?_
          refine x_ifb_eq C 147 dX9_order_131 rfl (fun c131 => ?_) (fun c131 => ?_)
          · refine x_iconst C 0 dX9_order_147 rfl ?_
            refine x_istore_n (L' := [(2, .int 0), (0, .ref m), (1, .int 116)]) C dX9_order_148 rfl rfl ?_
            refine x_iload_n C dX9_order_149 0 rfl ?_
            refine x_if_eq C 166 dX9_order_150 rfl (fun _ => ?_) (fun c => absurd c (by decide))
            refine x_iconst C 0 dX9_order_166 rfl ?_
            exact x_iret C Z rfl rfl (by first | (simp only [mOrd_116, stN, stK, c88, c97, c122, c131, eq_self, Bool.false_eq_true, if_true, if_false]; done) | (simp [mOrd_116, stN, stK, c88, c97, c122, c131]; done) | (simp [mOrd_116, stN, stK, bI, c88, c97, c122, c131]; done)) (by first | (simp only [mOrd_116, stN, stK, c88, c97, c122, c131, eq_self, Bool.false_eq_true, if_true, if_false]; done) | (simp [mOrd_116, stN, stK, c88, c97, c122, c131]; done) | (simp [mOrd_116, stN, stK, bI, c88, c97, c122, c131]; done)) dX9_order_167
          · refine x_aload_n C dX9_order_134 1 rfl ?_
            refine x_iconst C 2 dX9_order_135 rfl ?_
            refine x_iconst C 1 dX9_order_136 rfl ?_
            refine x_cV1 C (c_X9_number E N m _ s su st tx ny re ca (mTkP tx ny (nP tx ny (mTkP tx ny (nP tx ny (p + 1) 0) 44) 0) 44) (upd (upd to 0 (nV tx ny (p + 1) 0)) 1 (nV tx ny (mTkP tx ny (nP tx ny (p + 1) 0) 44) 0)) 2 1 (by first | assumption | omega | decide) (Nat.le_trans (pl_k (pl_n (pl_k (pl_n (Nat.le_refl (p + 1)))))) (by omega)) (by first | assumption | omega | decide) hb_m hn_m) v_X9_121 hN (xlo (i := 0) hb_m) (xhi (i := 0) hn_m rfl) (ov_at (i := 0) rfl) rfl rfl rfl rfl rfl dX9_order_137 ?_
            refine x_tb_eq C 147 148 dX9_order_140 rfl dX9_order_143 dX9_order_144 rfl dX9_order_147 rfl ?_
            refine x_istore_n (L' := [(2, .int (bI (nB tx ny (mTkP tx ny (nP tx ny (mTkP tx ny (nP tx ny (p + 1) 0) 44) 0) 44) 1))), (0, .ref m), (1, .int 116)]) C dX9_order_148 rfl rfl ?_
            refine x_iload_n C dX9_order_149 0 rfl ?_
            refine x_ifb_eq C 166 dX9_order_150 rfl (fun c150 => ?_) (fun c150 => ?_)
            · refine x_iconst C 0 dX9_order_166 rfl ?_
              exact x_iret C Z rfl rfl (by first | (simp only [mOrd_116, stN, stK, c88, c97, c122, c131, c150, eq_self, Bool.false_eq_true, if_true, if_false]; done) | (simp [mOrd_116, stN, stK, c88, c97, c122, c131, c150]; done) | (simp [mOrd_116, stN, stK, bI, c88, c97, c122, c131, c150]; done)) (by first | (simp only [mOrd_116, stN, stK, c88, c97, c122, c131, c150, eq_self, Bool.false_eq_true, if_true, if_false]; done) | (simp [mOrd_116, stN, stK, c88, c97, c122, c131, c150]; done) | (simp [mOrd_116, stN, stK, bI, c88, c97, c122, c131, c150]; done)) dX9_order_167
            · refine x_aload_n C dX9_order_153 1 rfl ?_
              refine x_bipush C 59 dX9_order_154 rfl ?_
              refine x_cV1 C (c_X9_takes E N m _ s su st tx ny re ca (nP tx ny (mTkP tx ny (nP tx ny (mTkP tx ny (nP tx ny (p + 1) 0) 44) 0) 44) 1) (upd (upd (upd to 0 (nV tx ny (p + 1) 0)) 1 (nV tx ny (mTkP tx ny (nP tx ny (p + 1) 0) 44) 0)) 2 (nV tx ny (mTkP tx ny (nP tx ny (mTkP tx ny (nP tx ny (p + 1) 0) 44) 0) 44) 1)) 59 (by first | assumption | omega | decide) (Nat.le_trans (pl_n (pl_k (pl_n (pl_k (pl_n (Nat.le_refl (p + 1))))))) (by omega)) hb_m hn_m) v_X9_125 hN (xlo (i := 0) hb_m) (xhi (i := 0) hn_m rfl) (ov_at (i := 0) rfl) rfl rfl rfl rfl rfl dX9_order_156 ?_
              refine x_tb_eq C 166 167 dX9_order_159 rfl dX9_order_162 dX9_order_163 rfl dX9_order_166 rfl ?_
              exact x_iret C Z rfl (bI_n _) (by first | (simp only [mOrd_116, stN, stK, c88, c97, c122, c131, c150, eq_self, Bool.false_eq_true, if_true, if_false]; done) | (simp [mOrd_116, stN, stK, c88, c97, c122, c131, c150]; done) | (simp [mOrd_116, stN, stK, bI, c88, c97, c122, c131, c150]; done)) (by first | (simp only [mOrd_116, stN, stK, c88, c97, c122, c131, c150, eq_self, Bool.false_eq_true, if_true, if_false]; done) | (simp [mOrd_116, stN, stK, c88, c97, c122, c131, c150]; done) | (simp [mOrd_116, stN, stK, bI, c88, c97, c122, c131, c150]; done)) dX9_order_167
  rcases Decidable.em (L = 102) with s9_102 | s9_102
  · subst s9_102
    refine x_iload_n C dX9_order_0 1 rfl ?_
    refine x_bipush C 115 dX9_order_1 rfl ?_
    refine x_icmp_eq C 36 dX9_order_3 rfl (fun c => absurd c (by decide)) (fun _ => ?_)
    refine x_iload_n C dX9_order_6 1 rfl ?_
    refine x_bipush C 122 dX9_order_7 rfl ?_
    refine x_icmp_eq C 36 dX9_order_9 rfl (fun c => absurd c (by decide)) (fun _ => ?_)
    refine x_iload_n C dX9_order_12 1 rfl ?_
    refine x_bipush C 116 dX9_order_13 rfl ?_
    refine x_icmp_eq C 36 dX9_order_15 rfl (fun c => absurd c (by decide)) (fun _ => ?_)
    refine x_iload_n C dX9_order_18 1 rfl ?_
    refine x_bipush C 102 dX9_order_19 rfl ?_
    refine x_icmp_eq C 36 dX9_order_21 rfl (fun _ => ?_) (fun c => absurd c (by decide))
    refine x_iconst C 1 dX9_order_36 rfl ?_
    refine x_goto C 41 dX9_order_37 rfl ?_
    refine x_istore_n (L' := [(2, .int 1), (0, .ref m), (1, .int 102)]) C dX9_order_41 rfl rfl ?_
    refine x_iload_n C dX9_order_42 0 rfl ?_
    refine x_if_ne C 48 dX9_order_43 rfl (fun _ => ?_) (fun c => absurd c (by decide))
    refine x_aload_n C dX9_order_48 1 rfl ?_
    refine x_dup C dX9_order_49 rfl ?_
    refine x_get C (xlo (i := 0) hb_m) (xhi (i := 0) hn_m rfl) (ov_at (i := 0) rfl) f_X9_114 rfl dX9_order_50 ?_
    refine x_iconst C 1 dX9_order_53 rfl ?_
    refine x_iadd C dX9_order_54 ?_
    refine x_v (w := .int (nI (p + 1))) (congrArg Value.int (natAdd (a := p) (b := 1) (by omega))) ?_
    refine x_put (G' := ov m (mC E m s su st tx (nI ny) re ca (nI (p + 1)) to) G) C (xlo (i := 0) hb_m) (xhi (i := 0) hn_m rfl) (ov_at (i := 0) rfl) f_X9_114 xt_X9 rfl rfl rfl rfl (ov_set (i := 0) rfl rfl) dX9_order_55 ?_
    refine x_aload_n C dX9_order_58 1 rfl ?_
    refine x_iconst C 0 dX9_order_59 rfl ?_
    refine x_iload_n C dX9_order_60 2 rfl ?_
    refine x_bipush C 115 dX9_order_61 rfl ?_
    refine x_icmp_ne C 70 dX9_order_63 rfl (fun _ => ?_) (fun c => absurd c (by decide))
    refine x_iconst C 0 dX9_order_70 rfl ?_
    refine x_cV1 C (c_X9_number E N m _ s su st tx ny re ca (p + 1) to 0 0 (by first | assumption | omega | decide) (Nat.le_trans (Nat.le_refl (p + 1)) (by omega)) (by first | assumption | omega | decide) hb_m hn_m) v_X9_121 hN (xlo (i := 0) hb_m) (xhi (i := 0) hn_m rfl) (ov_at (i := 0) rfl) rfl rfl rfl rfl rfl dX9_order_71 ?_
    refine x_istore_n (L' := [(2, .int (bI (nB tx ny (p + 1) 0))), (0, .ref m), (1, .int 102)]) C dX9_order_74 rfl rfl ?_
    refine x_iload_n C dX9_order_75 2 rfl ?_
    refine x_bipush C 116 dX9_order_76 rfl ?_
    refine x_icmp_eq C 87 dX9_order_78 rfl (fun c => absurd c (by decide)) (fun _ => ?_)
    refine x_iload_n C dX9_order_81 2 rfl ?_
    refine x_bipush C 102 dX9_order_82 rfl ?_
    refine x_icmp_ne C 115 dX9_order_84 rfl (fun c => absurd c (by decide)) (fun _ => ?_)
    refine x_iload_n C dX9_order_87 0 rfl ?_
    refine x_ifb_eq C 113 dX9_order_88 rfl (fun c88 => ?_) (fun c88 => ?_)
    · refine x_iconst C 0 dX9_order_113 rfl ?_
      refine x_istore_n (L' := [(2, .int 0), (0, .ref m), (1, .int 102)]) C dX9_order_114 rfl rfl ?_
      refine x_iload_n C dX9_order_115 2 rfl ?_
      refine x_bipush C 116 dX9_order_116 rfl ?_
      refine x_icmp_ne C 149 dX9_order_118 rfl (fun _ => ?_) (fun c => absurd c (by decide))
      refine x_iload_n C dX9_order_149 0 rfl ?_
      refine x_if_eq C 166 dX9_order_150 rfl (fun _ => ?_) (fun c => absurd c (by decide))
      refine x_iconst C 0 dX9_order_166 rfl ?_
      exact x_iret C Z rfl rfl (by first | (simp only [mOrd_102, stN, stK, c88, eq_self, Bool.false_eq_true, if_true, if_false]; done) | (simp [mOrd_102, stN, stK, c88]; done) | (simp [mOrd_102, stN, stK, bI, c88]; done)) (by first | (simp only [mOrd_102, stN, stK, c88, eq_self, Bool.false_eq_true, if_true, if_false]; done) | (simp [mOrd_102, stN, stK, c88]; done) | (simp [mOrd_102, stN, stK, bI, c88]; done)) dX9_order_167
    · refine x_aload_n C dX9_order_91 1 rfl ?_
      refine x_bipush C 44 dX9_order_92 rfl ?_
      refine x_cV1 C (c_X9_takes E N m _ s su st tx ny re ca (nP tx ny (p + 1) 0) (upd to 0 (nV tx ny (p + 1) 0)) 44 (by first | assumption | omega | decide) (Nat.le_trans (pl_n (Nat.le_refl (p + 1))) (by omega)) hb_m hn_m) v_X9_125 hN (xlo (i := 0) hb_m) (xhi (i := 0) hn_m rfl) (ov_at (i := 0) rfl) rfl rfl rfl rfl rfl dX9_order_94 ?_
      refine x_ifb_eq C 113 dX9_order_97 rfl (fun c97 => ?_) (fun c97 => ?_)
      · refine x_iconst C 0 dX9_order_113 rfl ?_
        refine x_istore_n (L' := [(2, .int 0), (0, .ref m), (1, .int 102)]) C dX9_order_114 rfl rfl ?_
        refine x_iload_n C dX9_order_115 2 rfl ?_
        refine x_bipush C 116 dX9_order_116 rfl ?_
        refine x_icmp_ne C 149 dX9_order_118 rfl (fun _ => ?_) (fun c => absurd c (by decide))
        refine x_iload_n C dX9_order_149 0 rfl ?_
        refine x_if_eq C 166 dX9_order_150 rfl (fun _ => ?_) (fun c => absurd c (by decide))
        refine x_iconst C 0 dX9_order_166 rfl ?_
        exact x_iret C Z rfl rfl (by first | (simp only [mOrd_102, stN, stK, c88, c97, eq_self, Bool.false_eq_true, if_true, if_false]; done) | (simp [mOrd_102, stN, stK, c88, c97]; done) | (simp [mOrd_102, stN, stK, bI, c88, c97]; done)) (by first | (simp only [mOrd_102, stN, stK, c88, c97, eq_self, Bool.false_eq_true, if_true, if_false]; done) | (simp [mOrd_102, stN, stK, c88, c97]; done) | (simp [mOrd_102, stN, stK, bI, c88, c97]; done)) dX9_order_167
      · refine x_aload_n C dX9_order_100 1 rfl ?_
        refine x_iconst C 1 dX9_order_101 rfl ?_
        refine x_iconst C 0 dX9_order_102 rfl ?_
        refine x_cV1 C (c_X9_number E N m _ s su st tx ny re ca (mTkP tx ny (nP tx ny (p + 1) 0) 44) (upd to 0 (nV tx ny (p + 1) 0)) 1 0 (by first | assumption | omega | decide) (Nat.le_trans (pl_k (pl_n (Nat.le_refl (p + 1)))) (by omega)) (by first | assumption | omega | decide) hb_m hn_m) v_X9_121 hN (xlo (i := 0) hb_m) (xhi (i := 0) hn_m rfl) (ov_at (i := 0) rfl) rfl rfl rfl rfl rfl dX9_order_103 ?_
        refine x_tb_eq C 113 114 dX9_order_106 rfl dX9_order_109 dX9_order_110 rfl dX9_order_113 rfl ?_
        refine x_istore_n (L' := [(2, .int (bI (nB tx ny (mTkP tx ny (nP tx ny (p + 1) 0) 44) 0))), (0, .ref m), (1, .int 102)]) C dX9_order_114 rfl rfl ?_
        refine x_iload_n C dX9_order_115 2 rfl ?_
        refine x_bipush C 116 dX9_order_116 rfl ?_
        refine x_icmp_ne C 149 dX9_order_118 rfl (fun _ => ?_) (fun c => absurd c (by decide))
        refine x_iload_n C dX9_order_149 0 rfl ?_
        refine x_ifb_eq C 166 dX9_order_150 rfl (fun c150 => ?_) (fun c150 => ?_)
        · refine x_iconst C 0 dX9_order_166 rfl ?_
          exact x_iret C Z rfl rfl (by first | (simp only [mOrd_102, stN, stK, c88, c97, c150, eq_self, Bool.false_eq_true, if_true, if_false]; done) | (simp [mOrd_102, stN, stK, c88, c97, c150]; done) | (simp [mOrd_102, stN, stK, bI, c88, c97, c150]; done)) (by first | (simp only [mOrd_102, stN, stK, c88, c97, c150, eq_self, Bool.false_eq_true, if_true, if_false]; done) | (simp [mOrd_102, stN, stK, c88, c97, c150]; done) | (simp [mOrd_102, stN, stK, bI, c88, c97, c150]; done)) dX9_order_167
        · refine x_aload_n C dX9_order_153 1 rfl ?_
          refine x_bipush C 59 dX9_order_154 rfl ?_
          refine x_cV1 C (c_X9_takes E N m _ s su st tx ny re ca (nP tx ny (mTkP tx ny (nP tx ny (p + 1) 0) 44) 0) (upd (upd to 0 (nV tx ny (p + 1) 0)) 1 (nV tx ny (mTkP tx ny (nP tx ny (p + 1) 0) 44) 0)) 59 (by first | assumption | omega | decide) (Nat.le_trans (pl_n (pl_k (pl_n (Nat.le_refl (p + 1))))) (by omega)) hb_m hn_m) v_X9_125 hN (xlo (i := 0) hb_m) (xhi (i := 0) hn_m rfl) (ov_at (i := 0) rfl) rfl rfl rfl rfl rfl dX9_order_156 ?_
          refine x_tb_eq C 166 167 dX9_order_159 rfl dX9_order_162 dX9_order_163 rfl dX9_order_166 rfl ?_
          exact x_iret C Z rfl (bI_n _) (by first | (simp only [mOrd_102, stN, stK, c88, c97, c150, eq_self, Bool.false_eq_true, if_true, if_false]; done) | (simp [mOrd_102, stN, stK, c88, c97, c150]; done) | (simp [mOrd_102, stN, stK, bI, c88, c97, c150]; done)) (by first | (simp only [mOrd_102, stN, stK, c88, c97, c150, eq_self, Bool.false_eq_true, if_true, if_false]; done) | (simp [mOrd_102, stN, stK, c88, c97, c150]; done) | (simp [mOrd_102, stN, stK, bI, c88, c97, c150]; done)) dX9_order_167
  rcases Decidable.em (L = 107) with s9_107 | s9_107
  · subst s9_107
    refine x_iload_n C dX9_order_0 1 rfl ?_
    refine x_bipush C 115 dX9_order_1 rfl ?_
    refine x_icmp_eq C 36 dX9_order_3 rfl (fun c => absurd c (by decide)) (fun _ => ?_)
    refine x_iload_n C dX9_order_6 1 rfl ?_
    refine x_bipush C 122 dX9_order_7 rfl ?_
    refine x_icmp_eq C 36 dX9_order_9 rfl (fun c => absurd c (by decide)) (fun _ => ?_)
    refine x_iload_n C dX9_order_12 1 rfl ?_
    refine x_bipush C 116 dX9_order_13 rfl ?_
    refine x_icmp_eq C 36 dX9_order_15 rfl (fun c => absurd c (by decide)) (fun _ => ?_)
    refine x_iload_n C dX9_order_18 1 rfl ?_
    refine x_bipush C 102 dX9_order_19 rfl ?_
    refine x_icmp_eq C 36 dX9_order_21 rfl (fun c => absurd c (by decide)) (fun _ => ?_)
    refine x_iload_n C dX9_order_24 1 rfl ?_
    refine x_bipush C 107 dX9_order_25 rfl ?_
    refine x_icmp_eq C 36 dX9_order_27 rfl (fun _ => ?_) (fun c => absurd c (by decide))
    refine x_iconst C 1 dX9_order_36 rfl ?_
    refine x_goto C 41 dX9_order_37 rfl ?_
    refine x_istore_n (L' := [(2, .int 1), (0, .ref m), (1, .int 107)]) C dX9_order_41 rfl rfl ?_
    refine x_iload_n C dX9_order_42 0 rfl ?_
    refine x_if_ne C 48 dX9_order_43 rfl (fun _ => ?_) (fun c => absurd c (by decide))
    refine x_aload_n C dX9_order_48 1 rfl ?_
    refine x_dup C dX9_order_49 rfl ?_
    refine x_get C (xlo (i := 0) hb_m) (xhi (i := 0) hn_m rfl) (ov_at (i := 0) rfl) f_X9_114 rfl dX9_order_50 ?_
    refine x_iconst C 1 dX9_order_53 rfl ?_
    refine x_iadd C dX9_order_54 ?_
    refine x_v (w := .int (nI (p + 1))) (congrArg Value.int (natAdd (a := p) (b := 1) (by omega))) ?_
    refine x_put (G' := ov m (mC E m s su st tx (nI ny) re ca (nI (p + 1)) to) G) C (xlo (i := 0) hb_m) (xhi (i := 0) hn_m rfl) (ov_at (i := 0) rfl) f_X9_114 xt_X9 rfl rfl rfl rfl (ov_set (i := 0) rfl rfl) dX9_order_55 ?_
    refine x_aload_n C dX9_order_58 1 rfl ?_
    refine x_iconst C 0 dX9_order_59 rfl ?_
    refine x_iload_n C dX9_order_60 2 rfl ?_
    refine x_bipush C 115 dX9_order_61 rfl ?_
    refine x_icmp_ne C 70 dX9_order_63 rfl (fun _ => ?_) (fun c => absurd c (by decide))
    refine x_iconst C 0 dX9_order_70 rfl ?_
    refine x_cV1 C (c_X9_number E N m _ s su st tx ny re ca (p + 1) to 0 0 (by first | assumption | omega | decide) (Nat.le_trans (Nat.le_refl (p + 1)) (by omega)) (by first | assumption | omega | decide) hb_m hn_m) v_X9_121 hN (xlo (i := 0) hb_m) (xhi (i := 0) hn_m rfl) (ov_at (i := 0) rfl) rfl rfl rfl rfl rfl dX9_order_71 ?_
    refine x_istore_n (L' := [(2, .int (bI (nB tx ny (p + 1) 0))), (0, .ref m), (1, .int 107)]) C dX9_order_74 rfl rfl ?_
    refine x_iload_n C dX9_order_75 2 rfl ?_
    refine x_bipush C 116 dX9_order_76 rfl ?_
    refine x_icmp_eq C 87 dX9_order_78 rfl (fun c => absurd c (by decide)) (fun _ => ?_)
    refine x_iload_n C dX9_order_81 2 rfl ?_
    refine x_bipush C 102 dX9_order_82 rfl ?_
    refine x_icmp_ne C 115 dX9_order_84 rfl (fun _ => ?_) (fun c => absurd c (by decide))
    refine x_iload_n C dX9_order_115 2 rfl ?_
    refine x_bipush C 116 dX9_order_116 rfl ?_
    refine x_icmp_ne C 149 dX9_order_118 rfl (fun _ => ?_) (fun c => absurd c (by decide))
    refine x_iload_n C dX9_order_149 0 rfl ?_
    refine x_ifb_eq C 166 dX9_order_150 rfl (fun c150 => ?_) (fun c150 => ?_)
    · refine x_iconst C 0 dX9_order_166 rfl ?_
      exact x_iret C Z rfl rfl (by first | (simp only [mOrd_107, stN, stK, c150, eq_self, Bool.false_eq_true, if_true, if_false]; done) | (simp [mOrd_107, stN, stK, c150]; done) | (simp [mOrd_107, stN, stK, bI, c150]; done)) (by first | (simp only [mOrd_107, stN, stK, c150, eq_self, Bool.false_eq_true, if_true, if_false]; done) | (simp [mOrd_107, stN, stK, c150]; done) | (simp [mOrd_107, stN, stK, bI, c150]; done)) dX9_order_167
    · refine x_aload_n C dX9_order_153 1 rfl ?_
      refine x_bipush C 59 dX9_order_154 rfl ?_
      refine x_cV1 C (c_X9_takes E N m _ s su st tx ny re ca (nP tx ny (p + 1) 0) (upd to 0 (nV tx ny (p + 1) 0)) 59 (by first | assumption | omega | decide) (Nat.le_trans (pl_n (Nat.le_refl (p + 1))) (by omega)) hb_m hn_m) v_X9_125 hN (xlo (i := 0) hb_m) (xhi (i := 0) hn_m rfl) (ov_at (i := 0) rfl) rfl rfl rfl rfl rfl dX9_order_156 ?_
      refine x_tb_eq C 166 167 dX9_order_159 rfl dX9_order_162 dX9_order_163 rfl dX9_order_166 rfl ?_
      exact x_iret C Z rfl (bI_n _) (by first | (simp only [mOrd_107, stN, stK, c150, eq_self, Bool.false_eq_true, if_true, if_false]; done) | (simp [mOrd_107, stN, stK, c150]; done) | (simp [mOrd_107, stN, stK, bI, c150]; done)) (by first | (simp only [mOrd_107, stN, stK, c150, eq_self, Bool.false_eq_true, if_true, if_false]; done) | (simp [mOrd_107, stN, stK, c150]; done) | (simp [mOrd_107, stN, stK, bI, c150]; done)) dX9_order_167
  rcases Decidable.em (L = 103) with s9_103 | s9_103
  · subst s9_103
    refine x_iload_n C dX9_order_0 1 rfl ?_
    refine x_bipush C 115 dX9_order_1 rfl ?_
    refine x_icmp_eq C 36 dX9_order_3 rfl (fun c => absurd c (by decide)) (fun _ => ?_)
    refine x_iload_n C dX9_order_6 1 rfl ?_
    refine x_bipush C 122 dX9_order_7 rfl ?_
    refine x_icmp_eq C 36 dX9_order_9 rfl (fun c => absurd c (by decide)) (fun _ => ?_)
    refine x_iload_n C dX9_order_12 1 rfl ?_
    refine x_bipush C 116 dX9_order_13 rfl ?_
    refine x_icmp_eq C 36 dX9_order_15 rfl (fun c => absurd c (by decide)) (fun _ => ?_)
    refine x_iload_n C dX9_order_18 1 rfl ?_
    refine x_bipush C 102 dX9_order_19 rfl ?_
    refine x_icmp_eq C 36 dX9_order_21 rfl (fun c => absurd c (by decide)) (fun _ => ?_)
    refine x_iload_n C dX9_order_24 1 rfl ?_
    refine x_bipush C 107 dX9_order_25 rfl ?_
    refine x_icmp_eq C 36 dX9_order_27 rfl (fun c => absurd c (by decide)) (fun _ => ?_)
    refine x_iload_n C dX9_order_30 1 rfl ?_
    refine x_bipush C 103 dX9_order_31 rfl ?_
    refine x_icmp_ne C 40 dX9_order_33 rfl (fun c => absurd c (by decide)) (fun _ => ?_)
    refine x_iconst C 1 dX9_order_36 rfl ?_
    refine x_goto C 41 dX9_order_37 rfl ?_
    refine x_istore_n (L' := [(2, .int 1), (0, .ref m), (1, .int 103)]) C dX9_order_41 rfl rfl ?_
    refine x_iload_n C dX9_order_42 0 rfl ?_
    refine x_if_ne C 48 dX9_order_43 rfl (fun _ => ?_) (fun c => absurd c (by decide))
    refine x_aload_n C dX9_order_48 1 rfl ?_
    refine x_dup C dX9_order_49 rfl ?_
    refine x_get C (xlo (i := 0) hb_m) (xhi (i := 0) hn_m rfl) (ov_at (i := 0) rfl) f_X9_114 rfl dX9_order_50 ?_
    refine x_iconst C 1 dX9_order_53 rfl ?_
    refine x_iadd C dX9_order_54 ?_
    refine x_v (w := .int (nI (p + 1))) (congrArg Value.int (natAdd (a := p) (b := 1) (by omega))) ?_
    refine x_put (G' := ov m (mC E m s su st tx (nI ny) re ca (nI (p + 1)) to) G) C (xlo (i := 0) hb_m) (xhi (i := 0) hn_m rfl) (ov_at (i := 0) rfl) f_X9_114 xt_X9 rfl rfl rfl rfl (ov_set (i := 0) rfl rfl) dX9_order_55 ?_
    refine x_aload_n C dX9_order_58 1 rfl ?_
    refine x_iconst C 0 dX9_order_59 rfl ?_
    refine x_iload_n C dX9_order_60 2 rfl ?_
    refine x_bipush C 115 dX9_order_61 rfl ?_
    refine x_icmp_ne C 70 dX9_order_63 rfl (fun _ => ?_) (fun c => absurd c (by decide))
    refine x_iconst C 0 dX9_order_70 rfl ?_
    refine x_cV1 C (c_X9_number E N m _ s su st tx ny re ca (p + 1) to 0 0 (by first | assumption | omega | decide) (Nat.le_trans (Nat.le_refl (p + 1)) (by omega)) (by first | assumption | omega | decide) hb_m hn_m) v_X9_121 hN (xlo (i := 0) hb_m) (xhi (i := 0) hn_m rfl) (ov_at (i := 0) rfl) rfl rfl rfl rfl rfl dX9_order_71 ?_
    refine x_istore_n (L' := [(2, .int (bI (nB tx ny (p + 1) 0))), (0, .ref m), (1, .int 103)]) C dX9_order_74 rfl rfl ?_
    refine x_iload_n C dX9_order_75 2 rfl ?_
    refine x_bipush C 116 dX9_order_76 rfl ?_
    refine x_icmp_eq C 87 dX9_order_78 rfl (fun c => absurd c (by decide)) (fun _ => ?_)
    refine x_iload_n C dX9_order_81 2 rfl ?_
    refine x_bipush C 102 dX9_order_82 rfl ?_
    refine x_icmp_ne C 115 dX9_order_84 rfl (fun _ => ?_) (fun c => absurd c (by decide))
    refine x_iload_n C dX9_order_115 2 rfl ?_
    refine x_bipush C 116 dX9_order_116 rfl ?_
    refine x_icmp_ne C 149 dX9_order_118 rfl (fun _ => ?_) (fun c => absurd c (by decide))
    refine x_iload_n C dX9_order_149 0 rfl ?_
    refine x_ifb_eq C 166 dX9_order_150 rfl (fun c150 => ?_) (fun c150 => ?_)
    · refine x_iconst C 0 dX9_order_166 rfl ?_
      exact x_iret C Z rfl rfl (by first | (simp only [mOrd_103, stN, stK, c150, eq_self, Bool.false_eq_true, if_true, if_false]; done) | (simp [mOrd_103, stN, stK, c150]; done) | (simp [mOrd_103, stN, stK, bI, c150]; done)) (by first | (simp only [mOrd_103, stN, stK, c150, eq_self, Bool.false_eq_true, if_true, if_false]; done) | (simp [mOrd_103, stN, stK, c150]; done) | (simp [mOrd_103, stN, stK, bI, c150]; done)) dX9_order_167
    · refine x_aload_n C dX9_order_153 1 rfl ?_
      refine x_bipush C 59 dX9_order_154 rfl ?_
      refine x_cV1 C (c_X9_takes E N m _ s su st tx ny re ca (nP tx ny (p + 1) 0) (upd to 0 (nV tx ny (p + 1) 0)) 59 (by first | assumption | omega | decide) (Nat.le_trans (pl_n (Nat.le_refl (p + 1))) (by omega)) hb_m hn_m) v_X9_125 hN (xlo (i := 0) hb_m) (xhi (i := 0) hn_m rfl) (ov_at (i := 0) rfl) rfl rfl rfl rfl rfl dX9_order_156 ?_
      refine x_tb_eq C 166 167 dX9_order_159 rfl dX9_order_162 dX9_order_163 rfl dX9_order_166 rfl ?_
      exact x_iret C Z rfl (bI_n _) (by first | (simp only [mOrd_103, stN, stK, c150, eq_self, Bool.false_eq_true, if_true, if_false]; done) | (simp [mOrd_103, stN, stK, c150]; done) | (simp [mOrd_103, stN, stK, bI, c150]; done)) (by first | (simp only [mOrd_103, stN, stK, c150, eq_self, Bool.false_eq_true, if_true, if_false]; done) | (simp [mOrd_103, stN, stK, c150]; done) | (simp [mOrd_103, stN, stK, bI, c150]; done)) dX9_order_167
  refine x_iload_n C dX9_order_0 1 rfl ?_
  refine x_bipush C 115 dX9_order_1 rfl ?_
  refine x_icmp_eq C 36 dX9_order_3 rfl (fun c => absurd c s9_115) (fun _ => ?_)
  refine x_iload_n C dX9_order_6 1 rfl ?_
  refine x_bipush C 122 dX9_order_7 rfl ?_
  refine x_icmp_eq C 36 dX9_order_9 rfl (fun c => absurd c s9_122) (fun _ => ?_)
  refine x_iload_n C dX9_order_12 1 rfl ?_
  refine x_bipush C 116 dX9_order_13 rfl ?_
  refine x_icmp_eq C 36 dX9_order_15 rfl (fun c => absurd c s9_116) (fun _ => ?_)
  refine x_iload_n C dX9_order_18 1 rfl ?_
  refine x_bipush C 102 dX9_order_19 rfl ?_
  refine x_icmp_eq C 36 dX9_order_21 rfl (fun c => absurd c s9_102) (fun _ => ?_)
  refine x_iload_n C dX9_order_24 1 rfl ?_
  refine x_bipush C 107 dX9_order_25 rfl ?_
  refine x_icmp_eq C 36 dX9_order_27 rfl (fun c => absurd c s9_107) (fun _ => ?_)
  refine x_iload_n C dX9_order_30 1 rfl ?_
  refine x_bipush C 103 dX9_order_31 rfl ?_
  refine x_icmp_ne C 40 dX9_order_33 rfl (fun _ => ?_) (fun c => absurd c s9_103)
  refine x_iconst C 0 dX9_order_40 rfl ?_
  refine x_istore_n (L' := [(2, .int 0), (0, .ref m), (1, .int L)]) C dX9_order_41 rfl rfl ?_
  refine x_iload_n C dX9_order_42 0 rfl ?_
  refine x_if_ne C 48 dX9_order_43 rfl (fun c => absurd c (by decide)) (fun _ => ?_)
  refine x_iconst C 0 dX9_order_46 rfl ?_
  exact x_iret C Z rfl rfl (by first | (simp only [mOrd, stN, stK, if_neg s9_115, if_neg s9_122, if_neg s9_116, if_neg s9_102, if_neg s9_107, if_neg s9_103, eq_self, Bool.false_eq_true, if_true, if_false]; done) | (simp [mOrd, stN, stK, s9_115, s9_122, s9_116, s9_102, s9_107, s9_103]; done) | (simp [mOrd, stN, stK, bI, s9_115, s9_122, s9_116, s9_102, s9_107, s9_103]; done)) (by first | (simp only [mOrd, stN, stK, if_neg s9_115, if_neg s9_122, if_neg s9_116, if_neg s9_102, if_neg s9_107, if_neg s9_103, eq_self, Bool.false_eq_true, if_true, if_false]; done) | (simp [mOrd, stN, stK, s9_115, s9_122, s9_116, s9_102, s9_107, s9_103]; done) | (simp [mOrd, stN, stK, bI, s9_115, s9_122, s9_116, s9_102, s9_107, s9_103]; done)) dX9_order_47

set_option maxRecDepth 100000 in
set_option maxHeartbeats 4000000 in
theorem c_X9_does (E : XE) (N m : Nat) (G : GW) (s : Nat → Int32) (su : Nat → Int64) (st : Int32) (tx : Nat → Int32) (ny : Nat) (re ca : Int32) (p : Nat) (to : Nat → Int32) (L : Int32) (tk : Nat) (hg : gOk (sl s 0) tk) (hb_m : xB E ≤ m) (hn_m : m + 5 ≤ N) : MF E yX9_does cX9_does 2 (some .int) 6 140 0 0 [.ref m, .int L] N (ov m (mC E m s su st tx (nI ny) re ca (nI p) to) G) (some (.int (mDoR L s su tk to))) (ov m (mC E m (mDoS L s su tk to) (mDoU L s su to) st tx (nI ny) re ca (nI p) to) G) := by
  refine MF.mk RX9 rfl (by decide +kernel) rfl (fun K C Z hin hN => ?_)
  show XW E K 2 N 0 0 _ 0 [(0, .ref m), (1, .int L)] []
  refine x_iload_n C dX9_does_0 1 rfl ?_
  rcases Decidable.em (L = 102) with s1_102 | s1_102
  · refine x_v (w := .int 102) (by rw [s1_102]) ?_
    refine x_lookup C 97 dX9_does_1 rfl rfl rfl ?_
    refine x_aload_n C dX9_does_97 0 rfl ?_
    refine x_aload_n C dX9_does_98 0 rfl ?_
    refine x_get C (xlo (i := 0) hb_m) (xhi (i := 0) hn_m rfl) (ov_at (i := 0) rfl) f_X9_21 rfl dX9_does_99 ?_
    refine x_iconst C 0 dX9_does_102 rfl ?_
    refine x_iald C (to 0) (xlo (i := 4) hb_m) (xhi (i := 4) hn_m rfl) (ov_at (i := 4) rfl) (vp_in_d rfl) rfl dX9_does_103 ?_
    refine x_aload_n C dX9_does_104 0 rfl ?_
    refine x_get C (xlo (i := 0) hb_m) (xhi (i := 0) hn_m rfl) (ov_at (i := 0) rfl) f_X9_21 rfl dX9_does_105 ?_
    refine x_iconst C 1 dX9_does_108 rfl ?_
    refine x_iald C (to 1) (xlo (i := 4) hb_m) (xhi (i := 4) hn_m rfl) (ov_at (i := 4) rfl) (vp_in_d rfl) rfl dX9_does_109 ?_
    refine x_cV1 C (c_X9_doFeedback E N m _ s su st tx (nI ny) re ca (nI p) to (to 0) (to 1) hb_m hn_m) v_X9_79 hN (xlo (i := 0) hb_m) (xhi (i := 0) hn_m rfl) (ov_at (i := 0) rfl) rfl rfl rfl rfl rfl dX9_does_110 ?_
    exact x_iret C Z rfl rfl (by first | (simp only [mDoR, mDoS, mDoU, if_pos s1_102, eq_self, Bool.false_eq_true, if_true, if_false]; done) | ((simp only [mDoR, mDoS, mDoU, if_pos s1_102, eq_self, Bool.false_eq_true, if_true, if_false]); rfl) | (simp [mDoR, mDoS, mDoU, s1_102]; done) | (simp [mDoR, mDoS, mDoU, s1_102]; rfl)) (by first | (simp only [mDoR, mDoS, mDoU, if_pos s1_102, eq_self, Bool.false_eq_true, if_true, if_false]; done) | ((simp only [mDoR, mDoS, mDoU, if_pos s1_102, eq_self, Bool.false_eq_true, if_true, if_false]); rfl) | (simp [mDoR, mDoS, mDoU, s1_102]; done) | (simp [mDoR, mDoS, mDoU, s1_102]; rfl)) dX9_does_113
  rcases Decidable.em (L = 107) with s1_107 | s1_107
  · refine x_v (w := .int 107) (by rw [s1_107]) ?_
    refine x_lookup C 114 dX9_does_1 rfl rfl rfl ?_
    refine x_aload_n C dX9_does_114 0 rfl ?_
    refine x_aload_n C dX9_does_115 0 rfl ?_
    refine x_get C (xlo (i := 0) hb_m) (xhi (i := 0) hn_m rfl) (ov_at (i := 0) rfl) f_X9_21 rfl dX9_does_116 ?_
    refine x_iconst C 0 dX9_does_119 rfl ?_
    refine x_iald C (to 0) (xlo (i := 4) hb_m) (xhi (i := 4) hn_m rfl) (ov_at (i := 4) rfl) (vp_in_d rfl) rfl dX9_does_120 ?_
    refine x_cV1 C (c_X9_doSteal E N m _ s su st tx (nI ny) re ca (nI p) to (to 0) tk (gOk_0 hg) hg.2.1 hb_m hn_m) v_X9_82 hN (xlo (i := 0) hb_m) (xhi (i := 0) hn_m rfl) (ov_at (i := 0) rfl) rfl rfl rfl rfl rfl dX9_does_121 ?_
    exact x_iret C Z rfl rfl (by first | (simp only [mDoR, mDoS, mDoU, if_neg s1_102, if_pos s1_107, eq_self, Bool.false_eq_true, if_true, if_false]; done) | ((simp only [mDoR, mDoS, mDoU, if_neg s1_102, if_pos s1_107, eq_self, Bool.false_eq_true, if_true, if_false]); rfl) | (simp [mDoR, mDoS, mDoU, s1_102, s1_107]; done) | (simp [mDoR, mDoS, mDoU, s1_102, s1_107]; rfl)) (by first | (simp only [mDoR, mDoS, mDoU, if_neg s1_102, if_pos s1_107, eq_self, Bool.false_eq_true, if_true, if_false]; done) | ((simp only [mDoR, mDoS, mDoU, if_neg s1_102, if_pos s1_107, eq_self, Bool.false_eq_true, if_true, if_false]); rfl) | (simp [mDoR, mDoS, mDoU, s1_102, s1_107]; done) | (simp [mDoR, mDoS, mDoU, s1_102, s1_107]; rfl)) dX9_does_124
  rcases Decidable.em (L = 115) with s1_115 | s1_115
  · refine x_v (w := .int 115) (by rw [s1_115]) ?_
    refine x_lookup C 52 dX9_does_1 rfl rfl rfl ?_
    refine x_aload_n C dX9_does_52 0 rfl ?_
    refine x_aload_n C dX9_does_53 0 rfl ?_
    refine x_get C (xlo (i := 0) hb_m) (xhi (i := 0) hn_m rfl) (ov_at (i := 0) rfl) f_X9_21 rfl dX9_does_54 ?_
    refine x_iconst C 0 dX9_does_57 rfl ?_
    refine x_iald C (to 0) (xlo (i := 4) hb_m) (xhi (i := 4) hn_m rfl) (ov_at (i := 4) rfl) (vp_in_d rfl) rfl dX9_does_58 ?_
    refine x_cV1 C (c_X9_doSample E N m _ s su st tx (nI ny) re ca (nI p) to (to 0) tk hg hb_m hn_m) v_X9_66 hN (xlo (i := 0) hb_m) (xhi (i := 0) hn_m rfl) (ov_at (i := 0) rfl) rfl rfl rfl rfl rfl dX9_does_59 ?_
    exact x_iret C Z rfl rfl (by first | (simp only [mDoR, mDoS, mDoU, if_neg s1_102, if_neg s1_107, if_pos s1_115, eq_self, Bool.false_eq_true, if_true, if_false]; done) | ((simp only [mDoR, mDoS, mDoU, if_neg s1_102, if_neg s1_107, if_pos s1_115, eq_self, Bool.false_eq_true, if_true, if_false]); rfl) | (simp [mDoR, mDoS, mDoU, s1_102, s1_107, s1_115]; done) | (simp [mDoR, mDoS, mDoU, s1_102, s1_107, s1_115]; rfl)) (by first | (simp only [mDoR, mDoS, mDoU, if_neg s1_102, if_neg s1_107, if_pos s1_115, eq_self, Bool.false_eq_true, if_true, if_false]; done) | ((simp only [mDoR, mDoS, mDoU, if_neg s1_102, if_neg s1_107, if_pos s1_115, eq_self, Bool.false_eq_true, if_true, if_false]); rfl) | (simp [mDoR, mDoS, mDoU, s1_102, s1_107, s1_115]; done) | (simp [mDoR, mDoS, mDoU, s1_102, s1_107, s1_115]; rfl)) dX9_does_62
  rcases Decidable.em (L = 116) with s1_116 | s1_116
  · refine x_v (w := .int 116) (by rw [s1_116]) ?_
    refine x_lookup C 74 dX9_does_1 rfl rfl rfl ?_
    refine x_aload_n C dX9_does_74 0 rfl ?_
    refine x_aload_n C dX9_does_75 0 rfl ?_
    refine x_get C (xlo (i := 0) hb_m) (xhi (i := 0) hn_m rfl) (ov_at (i := 0) rfl) f_X9_21 rfl dX9_does_76 ?_
    refine x_iconst C 0 dX9_does_79 rfl ?_
    refine x_iald C (to 0) (xlo (i := 4) hb_m) (xhi (i := 4) hn_m rfl) (ov_at (i := 4) rfl) (vp_in_d rfl) rfl dX9_does_80 ?_
    refine x_aload_n C dX9_does_81 0 rfl ?_
    refine x_get C (xlo (i := 0) hb_m) (xhi (i := 0) hn_m rfl) (ov_at (i := 0) rfl) f_X9_21 rfl dX9_does_82 ?_
    refine x_iconst C 1 dX9_does_85 rfl ?_
    refine x_iald C (to 1) (xlo (i := 4) hb_m) (xhi (i := 4) hn_m rfl) (ov_at (i := 4) rfl) (vp_in_d rfl) rfl dX9_does_86 ?_
    refine x_aload_n C dX9_does_87 0 rfl ?_
    refine x_get C (xlo (i := 0) hb_m) (xhi (i := 0) hn_m rfl) (ov_at (i := 0) rfl) f_X9_21 rfl dX9_does_88 ?_
    refine x_iconst C 2 dX9_does_91 rfl ?_
    refine x_iald C (to 2) (xlo (i := 4) hb_m) (xhi (i := 4) hn_m rfl) (ov_at (i := 4) rfl) (vp_in_d rfl) rfl dX9_does_92 ?_
    refine x_cV1 C (c_X9_doTap E N m _ s su st tx (nI ny) re ca (nI p) to (to 0) (to 1) (to 2) hb_m hn_m) v_X9_75 hN (xlo (i := 0) hb_m) (xhi (i := 0) hn_m rfl) (ov_at (i := 0) rfl) rfl rfl rfl rfl rfl dX9_does_93 ?_
    exact x_iret C Z rfl rfl (by first | (simp only [mDoR, mDoS, mDoU, if_neg s1_102, if_neg s1_107, if_neg s1_115, if_pos s1_116, eq_self, Bool.false_eq_true, if_true, if_false]; done) | ((simp only [mDoR, mDoS, mDoU, if_neg s1_102, if_neg s1_107, if_neg s1_115, if_pos s1_116, eq_self, Bool.false_eq_true, if_true, if_false]); rfl) | (simp [mDoR, mDoS, mDoU, s1_102, s1_107, s1_115, s1_116]; done) | (simp [mDoR, mDoS, mDoU, s1_102, s1_107, s1_115, s1_116]; rfl)) (by first | (simp only [mDoR, mDoS, mDoU, if_neg s1_102, if_neg s1_107, if_neg s1_115, if_pos s1_116, eq_self, Bool.false_eq_true, if_true, if_false]; done) | ((simp only [mDoR, mDoS, mDoU, if_neg s1_102, if_neg s1_107, if_neg s1_115, if_pos s1_116, eq_self, Bool.false_eq_true, if_true, if_false]); rfl) | (simp [mDoR, mDoS, mDoU, s1_102, s1_107, s1_115, s1_116]; done) | (simp [mDoR, mDoS, mDoU, s1_102, s1_107, s1_115, s1_116]; rfl)) dX9_does_96
  rcases Decidable.em (L = 122) with s1_122 | s1_122
  · refine x_v (w := .int 122) (by rw [s1_122]) ?_
    refine x_lookup C 63 dX9_does_1 rfl rfl rfl ?_
    refine x_aload_n C dX9_does_63 0 rfl ?_
    refine x_aload_n C dX9_does_64 0 rfl ?_
    refine x_get C (xlo (i := 0) hb_m) (xhi (i := 0) hn_m rfl) (ov_at (i := 0) rfl) f_X9_21 rfl dX9_does_65 ?_
    refine x_iconst C 0 dX9_does_68 rfl ?_
    refine x_iald C (to 0) (xlo (i := 4) hb_m) (xhi (i := 4) hn_m rfl) (ov_at (i := 4) rfl) (vp_in_d rfl) rfl dX9_does_69 ?_
    refine x_cV1 C (c_X9_doSilence E N m _ s su st tx (nI ny) re ca (nI p) to (to 0) tk hg hb_m hn_m) v_X9_72 hN (xlo (i := 0) hb_m) (xhi (i := 0) hn_m rfl) (ov_at (i := 0) rfl) rfl rfl rfl rfl rfl dX9_does_70 ?_
    exact x_iret C Z rfl rfl (by first | (simp only [mDoR, mDoS, mDoU, if_neg s1_102, if_neg s1_107, if_neg s1_115, if_neg s1_116, if_pos s1_122, eq_self, Bool.false_eq_true, if_true, if_false]; done) | ((simp only [mDoR, mDoS, mDoU, if_neg s1_102, if_neg s1_107, if_neg s1_115, if_neg s1_116, if_pos s1_122, eq_self, Bool.false_eq_true, if_true, if_false]); rfl) | (simp [mDoR, mDoS, mDoU, s1_102, s1_107, s1_115, s1_116, s1_122]; done) | (simp [mDoR, mDoS, mDoU, s1_102, s1_107, s1_115, s1_116, s1_122]; rfl)) (by first | (simp only [mDoR, mDoS, mDoU, if_neg s1_102, if_neg s1_107, if_neg s1_115, if_neg s1_116, if_pos s1_122, eq_self, Bool.false_eq_true, if_true, if_false]; done) | ((simp only [mDoR, mDoS, mDoU, if_neg s1_102, if_neg s1_107, if_neg s1_115, if_neg s1_116, if_pos s1_122, eq_self, Bool.false_eq_true, if_true, if_false]); rfl) | (simp [mDoR, mDoS, mDoU, s1_102, s1_107, s1_115, s1_116, s1_122]; done) | (simp [mDoR, mDoS, mDoU, s1_102, s1_107, s1_115, s1_116, s1_122]; rfl)) dX9_does_73
  refine x_lookup C 125 dX9_does_1 rfl ((lv_osw s1_102 rfl).trans ((lv_osw s1_107 rfl).trans ((lv_osw s1_115 rfl).trans ((lv_osw s1_116 rfl).trans ((lv_osw s1_122 rfl).trans (rfl)))))) rfl ?_
  refine x_aload_n C dX9_does_125 0 rfl ?_
  refine x_aload_n C dX9_does_126 0 rfl ?_
  refine x_get C (xlo (i := 0) hb_m) (xhi (i := 0) hn_m rfl) (ov_at (i := 0) rfl) f_X9_21 rfl dX9_does_127 ?_
  refine x_iconst C 0 dX9_does_130 rfl ?_
  refine x_iald C (to 0) (xlo (i := 4) hb_m) (xhi (i := 4) hn_m rfl) (ov_at (i := 4) rfl) (vp_in_d rfl) rfl dX9_does_131 ?_
  refine x_cV1 C (c_X9_doGive E N m _ s su st tx (nI ny) re ca (nI p) to (to 0) tk (gOk_0 hg) hg.2.1 hb_m hn_m) v_X9_85 hN (xlo (i := 0) hb_m) (xhi (i := 0) hn_m rfl) (ov_at (i := 0) rfl) rfl rfl rfl rfl rfl dX9_does_132 ?_
  exact x_iret C Z rfl rfl (by first | (simp only [mDoR, mDoS, mDoU, if_neg s1_102, if_neg s1_107, if_neg s1_115, if_neg s1_116, if_neg s1_122, eq_self, Bool.false_eq_true, if_true, if_false]; done) | ((simp only [mDoR, mDoS, mDoU, if_neg s1_102, if_neg s1_107, if_neg s1_115, if_neg s1_116, if_neg s1_122, eq_self, Bool.false_eq_true, if_true, if_false]); rfl) | (simp [mDoR, mDoS, mDoU, s1_102, s1_107, s1_115, s1_116, s1_122]; done) | (simp [mDoR, mDoS, mDoU, s1_102, s1_107, s1_115, s1_116, s1_122]; rfl)) (by first | (simp only [mDoR, mDoS, mDoU, if_neg s1_102, if_neg s1_107, if_neg s1_115, if_neg s1_116, if_neg s1_122, eq_self, Bool.false_eq_true, if_true, if_false]; done) | ((simp only [mDoR, mDoS, mDoU, if_neg s1_102, if_neg s1_107, if_neg s1_115, if_neg s1_116, if_neg s1_122, eq_self, Bool.false_eq_true, if_true, if_false]); rfl) | (simp [mDoR, mDoS, mDoU, s1_102, s1_107, s1_115, s1_116, s1_122]; done) | (simp [mDoR, mDoS, mDoU, s1_102, s1_107, s1_115, s1_116, s1_122]; rfl)) dX9_does_135

set_option maxRecDepth 100000 in
set_option maxHeartbeats 4000000 in
theorem c_X9_goesOn (E : XE) (N m : Nat) (G : GW) (s : Nat → Int32) (su : Nat → Int64) (st : Int32) (tx : Nat → Int32) (ny : Nat) (re ca : Int32) (p : Nat) (to : Nat → Int32) (tk : Nat) (hny : ny ≤ 60) (hg : gOk (sl s 0) tk) (hb_m : xB E ≤ m) (hn_m : m + 5 ≤ N) : MF E yX9_goesOn cX9_goesOn 5 (some .int) 7 161 0 0 [.ref m] N (ov m (mC E m s su st tx (nI ny) re ca (nI p) to) G) (some (.int ((mgoA tx ny s su tk to re ca).1))) (ov m (mC E m ((mgoA tx ny s su tk to re ca).2.2.1) ((mgoA tx ny s su tk to re ca).2.2.2.1) st tx (nI ny) ((mgoA tx ny s su tk to re ca).2.2.2.2.2.1) ((mgoA tx ny s su tk to re ca).2.2.2.2.2.2) (nI ((mgoA tx ny s su tk to re ca).2.1)) ((mgoA tx ny s su tk to re ca).2.2.2.2.1)) G) := by
  refine MF.mk RX9 rfl (by decide +kernel) rfl (fun K C Z hin hN => ?_)
  show XW E K 5 N 0 0 _ 0 [(0, .ref m)] []
  refine x_aload_n C dX9_goesOn_0 0 rfl ?_
  refine x_iconst C 0 dX9_goesOn_1 rfl ?_
  refine x_put (G' := ov m (mC E m s su st tx (nI ny) re ca 0 to) G) C (xlo (i := 0) hb_m) (xhi (i := 0) hn_m rfl) (ov_at (i := 0) rfl) f_X9_114 xt_X9 rfl rfl rfl rfl (ov_set (i := 0) rfl rfl) dX9_goesOn_2 ?_
  refine x_iconst C 0 dX9_goesOn_5 rfl ?_
  refine x_istore_n (L' := [(1, .int 0), (0, .ref m)]) C dX9_goesOn_6 rfl rfl ?_
  refine x_perm (L' := [(0, .ref m), (1, .int 0)]) [1, 0] rfl ?_
  have lp7_1 : ∀ (d i : Nat) (p1 : Nat) (s1 : Nat → Int32) (u1 : Nat → Int64) (to1 : Nat → Int32) (tk1 : Nat), i + d = 60 → mgo tx ny d i p1 s1 u1 tk1 to1 re ca = mgoA tx ny s su tk to re ca ∧ gOk (sl s1 0) tk1 ∧ i ≤ p1 ∧ p1 ≤ 100 → XW E K 5 N 0 0 (ov m (mC E m s1 u1 st tx (nI ny) re ca (nI p1) to1) G) 7 [(0, .ref m), (1, .int (nI i))] [] := by
    intro d
    induction d with
    | zero =>
      intro i p1 s1 u1 to1 tk1 hd hq
      have hi : i = 60 := by omega
      refine x_aload_n C dX9_goesOn_7 0 rfl ?_
      refine x_get C (xlo (i := 0) hb_m) (xhi (i := 0) hn_m rfl) (ov_at (i := 0) rfl) f_X9_114 rfl dX9_goesOn_8 ?_
      refine x_aload_n C dX9_goesOn_11 0 rfl ?_
      refine x_get C (xlo (i := 0) hb_m) (xhi (i := 0) hn_m rfl) (ov_at (i := 0) rfl) f_X9_111 rfl dX9_goesOn_12 ?_
      refine x_icmp_ge C 92 dX9_goesOn_15 rfl (fun _ => ?_) (fun c => absurd c (not_not_intro (nI_le (by omega) (by omega))))
      refine x_iload_n C dX9_goesOn_92 1 rfl ?_
      have q9f : mgoA tx ny s su tk to re ca = (nI i, p1, s1, u1, to1, re, ca) := by rw [← hq.1]; first | (simp only [mgo, eq_self, Bool.false_eq_true, if_true, if_false]; done) | ((simp only [mgo, eq_self, Bool.false_eq_true, if_true, if_false]); rfl) | (simp [mgo]; done) | rfl
      exact x_iret C Z rfl rfl (by rw [q9f]) (by rw [q9f]) dX9_goesOn_93
    | succ d ih =>
      intro i p1 s1 u1 to1 tk1 hd hq
      have hi : i < 60 := by omega
      refine x_aload_n C dX9_goesOn_7 0 rfl ?_
      refine x_get C (xlo (i := 0) hb_m) (xhi (i := 0) hn_m rfl) (ov_at (i := 0) rfl) f_X9_114 rfl dX9_goesOn_8 ?_
      refine x_aload_n C dX9_goesOn_11 0 rfl ?_
      refine x_get C (xlo (i := 0) hb_m) (xhi (i := 0) hn_m rfl) (ov_at (i := 0) rfl) f_X9_111 rfl dX9_goesOn_12 ?_
      refine x_icmp_ge C 92 dX9_goesOn_15 rfl (fun c15 => ?_) (fun c15 => ?_)
      · refine x_iload_n C dX9_goesOn_92 1 rfl ?_
        have q9f : mgoA tx ny s su tk to re ca = (nI i, p1, s1, u1, to1, re, ca) := by rw [← hq.1]; first | (simp only [mgo, if_pos c15, eq_self, Bool.false_eq_true, if_true, if_false]; done) | ((simp only [mgo, if_pos c15, eq_self, Bool.false_eq_true, if_true, if_false]); rfl) | (simp [mgo, c15]; done) | rfl
        exact x_iret C Z rfl rfl (by rw [q9f]) (by rw [q9f]) dX9_goesOn_93
      · have q9p : p1 < ny := Nat.not_le.mp (fun h => c15 ((nI_leI (a := ny) (b := p1) (by omega) (by omega)).mpr h))
        refine x_aload_n C dX9_goesOn_18 0 rfl ?_
        refine x_get C (xlo (i := 0) hb_m) (xhi (i := 0) hn_m rfl) (ov_at (i := 0) rfl) f_X9_114 rfl dX9_goesOn_19 ?_
        refine x_istore_n (L' := [(2, .int (nI p1)), (0, .ref m), (1, .int (nI i))]) C dX9_goesOn_22 rfl rfl ?_
        refine x_aload_n C dX9_goesOn_23 1 rfl ?_
        refine x_cV1 C (c_X9_sign E N m _ s1 u1 st tx ny re ca p1 to1 (by first | assumption | omega | decide) (by first | assumption | omega | decide) hb_m hn_m) v_X9_117 hN (xlo (i := 0) hb_m) (xhi (i := 0) hn_m rfl) (ov_at (i := 0) rfl) rfl rfl rfl rfl rfl dX9_goesOn_24 ?_
        refine x_istore_n (L' := [(3, .int (mT tx ny p1)), (2, .int (nI p1)), (0, .ref m), (1, .int (nI i))]) C dX9_goesOn_27 rfl rfl ?_
        refine x_aload_n C dX9_goesOn_28 2 rfl ?_
        refine x_iload_n C dX9_goesOn_29 0 rfl ?_
        refine x_cV1 C (c_X9_order E N m _ s1 u1 st tx ny re ca p1 to1 (mT tx ny p1) (by first | assumption | omega | decide) (by first | assumption | omega | decide) hb_m hn_m) v_X9_129 hN (xlo (i := 0) hb_m) (xhi (i := 0) hn_m rfl) (ov_at (i := 0) rfl) rfl rfl rfl rfl rfl dX9_goesOn_30 ?_
        refine x_ifb_ne C 56 dX9_goesOn_33 rfl (fun c33 => ?_) (fun c33 => ?_)
        · have q9k := mOrd_ge tx ny (mT tx ny p1) p1 to1
          have q9k2 := q9k.2.1 c33
          refine x_aload_n C dX9_goesOn_56 2 rfl ?_
          refine x_iload_n C dX9_goesOn_57 0 rfl ?_
          refine x_cV1 C (c_X9_does E N m _ s1 u1 st tx ny re ca ((mOrd tx ny (mT tx ny p1) p1 to1).2.1) ((mOrd tx ny (mT tx ny p1) p1 to1).2.2) (mT tx ny p1) tk1 hq.2.1 hb_m hn_m) v_X9_138 hN (xlo (i := 0) hb_m) (xhi (i := 0) hn_m rfl) (ov_at (i := 0) rfl) rfl rfl rfl rfl rfl dX9_goesOn_58 ?_
          refine x_istore (L' := [(4, .int (mDoR (mT tx ny p1) s1 u1 tk1 ((mOrd tx ny (mT tx ny p1) p1 to1).2.2))), (3, .int (mT tx ny p1)), (2, .int (nI p1)), (0, .ref m), (1, .int (nI i))]) C dX9_goesOn_61 rfl rfl ?_
          refine x_iload C dX9_goesOn_63 0 rfl ?_
          refine x_ldc C (-1000001) m_584 dX9_goesOn_65 ?_
          refine x_icmp_gt C 86 dX9_goesOn_67 rfl (fun c67 => ?_) (fun c67 => ?_)
          · refine x_iinc (L' := [(1, .int ((nI i) + 1)), (4, .int (mDoR (mT tx ny p1) s1 u1 tk1 ((mOrd tx ny (mT tx ny p1) p1 to1).2.2))), (3, .int (mT tx ny p1)), (2, .int (nI p1)), (0, .ref m)]) C ((nI i) + 1) dX9_goesOn_86 4 rfl rfl rfl rfl ?_
            refine x_goto C 7 dX9_goesOn_89 rfl ?_
            refine x_perm (L' := [(0, .ref m), (1, .int ((nI i) + 1))]) [4, 0] rfl ?_
            refine x_to (L' := [(0, .ref m), (1, .int (nI (i + 1)))]) (G' := ov m (mC E m (mDoS (mT tx ny p1) s1 u1 tk1 ((mOrd tx ny (mT tx ny p1) p1 to1).2.2)) (mDoU (mT tx ny p1) s1 u1 ((mOrd tx ny (mT tx ny p1) p1 to1).2.2)) st tx (nI ny) re ca (nI ((mOrd tx ny (mT tx ny p1) p1 to1).2.1)) ((mOrd tx ny (mT tx ny p1) p1 to1).2.2)) G) (by simp only [nI_succ]) rfl rfl ?_
            exact ih (i + 1) ((mOrd tx ny (mT tx ny p1) p1 to1).2.1) (mDoS (mT tx ny p1) s1 u1 tk1 ((mOrd tx ny (mT tx ny p1) p1 to1).2.2)) (mDoU (mT tx ny p1) s1 u1 ((mOrd tx ny (mT tx ny p1) p1 to1).2.2)) ((mOrd tx ny (mT tx ny p1) p1 to1).2.2) _ (by omega) ⟨by rw [← hq.1]; simp only [mgo, if_neg c15, c33, if_pos c67, eq_self, Bool.false_eq_true, if_true, if_false]; first | done | rfl, gOk_does hq.2.1, by omega, by omega⟩
          · refine x_aload_n C dX9_goesOn_70 3 rfl ?_
            refine x_iconst C 2 dX9_goesOn_71 rfl ?_
            refine x_put (G' := ov m (mC E m (mDoS (mT tx ny p1) s1 u1 tk1 ((mOrd tx ny (mT tx ny p1) p1 to1).2.2)) (mDoU (mT tx ny p1) s1 u1 ((mOrd tx ny (mT tx ny p1) p1 to1).2.2)) st tx (nI ny) 2 ca (nI ((mOrd tx ny (mT tx ny p1) p1 to1).2.1)) ((mOrd tx ny (mT tx ny p1) p1 to1).2.2)) G) C (xlo (i := 0) hb_m) (xhi (i := 0) hn_m rfl) (ov_at (i := 0) rfl) f_X9_132 xt_X9 rfl rfl rfl rfl (ov_set (i := 0) rfl rfl) dX9_goesOn_72 ?_
            refine x_aload_n C dX9_goesOn_75 3 rfl ?_
            refine x_iload C dX9_goesOn_76 0 rfl ?_
            refine x_put (G' := ov m (mC E m (mDoS (mT tx ny p1) s1 u1 tk1 ((mOrd tx ny (mT tx ny p1) p1 to1).2.2)) (mDoU (mT tx ny p1) s1 u1 ((mOrd tx ny (mT tx ny p1) p1 to1).2.2)) st tx (nI ny) 2 (mDoR (mT tx ny p1) s1 u1 tk1 ((mOrd tx ny (mT tx ny p1) p1 to1).2.2)) (nI ((mOrd tx ny (mT tx ny p1) p1 to1).2.1)) ((mOrd tx ny (mT tx ny p1) p1 to1).2.2)) G) C (xlo (i := 0) hb_m) (xhi (i := 0) hn_m rfl) (ov_at (i := 0) rfl) f_X9_135 xt_X9 rfl rfl rfl rfl (ov_set (i := 0) rfl rfl) dX9_goesOn_78 ?_
            refine x_iload_n C dX9_goesOn_81 2 rfl ?_
            refine x_ineg C dX9_goesOn_82 ?_
            refine x_iconst C 1 dX9_goesOn_83 rfl ?_
            refine x_isub C dX9_goesOn_84 ?_
            have q9f : mgoA tx ny s su tk to re ca = (-(nI p1) - 1, (mOrd tx ny (mT tx ny p1) p1 to1).2.1, mDoS (mT tx ny p1) s1 u1 tk1 ((mOrd tx ny (mT tx ny p1) p1 to1).2.2), mDoU (mT tx ny p1) s1 u1 ((mOrd tx ny (mT tx ny p1) p1 to1).2.2), (mOrd tx ny (mT tx ny p1) p1 to1).2.2, 2, mDoR (mT tx ny p1) s1 u1 tk1 ((mOrd tx ny (mT tx ny p1) p1 to1).2.2)) := by rw [← hq.1]; first | (simp only [mgo, if_neg c15, c33, if_neg c67, eq_self, Bool.false_eq_true, if_true, if_false]; done) | ((simp only [mgo, if_neg c15, c33, if_neg c67, eq_self, Bool.false_eq_true, if_true, if_false]); rfl) | (simp [mgo, c15, c33, c67]; done) | rfl
            exact x_iret C Z rfl rfl (by rw [q9f]) (by rw [q9f]) dX9_goesOn_85
        · refine x_aload_n C dX9_goesOn_36 2 rfl ?_
          refine x_iconst C 1 dX9_goesOn_37 rfl ?_
          refine x_put (G' := ov m (mC E m s1 u1 st tx (nI ny) 1 ca (nI ((mOrd tx ny (mT tx ny p1) p1 to1).2.1)) ((mOrd tx ny (mT tx ny p1) p1 to1).2.2)) G) C (xlo (i := 0) hb_m) (xhi (i := 0) hn_m rfl) (ov_at (i := 0) rfl) f_X9_132 xt_X9 rfl rfl rfl rfl (ov_set (i := 0) rfl rfl) dX9_goesOn_38 ?_
          refine x_aload_n C dX9_goesOn_41 2 rfl ?_
          refine x_aload_n C dX9_goesOn_42 2 rfl ?_
          refine x_get C (xlo (i := 0) hb_m) (xhi (i := 0) hn_m rfl) (ov_at (i := 0) rfl) f_X9_114 rfl dX9_goesOn_43 ?_
          refine x_iload_n C dX9_goesOn_46 1 rfl ?_
          refine x_isub C dX9_goesOn_47 ?_
          refine x_put (G' := ov m (mC E m s1 u1 st tx (nI ny) 1 ((nI ((mOrd tx ny (mT tx ny p1) p1 to1).2.1)) - (nI p1)) (nI ((mOrd tx ny (mT tx ny p1) p1 to1).2.1)) ((mOrd tx ny (mT tx ny p1) p1 to1).2.2)) G) C (xlo (i := 0) hb_m) (xhi (i := 0) hn_m rfl) (ov_at (i := 0) rfl) f_X9_135 xt_X9 rfl rfl rfl rfl (ov_set (i := 0) rfl rfl) dX9_goesOn_48 ?_
          refine x_iload_n C dX9_goesOn_51 1 rfl ?_
          refine x_ineg C dX9_goesOn_52 ?_
          refine x_iconst C 1 dX9_goesOn_53 rfl ?_
          refine x_isub C dX9_goesOn_54 ?_
          have q9f : mgoA tx ny s su tk to re ca = (-(nI p1) - 1, (mOrd tx ny (mT tx ny p1) p1 to1).2.1, s1, u1, (mOrd tx ny (mT tx ny p1) p1 to1).2.2, 1, (nI ((mOrd tx ny (mT tx ny p1) p1 to1).2.1)) - (nI p1)) := by rw [← hq.1]; first | (simp only [mgo, if_neg c15, c33, eq_self, Bool.false_eq_true, if_true, if_false]; done) | ((simp only [mgo, if_neg c15, c33, eq_self, Bool.false_eq_true, if_true, if_false]); rfl) | (simp [mgo, c15, c33]; done) | rfl
          exact x_iret C Z rfl rfl (by rw [q9f]) (by rw [q9f]) dX9_goesOn_55
  refine x_to (L' := [(0, .ref m), (1, .int (nI 0))]) (G' := ov m (mC E m s su st tx (nI ny) re ca (nI 0) to) G) rfl rfl rfl ?_
  exact lp7_1 _ 0 0 s su to tk (Nat.add_sub_cancel' (by omega)) ⟨rfl, hg, by omega, by omega⟩

set_option maxRecDepth 100000 in
set_option maxHeartbeats 4000000 in
theorem c_X9_fault (E : XE) (N m : Nat) (G : GW) (s : Nat → Int32) (su : Nat → Int64) (st : Int32) (tx : Nat → Int32) (ny : Nat) (re ca : Int32) (p : Nat) (to : Nat → Int32) (w : Int32) (tk : Nat) (hny : ny ≤ 60) (hg : gOk (sl s 0) tk) (hb_m : xB E ≤ m) (hn_m : m + 5 ≤ N) : MF E yX9_fault cX9_fault 3 (some .int) 8 185 0 0 [.ref m, .int w] N (ov m (mC E m s su st tx (nI ny) re ca (nI p) to) G) (some (.int ((mFau s su tx ny tk p to re ca w).1))) (ov m (mC E m ((mFau s su tx ny tk p to re ca w).2.2.1) ((mFau s su tx ny tk p to re ca w).2.2.2.1) st tx (nI ny) ((mFau s su tx ny tk p to re ca w).2.2.2.2.2.1) ((mFau s su tx ny tk p to re ca w).2.2.2.2.2.2) (nI ((mFau s su tx ny tk p to re ca w).2.1)) ((mFau s su tx ny tk p to re ca w).2.2.2.2.1)) G) := by
  refine MF.mk RX9 rfl (by decide +kernel) rfl (fun K C Z hin hN => ?_)
  show XW E K 3 N 0 0 _ 0 [(0, .ref m), (1, .int w)] []
  refine x_iload_n C dX9_fault_0 1 rfl ?_
  refine x_iconst C 0 dX9_fault_1 rfl ?_
  refine x_iconst C 2 dX9_fault_2 rfl ?_
  refine x_cS1 C (c_X9_in E N _ w 0 2) v_X9_54 hN rfl rfl rfl rfl dX9_fault_3 ?_
  refine x_ifb_ne C 12 dX9_fault_6 rfl (fun c6 => ?_) (fun c6 => ?_)
  · refine x_aload_n C dX9_fault_12 0 rfl ?_
    refine x_cV0 C (c_X9_keeps E N m _ s su st tx (nI ny) re ca (nI p) to hb_m hn_m) v_X9_63 hN (xlo (i := 0) hb_m) (xhi (i := 0) hn_m rfl) (ov_at (i := 0) rfl) rfl rfl rfl rfl rfl dX9_fault_13 ?_
    refine x_aload_n C dX9_fault_16 0 rfl ?_
    refine x_cV1 C (c_X9_goesOn E N m _ (mCp s 0 6) (mCu su 0 6) st tx ny re ca p to tk (by first | assumption | omega | decide) (gOk_kS hg) hb_m hn_m) v_X9_141 hN (xlo (i := 0) hb_m) (xhi (i := 0) hn_m rfl) (ov_at (i := 0) rfl) rfl rfl rfl rfl rfl dX9_fault_17 ?_
    refine x_istore_n (L' := [(2, .int ((mgoA tx ny (mCp s 0 6) (mCu su 0 6) tk to re ca).1)), (0, .ref m), (1, .int w)]) C dX9_fault_20 rfl rfl ?_
    refine x_aload_n C dX9_fault_21 1 rfl ?_
    refine x_bipush C 6 dX9_fault_22 rfl ?_
    refine x_iconst C 0 dX9_fault_24 rfl ?_
    refine x_cV0 C (c_X9_copies E N m _ ((mgoA tx ny (mCp s 0 6) (mCu su 0 6) tk to re ca).2.2.1) ((mgoA tx ny (mCp s 0 6) (mCu su 0 6) tk to re ca).2.2.2.1) st tx (nI ny) ((mgoA tx ny (mCp s 0 6) (mCu su 0 6) tk to re ca).2.2.2.2.2.1) ((mgoA tx ny (mCp s 0 6) (mCu su 0 6) tk to re ca).2.2.2.2.2.2) (nI ((mgoA tx ny (mCp s 0 6) (mCu su 0 6) tk to re ca).2.1)) ((mgoA tx ny (mCp s 0 6) (mCu su 0 6) tk to re ca).2.2.2.2.1) 6 0 (by first | assumption | omega | decide) (by first | assumption | omega | decide) hb_m hn_m) v_X9_24 hN (xlo (i := 0) hb_m) (xhi (i := 0) hn_m rfl) (ov_at (i := 0) rfl) rfl rfl rfl rfl rfl dX9_fault_25 ?_
    refine x_iload_n C dX9_fault_28 0 rfl ?_
    refine x_if_lt C 37 dX9_fault_29 rfl (fun c29 => ?_) (fun c29 => ?_)
    · refine x_iload_n C dX9_fault_37 2 rfl ?_
      refine x_if_ne C 48 dX9_fault_38 rfl (fun c38 => ?_) (fun c38 => ?_)
      · refine x_iload_n C dX9_fault_48 2 rfl ?_
        refine x_iconst C 1 dX9_fault_49 rfl ?_
        refine x_icmp_ne C 60 dX9_fault_50 rfl (fun c50 => ?_) (fun c50 => ?_)
        · refine x_aload_n C dX9_fault_60 1 rfl ?_
          refine x_get C (xlo (i := 0) hb_m) (xhi (i := 0) hn_m rfl) (ov_at (i := 0) rfl) f_X9_135 rfl dX9_fault_61 ?_
          exact x_iret C Z rfl rfl (by first | (simp only [mFau, c6, if_pos c29, if_neg c38, if_neg c50, eq_self, Bool.false_eq_true, if_true, if_false]; done) | ((simp only [mFau, c6, if_pos c29, if_neg c38, if_neg c50, eq_self, Bool.false_eq_true, if_true, if_false]); rfl) | (simp [mFau, c6, c29, c38, c50]; done) | (simp [mFau, c6, c29, c38, c50]; rfl)) (by first | (simp only [mFau, c6, if_pos c29, if_neg c38, if_neg c50, eq_self, Bool.false_eq_true, if_true, if_false]; done) | ((simp only [mFau, c6, if_pos c29, if_neg c38, if_neg c50, eq_self, Bool.false_eq_true, if_true, if_false]); rfl) | (simp [mFau, c6, c29, c38, c50]; done) | (simp [mFau, c6, c29, c38, c50]; rfl)) dX9_fault_64
        · refine x_aload_n C dX9_fault_53 1 rfl ?_
          refine x_get C (xlo (i := 0) hb_m) (xhi (i := 0) hn_m rfl) (ov_at (i := 0) rfl) f_X9_132 rfl dX9_fault_54 ?_
          refine x_goto C 64 dX9_fault_57 rfl ?_
          exact x_iret C Z rfl rfl (by first | (simp only [mFau, c6, if_pos c29, if_neg c38, if_pos c50, eq_self, Bool.false_eq_true, if_true, if_false]; done) | ((simp only [mFau, c6, if_pos c29, if_neg c38, if_pos c50, eq_self, Bool.false_eq_true, if_true, if_false]); rfl) | (simp [mFau, c6, c29, c38, c50]; done) | (simp [mFau, c6, c29, c38, c50]; rfl)) (by first | (simp only [mFau, c6, if_pos c29, if_neg c38, if_pos c50, eq_self, Bool.false_eq_true, if_true, if_false]; done) | ((simp only [mFau, c6, if_pos c29, if_neg c38, if_pos c50, eq_self, Bool.false_eq_true, if_true, if_false]); rfl) | (simp [mFau, c6, c29, c38, c50]; done) | (simp [mFau, c6, c29, c38, c50]; rfl)) dX9_fault_64
      · refine x_iload_n C dX9_fault_41 0 rfl ?_
        refine x_ineg C dX9_fault_42 ?_
        refine x_iconst C 1 dX9_fault_43 rfl ?_
        refine x_isub C dX9_fault_44 ?_
        refine x_goto C 64 dX9_fault_45 rfl ?_
        exact x_iret C Z rfl rfl (by first | (simp only [mFau, c6, if_pos c29, if_pos c38, eq_self, Bool.false_eq_true, if_true, if_false]; done) | ((simp only [mFau, c6, if_pos c29, if_pos c38, eq_self, Bool.false_eq_true, if_true, if_false]); rfl) | (simp [mFau, c6, c29, c38]; done) | (simp [mFau, c6, c29, c38]; rfl)) (by first | (simp only [mFau, c6, if_pos c29, if_pos c38, eq_self, Bool.false_eq_true, if_true, if_false]; done) | ((simp only [mFau, c6, if_pos c29, if_pos c38, eq_self, Bool.false_eq_true, if_true, if_false]); rfl) | (simp [mFau, c6, c29, c38]; done) | (simp [mFau, c6, c29, c38]; rfl)) dX9_fault_64
    · refine x_ldc C (-1000004) m_641 dX9_fault_32 ?_
      refine x_goto C 64 dX9_fault_34 rfl ?_
      exact x_iret C Z rfl rfl (by first | (simp only [mFau, c6, if_neg c29, eq_self, Bool.false_eq_true, if_true, if_false]; done) | ((simp only [mFau, c6, if_neg c29, eq_self, Bool.false_eq_true, if_true, if_false]); rfl) | (simp [mFau, c6, c29]; done) | (simp [mFau, c6, c29]; rfl)) (by first | (simp only [mFau, c6, if_neg c29, eq_self, Bool.false_eq_true, if_true, if_false]; done) | ((simp only [mFau, c6, if_neg c29, eq_self, Bool.false_eq_true, if_true, if_false]); rfl) | (simp [mFau, c6, c29]; done) | (simp [mFau, c6, c29]; rfl)) dX9_fault_64
  · refine x_ldc C (-1000001) m_584 dX9_fault_9 ?_
    exact x_iret C Z rfl rfl (by first | (simp only [mFau, c6, eq_self, Bool.false_eq_true, if_true, if_false]; done) | ((simp only [mFau, c6, eq_self, Bool.false_eq_true, if_true, if_false]); rfl) | (simp [mFau, c6]; done) | (simp [mFau, c6]; rfl)) (by first | (simp only [mFau, c6, eq_self, Bool.false_eq_true, if_true, if_false]; done) | ((simp only [mFau, c6, eq_self, Bool.false_eq_true, if_true, if_false]); rfl) | (simp [mFau, c6]; done) | (simp [mFau, c6]; rfl)) dX9_fault_11

set_option maxRecDepth 100000 in
set_option maxHeartbeats 4000000 in
theorem c_X9_play (E : XE) (N m : Nat) (G : GW) (s : Nat → Int32) (su : Nat → Int64) (n : Nat) (tx : Nat → Int32) (ny : Nat) (re ca : Int32) (p : Nat) (to : Nat → Int32) (tk : Nat) (hny : ny ≤ 60) (hn : n ≤ 4) (hg : gOk (sl s 0) tk) (hb_m : xB E ≤ m) (hn_m : m + 5 ≤ N) : MF E yX9_play cX9_play 2 (some .int) 8 185 0 0 [.ref m] N (ov m (mC E m s su (nI n) tx (nI ny) re ca (nI p) to) G) (some (.int ((mPla s su n tx ny tk to re ca).1.1))) (ov m (mC E m (((mPla s su n tx ny tk to re ca).1).2.2.1) (((mPla s su n tx ny tk to re ca).1).2.2.2.1) (nI ((mPla s su n tx ny tk to re ca).2)) tx (nI ny) (((mPla s su n tx ny tk to re ca).1).2.2.2.2.2.1) (((mPla s su n tx ny tk to re ca).1).2.2.2.2.2.2) (nI (((mPla s su n tx ny tk to re ca).1).2.1)) (((mPla s su n tx ny tk to re ca).1).2.2.2.2.1)) G) := by
  refine MF.mk RX9 rfl (by decide +kernel) rfl (fun K C Z hin hN => ?_)
  show XW E K 2 N 0 0 _ 0 [(0, .ref m)] []
  refine x_aload_n C dX9_play_0 0 rfl ?_
  refine x_cV0 C (c_X9_keeps E N m _ s su (nI n) tx (nI ny) re ca (nI p) to hb_m hn_m) v_X9_63 hN (xlo (i := 0) hb_m) (xhi (i := 0) hn_m rfl) (ov_at (i := 0) rfl) rfl rfl rfl rfl rfl dX9_play_1 ?_
  refine x_aload_n C dX9_play_4 0 rfl ?_
  refine x_cV1 C (c_X9_goesOn E N m _ (mCp s 0 6) (mCu su 0 6) (nI n) tx ny re ca p to tk (by first | assumption | omega | decide) (gOk_kS hg) hb_m hn_m) v_X9_141 hN (xlo (i := 0) hb_m) (xhi (i := 0) hn_m rfl) (ov_at (i := 0) rfl) rfl rfl rfl rfl rfl dX9_play_5 ?_
  refine x_istore_n (L' := [(1, .int ((mgoA tx ny (mCp s 0 6) (mCu su 0 6) tk to re ca).1)), (0, .ref m)]) C dX9_play_8 rfl rfl ?_
  refine x_iload_n C dX9_play_9 0 rfl ?_
  refine x_if_ge C 23 dX9_play_10 rfl (fun c10 => ?_) (fun c10 => ?_)
  · refine x_aload_n C dX9_play_23 1 rfl ?_
    refine x_iload_n C dX9_play_24 0 rfl ?_
    refine x_cV1 C (c_X9_acted E N m _ ((mgoA tx ny (mCp s 0 6) (mCu su 0 6) tk to re ca).2.2.1) ((mgoA tx ny (mCp s 0 6) (mCu su 0 6) tk to re ca).2.2.2.1) tx (nI ny) ((mgoA tx ny (mCp s 0 6) (mCu su 0 6) tk to re ca).2.2.2.2.2.1) ((mgoA tx ny (mCp s 0 6) (mCu su 0 6) tk to re ca).2.2.2.2.2.2) (nI ((mgoA tx ny (mCp s 0 6) (mCu su 0 6) tk to re ca).2.1)) ((mgoA tx ny (mCp s 0 6) (mCu su 0 6) tk to re ca).2.2.2.2.1) ((mgoA tx ny (mCp s 0 6) (mCu su 0 6) tk to re ca).1) n (by first | assumption | omega | decide) hb_m hn_m) v_X9_69 hN (xlo (i := 0) hb_m) (xhi (i := 0) hn_m rfl) (ov_at (i := 0) rfl) rfl rfl rfl rfl rfl dX9_play_25 ?_
    exact x_iret C Z rfl rfl (by first | (simp only [mPla, if_pos c10, eq_self, Bool.false_eq_true, if_true, if_false]; done) | ((simp only [mPla, if_pos c10, eq_self, Bool.false_eq_true, if_true, if_false]); rfl) | (simp [mPla, c10]; done) | (simp [mPla, c10]; rfl)) (by first | (simp only [mPla, if_pos c10, eq_self, Bool.false_eq_true, if_true, if_false]; done) | ((simp only [mPla, if_pos c10, eq_self, Bool.false_eq_true, if_true, if_false]); rfl) | (simp [mPla, c10]; done) | (simp [mPla, c10]; rfl)) dX9_play_28
  · refine x_aload_n C dX9_play_13 1 rfl ?_
    refine x_bipush C 6 dX9_play_14 rfl ?_
    refine x_iconst C 0 dX9_play_16 rfl ?_
    refine x_cV0 C (c_X9_copies E N m _ ((mgoA tx ny (mCp s 0 6) (mCu su 0 6) tk to re ca).2.2.1) ((mgoA tx ny (mCp s 0 6) (mCu su 0 6) tk to re ca).2.2.2.1) (nI n) tx (nI ny) ((mgoA tx ny (mCp s 0 6) (mCu su 0 6) tk to re ca).2.2.2.2.2.1) ((mgoA tx ny (mCp s 0 6) (mCu su 0 6) tk to re ca).2.2.2.2.2.2) (nI ((mgoA tx ny (mCp s 0 6) (mCu su 0 6) tk to re ca).2.1)) ((mgoA tx ny (mCp s 0 6) (mCu su 0 6) tk to re ca).2.2.2.2.1) 6 0 (by first | assumption | omega | decide) (by first | assumption | omega | decide) hb_m hn_m) v_X9_24 hN (xlo (i := 0) hb_m) (xhi (i := 0) hn_m rfl) (ov_at (i := 0) rfl) rfl rfl rfl rfl rfl dX9_play_17 ?_
    refine x_ldc C (-1000002) m_606 dX9_play_20 ?_
    exact x_iret C Z rfl rfl (by first | (simp only [mPla, if_neg c10, eq_self, Bool.false_eq_true, if_true, if_false]; done) | ((simp only [mPla, if_neg c10, eq_self, Bool.false_eq_true, if_true, if_false]); rfl) | (simp [mPla, c10]; done) | (simp [mPla, c10]; rfl)) (by first | (simp only [mPla, if_neg c10, eq_self, Bool.false_eq_true, if_true, if_false]; done) | ((simp only [mPla, if_neg c10, eq_self, Bool.false_eq_true, if_true, if_false]); rfl) | (simp [mPla, c10]; done) | (simp [mPla, c10]; rfl)) dX9_play_22

