/-! ===== class and reference: fault and play ===== -/
abbrev fF (x : FFV) : Int32 := x.2.2.2.2.1
theorem ord_true {tx : Nat → Int32} {ny p : Nat} {L : Int32} {to : Nat → Int32} (h : (mOrd tx ny L p to).1 = true) : L = 115 ∨ L = 122 ∨ L = 116 ∨ L = 102 ∨ L = 107 ∨ L = 103 := by
  rcases ord_kind (tx := tx) (ny := ny) (p := p) (L := L) (to := to) with e | ⟨-, e⟩
  · exact e
  · rw [e] at h
    exact absurd (show false = true from h) (by decide)
/-- what a run over the orders leaves -/
def LO (ch : Nat → Int32) (ny d i p : Nat) (v : SV) (nu2 : Nat → Int32) (s : Nat → Int32) (su : Nat → Int64) (a : Nat) (F : FFV) (M : GV) (P : PYV) : Prop :=
  (∀ q, 100 ≤ q → M.2.2.1 q = s q) ∧ (∀ k, 0 < k → M.2.2.2.1 k = su k) ∧
  ((F.2.2.2.2.1 = 0 ∧ (∃ k, k ≤ i + d ∧ M.1 = nI k) ∧ P.1 = M.1 ∧ (∃ tk2 fi2 a2, a2 ≤ a + 200 * d ∧ SR P.2.1 (sl M.2.2.1 0) (M.2.2.2.1 0) tk2 fi2 a2) ∧ pyOk ch (nI ny) d (nI p) v nu2)
   ∨ (F.2.2.2.2.1 = 1 ∧ ∃ p2, p2 ≤ 1000 ∧ F.2.2.2.2.2.1 = nI p2 ∧ M.1 = -(nI p2) - 1 ∧ F.2.2.2.2.2.2.1 = M.2.2.2.2.2.1 ∧ F.2.2.2.2.2.2.2 = M.2.2.2.2.2.2))
theorem eF_s (ch : Nat → Int32) (ny : Nat) (fp fr fc : Int32) (d p tk : Nat) (nu : Nat → Int32) (ki en wh : Int32) : ffRun ch (nI ny) fp fr fc (d + 1) (nI tk) (nI p) nu ki en wh = if nI ny ≤ nI p then (nu, ki, en, wh, 0, fp, fr, fc) else if (oFin ch (nI ny) nu (nI p)).2.2 = 0 then ((oFin ch (nI ny) nu (nI p)).1, tAt ch (nI ny) (nI p), (oFin ch (nI ny) nu (nI p)).2.1, (oFin ch (nI ny) nu (nI p)).2.2, 1, nI p, 1, (oFin ch (nI ny) nu (nI p)).2.1 - nI p) else if oErr (tAt ch (nI ny) (nI p)) (oFin ch (nI ny) nu (nI p)).1 (nI tk) = 0 then ffRun ch (nI ny) fp fr fc d (nI tk + wGo (tAt ch (nI ny) (nI p)) (oFin ch (nI ny) nu (nI p)).1) (oFin ch (nI ny) nu (nI p)).2.1 (oFin ch (nI ny) nu (nI p)).1 (tAt ch (nI ny) (nI p)) (oFin ch (nI ny) nu (nI p)).2.1 (oFin ch (nI ny) nu (nI p)).2.2 else ((oFin ch (nI ny) nu (nI p)).1, tAt ch (nI ny) (nI p), (oFin ch (nI ny) nu (nI p)).2.1, (oFin ch (nI ny) nu (nI p)).2.2, 1, nI p, 2, oErr (tAt ch (nI ny) (nI p)) (oFin ch (nI ny) nu (nI p)).1 (nI tk)) := by
  rw [ffRun]
theorem eM_s (tx : Nat → Int32) (ny d i p : Nat) (s : Nat → Int32) (su : Nat → Int64) (tk : Nat) (to : Nat → Int32) (re ca : Int32) : mgo tx ny (d + 1) i p s su tk to re ca = if nI ny ≤ nI p then (nI i, p, s, su, to, re, ca) else if (mOrd tx ny (mT tx ny p) p to).1 = true then if -1000001 < mDoR (mT tx ny p) s su tk (mOrd tx ny (mT tx ny p) p to).2.2 then mgo tx ny d (i + 1) (mOrd tx ny (mT tx ny p) p to).2.1 (mDoS (mT tx ny p) s su tk (mOrd tx ny (mT tx ny p) p to).2.2) (mDoU (mT tx ny p) s su (mOrd tx ny (mT tx ny p) p to).2.2) (mDoK (mT tx ny p) tk (mOrd tx ny (mT tx ny p) p to).2.2) (mOrd tx ny (mT tx ny p) p to).2.2 re ca else (-(nI p) - 1, (mOrd tx ny (mT tx ny p) p to).2.1, mDoS (mT tx ny p) s su tk (mOrd tx ny (mT tx ny p) p to).2.2, mDoU (mT tx ny p) s su (mOrd tx ny (mT tx ny p) p to).2.2, (mOrd tx ny (mT tx ny p) p to).2.2, 2, mDoR (mT tx ny p) s su tk (mOrd tx ny (mT tx ny p) p to).2.2) else (-(nI p) - 1, (mOrd tx ny (mT tx ny p) p to).2.1, s, su, (mOrd tx ny (mT tx ny p) p to).2.2, 1, nI (mOrd tx ny (mT tx ny p) p to).2.1 - nI p) := by
  rw [mgo]
theorem eP_s (ch : Nat → Int32) (ny d i p : Nat) (v : SV) (nu2 : Nat → Int32) (ki2 en2 wh2 : Int32) : pyRun ch (nI ny) (d + 1) i (nI p) v nu2 ki2 en2 wh2 = if nI ny ≤ nI p then (nI i, v, nu2, ki2, en2, wh2) else pyRun ch (nI ny) d (i + 1) (oFin ch (nI ny) nu2 (nI p)).2.1 (dNow v (tAt ch (nI ny) (nI p)) (oFin ch (nI ny) nu2 (nI p)).1) (oFin ch (nI ny) nu2 (nI p)).1 (tAt ch (nI ny) (nI p)) (oFin ch (nI ny) nu2 (nI p)).2.1 (oFin ch (nI ny) nu2 (nI p)).2.2 := by
  rw [pyRun]
theorem eO_s (ch : Nat → Int32) (ny d p : Nat) (v : SV) (nu2 : Nat → Int32) : pyOk ch (nI ny) (d + 1) (nI p) v nu2 = (¬ nI ny ≤ nI p → dOk v (tAt ch (nI ny) (nI p)) (oFin ch (nI ny) nu2 (nI p)).1 ∧ pyOk ch (nI ny) d (oFin ch (nI ny) nu2 (nI p)).2.1 (dNow v (tAt ch (nI ny) (nI p)) (oFin ch (nI ny) nu2 (nI p)).1) (oFin ch (nI ny) nu2 (nI p)).1) := by
  rw [pyOk]
theorem loop_z (ch tx : Nat → Int32) (ny : Nat) (fp fr fc : Int32) (i p tk : Nat) (nu : Nat → Int32) (ki en wh : Int32) (s : Nat → Int32) (su : Nat → Int64) (to : Nat → Int32) (re ca : Int32) (v : SV) (nu2 : Nat → Int32) (ki2 en2 wh2 : Int32) : ffRun ch (nI ny) fp fr fc 0 (nI tk) (nI p) nu ki en wh = (nu, ki, en, wh, 0, fp, fr, fc) ∧ mgo tx ny 0 i p s su tk to re ca = (nI i, p, s, su, to, re, ca) ∧ pyRun ch (nI ny) 0 i (nI p) v nu2 ki2 en2 wh2 = (nI i, v, nu2, ki2, en2, wh2) ∧ pyOk ch (nI ny) 0 (nI p) v nu2 = True := by
  refine ⟨?_, ?_, ?_, ?_⟩
  · rw [ffRun]
  · rw [mgo]
  · rw [pyRun]
  · rw [pyOk]
theorem loop_ok {ch tx : Nat → Int32} {ny : Nat} (hT : TT ch tx ny) (fp fr fc : Int32) : ∀ (d i p : Nat) (nu : Nat → Int32) (ki en wh : Int32) (s : Nat → Int32) (su : Nat → Int64) (tk : Nat) (to : Nat → Int32) (re ca : Int32) (v : SV) (fi a : Nat) (nu2 : Nat → Int32) (ki2 en2 wh2 : Int32), p ≤ 100 → a + 200 * d ≤ 2000000000 → SR v (sl s 0) (su 0) tk fi a → LO ch ny d i p v nu2 s su a (ffRun ch (nI ny) fp fr fc d (nI tk) (nI p) nu ki en wh) (mgo tx ny d i p s su tk to re ca) (pyRun ch (nI ny) d i (nI p) v nu2 ki2 en2 wh2) := by
  intro d
  induction d with
  | zero =>
    intro i p nu ki en wh s su tk to re ca v fi a nu2 ki2 en2 wh2 hp ha h
    obtain ⟨z1, z2, z3, z4⟩ := loop_z ch tx ny fp fr fc i p tk nu ki en wh s su to re ca v nu2 ki2 en2 wh2
    unfold LO
    rw [z1, z2, z3, z4]
    exact ⟨fun _ _ => rfl, fun _ _ => rfl, Or.inl ⟨rfl, ⟨i, by omega, rfl⟩, rfl, ⟨tk, fi, a, by omega, h⟩, trivial⟩⟩
  | succ d ihd =>
    intro i p nu ki en wh s su tk to re ca v fi a nu2 ki2 en2 wh2 hp ha h
    have hny := hT.1
    unfold LO
    rw [eF_s, eM_s, eP_s, eO_s]
    by_cases c : ny ≤ p
    · have cI : nI ny ≤ nI p := (nI_leI (by omega) (by omega)).mpr c
      rw [if_pos cI, if_pos cI, if_pos cI]
      exact ⟨fun _ _ => rfl, fun _ _ => rfl, Or.inl ⟨rfl, ⟨i, by omega, rfl⟩, rfl, ⟨tk, fi, a, by omega, h⟩, fun z => absurd cI z⟩⟩
    · have cI : ¬ nI ny ≤ nI p := fun z => c ((nI_leI (by omega) (by omega)).mp z)
      obtain ⟨eL, o1⟩ := ord_ok hT (show p < ny by omega) nu to
      obtain ⟨-, o2⟩ := ord_ok hT (show p < ny by omega) nu2 to
      have hge := mOrd_ge tx ny (mT tx ny p) p to
      rw [if_neg cI, if_neg cI, if_neg cI, eL]
      cases hb : (mOrd tx ny (mT tx ny p) p to).1 with
      | false =>
        have w0 : (oFin ch (nI ny) nu (nI p)).2.2 = 0 := by
          rw [o1.1, hb]
          rfl
        rw [if_pos w0, if_neg Bool.false_ne_true]
        refine ⟨fun _ _ => rfl, fun _ _ => rfl, Or.inr ⟨rfl, p, by omega, rfl, rfl, rfl, ?_⟩⟩
        show (oFin ch (nI ny) nu (nI p)).2.1 - nI p = nI (mOrd tx ny (mT tx ny p) p to).2.1 - nI p
        rw [o1.2.1]
      | true =>
        have w0 : ¬ (oFin ch (nI ny) nu (nI p)).2.2 = 0 := by
          rw [o1.1, hb]
          decide
        rw [if_neg w0, if_pos rfl]
        have hL := ord_true hb
        have d1 := do_ok h (show a + 200 ≤ 2000000000 by omega) hL (o1.2.2.2 hb)
        have d2 := do_ok h (show a + 200 ≤ 2000000000 by omega) hL (o2.2.2.2 hb)
        obtain ⟨d1a, d1b, d1c, d1d⟩ := d1
        obtain ⟨d2a, d2b, -, -⟩ := d2
        by_cases e0 : oErr (mT tx ny p) (oFin ch (nI ny) nu (nI p)).1 (nI tk) = 0
        · obtain ⟨x1, -, -, x4⟩ := d1a e0
          have e2 : oErr (mT tx ny p) (oFin ch (nI ny) nu2 (nI p)).1 (nI tk) = 0 := by
            by_cases q : oErr (mT tx ny p) (oFin ch (nI ny) nu2 (nI p)).1 (nI tk) = 0
            · exact q
            · exact absurd x1 (d2b q).2
          obtain ⟨-, ⟨fi2, a2, y1, y2⟩, y3, -⟩ := d2a e2
          rw [if_pos e0, if_pos x1, x4, o1.2.1, o2.2.1]
          have ih := ihd (i + 1) (mOrd tx ny (mT tx ny p) p to).2.1 (oFin ch (nI ny) nu (nI p)).1 (mT tx ny p) (nI (mOrd tx ny (mT tx ny p) p to).2.1) (oFin ch (nI ny) nu (nI p)).2.2 _ _ _ (mOrd tx ny (mT tx ny p) p to).2.2 re ca _ fi2 a2 (oFin ch (nI ny) nu2 (nI p)).1 (mT tx ny p) (nI (mOrd tx ny (mT tx ny p) p to).2.1) (oFin ch (nI ny) nu2 (nI p)).2.2 (by omega) (by omega) y2
          obtain ⟨i1, i2, i3⟩ := ih
          refine ⟨fun q hq => (i1 q hq).trans (d1c q hq), fun k hk => (i2 k hk).trans (d1d k hk), ?_⟩
          rcases i3 with ⟨j1, ⟨k, j2, j3⟩, j4, ⟨tk2, fi3, a3, j5, j6⟩, j7⟩ | j
          · exact Or.inl ⟨j1, ⟨k, by omega, j3⟩, j4, ⟨tk2, fi3, a3, by omega, j6⟩, fun _ => ⟨y3, j7⟩⟩
          · exact Or.inr j
        · obtain ⟨x1, x2⟩ := d1b e0
          rw [if_neg e0, if_neg x2]
          clear e0 x2 d1a d1b d2a d2b
          generalize oErr (mT tx ny p) (oFin ch (nI ny) nu (nI p)).1 (nI tk) = E1 at x1 ⊢
          generalize mDoR (mT tx ny p) s su tk (mOrd tx ny (mT tx ny p) p to).2.2 = R1 at x1 ⊢
          generalize mDoS (mT tx ny p) s su tk (mOrd tx ny (mT tx ny p) p to).2.2 = S1 at d1c ⊢
          generalize mDoU (mT tx ny p) s su (mOrd tx ny (mT tx ny p) p to).2.2 = U1 at d1d ⊢
          exact ⟨d1c, d1d, Or.inr ⟨rfl, p, by omega, rfl, rfl, show (2 : Int32) = 2 from rfl, x1.symm⟩⟩
theorem neg_pos {k : Nat} (h : k ≤ 1000) : -(nI k) - 1 < 0 ∧ ¬ (0 : Int32) ≤ -(nI k) - 1 ∧ -(-(nI k) - 1) - 1 = nI k := by
  have z0 : (0 : Int32).toInt = 0 := rfl
  have z1 : (1 : Int32).toInt = 1 := rfl
  have e : (-(nI k) - 1).toInt = -(k : Int) - 1 := by
    rw [Int32.toInt_sub, neg_toInt (by rw [nI_toInt (by omega)]; omega), z1, nI_toInt (by omega), toInt_small (by omega) (by omega)]
  refine ⟨by rw [i_lt, e, z0]; omega, by rw [i_le, e, z0]; omega, ?_⟩
  apply Int32.toInt_inj.mp
  rw [Int32.toInt_sub, neg_toInt (by rw [e]; omega), e, z1, nI_toInt (by omega), toInt_small (by omega) (by omega)]
  omega
theorem nn_nI {k : Nat} (h : k < 2 ^ 31) : ¬ nI k < 0 ∧ (0 : Int32) ≤ nI k := by
  have z0 : (0 : Int32).toInt = 0 := rfl
  refine ⟨?_, ?_⟩
  · rw [i_lt, nI_toInt h, z0]
    omega
  · rw [i_le, nI_toInt h, z0]
    omega
theorem rt_tt {u : QV} {tx : Nat → Int32} {ny : Nat} (h : RT u tx ny) : TT (qCh u) tx ny := ⟨h.1, h.2.2⟩
/-- the run over the orders at a call -/
theorem all_ok {u : QV} {s : Nat → Int32} {su : Nat → Int64} {n ny c tk fi a : Nat} {tx : Nat → Int32} (h : RQ u s su n tx ny c) (hc : c ≤ 600) (ha : a ≤ 30000 * c) (hS : SR (qNow u) (sl s 0) (su 0) tk fi a) (to : Nat → Int32) (re ca : Int32) : LO (qCh u) ny 60 0 0 (qNow u) (ffAll u).1 (kS s) (kU su) a (ffAll u) (mgK s su tx ny tk to re ca) (pyAll (qKeep (qFF u))) := by
  have hl := loop_ok (rt_tt h.2.2) (qFp u) (qFr u) (qFc u) 60 0 0 (qNu u) (qKi u) (qEn u) (qWh u) (kS s) (kU su) tk to re ca (qNow u) fi a (ffAll u).1 (ffAll u).2.1 (ffAll u).2.2.1 (ffAll u).2.2.2.1 (by omega) (by omega) (sr_k hS)
  have e1 : ffAll u = ffRun (qCh u) (nI ny) (qFp u) (qFr u) (qFc u) 60 (nI tk) (nI 0) (qNu u) (qKi u) (qEn u) (qWh u) := by
    unfold ffAll
    rw [h.2.2.2.1, len_tk hS]
    rfl
  have e2 : pyAll (qKeep (qFF u)) = pyRun (qCh u) (nI ny) 60 0 (nI 0) (qNow u) (ffAll u).1 (ffAll u).2.1 (ffAll u).2.2.1 (ffAll u).2.2.2.1 := by
    rw [← h.2.2.2.1]
    rfl
  rw [← e1, ← e2] at hl
  exact hl
theorem back_ok {u : QV} {s s1 : Nat → Int32} {su su1 : Nat → Int64} {n ny c : Nat} {tx : Nat → Int32} (h : RQ u s su n tx ny c) (m : ∀ q, 100 ≤ q → s1 q = kS s q) (mu : ∀ k, 0 < k → su1 k = kU su k) : RQ u (mCp s1 6 0) (mCu su1 6 0) n tx ny (c + 1) := by
  refine rq_slots h (by omega) (fun k hk j hj => ?_) (fun k hk => ?_)
  · by_cases e : k = 0
    · subst e
      exact (sl_slP s1 0 (sl s1 6) hj).trans ((m (100 * 6 + j) (by omega)).trans (sl_slP s 6 (sl s 0) hj))
    · exact (sl_slP_ne s1 0 k (sl s1 6) (fun z => e z.symm) hj).trans ((m (100 * k + j) (by omega)).trans (sl_slP_ne s 6 k (sl s 0) (by omega) hj))
  · by_cases e : k = 0
    · subst e
      exact (vp_updL_at su1 0 (su1 6)).trans ((mu 6 (by omega)).trans (vp_updL_at su 6 (su 0)))
    · exact (vp_updL_un (fun z => e z.symm)).trans ((mu k (by omega)).trans (vp_updL_un (by omega)))
theorem fauc_ok {u : QV} {s : Nat → Int32} {su : Nat → Int64} {n ny c tk fi a : Nat} {tx : Nat → Int32} (h : RQ u s su n tx ny c) (hc : c ≤ 600) (ha : a ≤ 30000 * c) (hS : SR (qNow u) (sl s 0) (su 0) tk fi a) (p : Nat) (to : Nat → Int32) (re ca w : Int32) : rFa u w = (mFau s su tx ny tk p to re ca w).1 ∧ RQ (qFa u w) (mFau s su tx ny tk p to re ca w).2.2.1 (mFau s su tx ny tk p to re ca w).2.2.2.1 n tx ny (c + 1) := by
  by_cases e1 : inR w 0 2 = true
  · have hA := all_ok h hc ha hS to re ca
    have r1 : rFa u w = if qFt (qFF u) = 0 then -1000004 else if w = 0 then qFp (qFF u) else if w = 1 then qFr (qFF u) else qFc (qFF u) := if_pos e1
    have q1 : qFa u w = qFF u := if_pos e1
    have m1 : mFau s su tx ny tk p to re ca w = (if (mgK s su tx ny tk to re ca).1 < 0 then (if w = 0 then -(mgK s su tx ny tk to re ca).1 - 1 else if w = 1 then (mgK s su tx ny tk to re ca).2.2.2.2.2.1 else (mgK s su tx ny tk to re ca).2.2.2.2.2.2) else -1000004, (mgK s su tx ny tk to re ca).2.1, mCp (mgK s su tx ny tk to re ca).2.2.1 6 0, mCu (mgK s su tx ny tk to re ca).2.2.2.1 6 0, (mgK s su tx ny tk to re ca).2.2.2.2.1, (mgK s su tx ny tk to re ca).2.2.2.2.2.1, (mgK s su tx ny tk to re ca).2.2.2.2.2.2) := if_pos e1
    rw [r1, q1, m1]
    obtain ⟨i1, i2, i3⟩ := hA
    refine ⟨?_, back_ok h i1 i2⟩
    show (if fF (ffAll u) = 0 then -1000004 else if w = 0 then (ffAll u).2.2.2.2.2.1 else if w = 1 then (ffAll u).2.2.2.2.2.2.1 else (ffAll u).2.2.2.2.2.2.2) = if (mgK s su tx ny tk to re ca).1 < 0 then (if w = 0 then -(mgK s su tx ny tk to re ca).1 - 1 else if w = 1 then (mgK s su tx ny tk to re ca).2.2.2.2.2.1 else (mgK s su tx ny tk to re ca).2.2.2.2.2.2) else -1000004
    rcases i3 with ⟨j1, ⟨k, j2, j3⟩, -, -, -⟩ | ⟨j1, p2, j2, j3, j4, j5, j6⟩
    · rw [if_pos j1, j3, if_neg (nn_nI (by omega)).1]
    · have hn := neg_pos j2
      have n1 : ¬ fF (ffAll u) = 0 := by
        show ¬ (ffAll u).2.2.2.2.1 = 0
        rw [j1]
        decide
      rw [if_neg n1, j3, j5, j6, j4, if_pos hn.1, hn.2.2]
  · have r1 : rFa u w = -1000001 := if_neg e1
    have q1 : qFa u w = u := if_neg e1
    have m1 : mFau s su tx ny tk p to re ca w = (-1000001, p, s, su, to, re, ca) := if_neg e1
    rw [r1, q1, m1]
    exact ⟨rfl, rq_mono h (by omega)⟩
theorem plac_ok {u : QV} {s : Nat → Int32} {su : Nat → Int64} {n ny c tk fi a : Nat} {tx : Nat → Int32} (h : RQ u s su n tx ny c) (hc : c ≤ 600) (ha : a ≤ 30000 * c) (hS : SR (qNow u) (sl s 0) (su 0) tk fi a) (to : Nat → Int32) (re ca : Int32) : rPla u = (mPla s su n tx ny tk to re ca).1.1 ∧ RQ (qPla u) (mPla s su n tx ny tk to re ca).1.2.2.1 (mPla s su n tx ny tk to re ca).1.2.2.2.1 (mPla s su n tx ny tk to re ca).2 tx ny (c + 1) ∧ (qFt (qFF u) = 0 → pyOk (qCh (qKeep (qFF u))) (qTl (qKeep (qFF u))) 60 0 (qNow (qKeep (qFF u))) (qNu (qKeep (qFF u)))) := by
  obtain ⟨i1, i2, i3⟩ := all_ok h hc ha hS to re ca
  rcases i3 with ⟨j1, ⟨k, j2, j3⟩, j4, ⟨tk2, fi2, a2, j5, j6⟩, j7⟩ | ⟨j1, p2, j2, j3, j4, j5, j6⟩
  · have c1 : qFt (qFF u) = 0 := j1
    have hk := nn_nI (show k < 2 ^ 31 by omega)
    have c2 : (0 : Int32) ≤ (mgK s su tx ny tk to re ca).1 := by
      rw [j3]
      exact hk.2
    have r1 : rPla u = (pyAll (qKeep (qFF u))).1 := if_pos c1
    have q1 : qPla u = qPy (qKeep (qFF u)) := if_pos c1
    have m1 : mPla s su n tx ny tk to re ca = (((mgK s su tx ny tk to re ca).1, (mgK s su tx ny tk to re ca).2.1, mActS (mgK s su tx ny tk to re ca).1 n (mgK s su tx ny tk to re ca).2.2.1, mActU (mgK s su tx ny tk to re ca).1 n (mgK s su tx ny tk to re ca).2.2.2.1, (mgK s su tx ny tk to re ca).2.2.2.2), mActN (mgK s su tx ny tk to re ca).1 n) := if_pos c2
    rw [r1, q1, m1]
    refine ⟨j4, ?_, fun _ => ?_⟩
    · exact rq_ch (w := (pyAll (qKeep (qFF u))).2.1) h (by rw [j3]; exact r_nI (by omega)) ⟨tk2, fi2, a2, by omega, j6⟩ i1 i2
    · have e : qTl u = nI ny := h.2.2.2.1
      show pyOk (qCh u) (qTl u) 60 (nI 0) (qNow u) (ffAll u).1
      rw [e]
      exact j7
  · have c1 : ¬ qFt (qFF u) = 0 := by
      show ¬ (ffAll u).2.2.2.2.1 = 0
      rw [j1]
      decide
    have hn := neg_pos j2
    have c2 : ¬ (0 : Int32) ≤ (mgK s su tx ny tk to re ca).1 := by
      rw [j4]
      exact hn.2.1
    have r1 : rPla u = -1000002 := if_neg c1
    have q1 : qPla u = qFF u := if_neg c1
    have m1 : mPla s su n tx ny tk to re ca = ((-1000002, (mgK s su tx ny tk to re ca).2.1, mCp (mgK s su tx ny tk to re ca).2.2.1 6 0, mCu (mgK s su tx ny tk to re ca).2.2.2.1 6 0, (mgK s su tx ny tk to re ca).2.2.2.2), n) := if_neg c2
    rw [r1, q1, m1]
    exact ⟨rfl, back_ok h i1 i2, fun z => absurd z c1⟩
