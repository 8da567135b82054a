/-! ===== class and reference: the greatest feedback ===== -/
/-- the trial's rows and shape are those of the slot, but for the feedback's gain and the words -/
def JR (v : SV) (f : Nat → Int32) (tk : Nat) : Prop := f 64 = nI tk ∧ tk ≤ 48 ∧ vLe v = nI (64 - tk) ∧ (∃ fi, vFi v = nI fi ∧ fi < 64) ∧ (∀ t, t < 4 → (f (65 + t) = 0 ∧ vDe v t = 0) ∨ (f (65 + t) = 1 ∧ f (69 + t) = vDe v t ∧ f (74 + t) = vGa v t ∧ (-950 ≤ (vGa v t).toInt ∧ (vGa v t).toInt ≤ 950) ∧ ∃ d, vDe v t = nI d ∧ 1 ≤ d ∧ d ≤ 64)) ∧ f 73 = vDe v 4 ∧ (∃ d, vDe v 4 = nI d ∧ 1 ≤ d ∧ d ≤ 64) ∧ SRc v f
theorem jr_of {v : SV} {f : Nat → Int32} {tk fi : Nat} (h : SR3 v f tk fi) : JR v f tk :=
  ⟨h.1.1, h.1.2.1, h.1.2.2.1, ⟨fi, h.1.2.2.2.1, h.1.2.2.2.2.1⟩, h.2.1.1, h.2.1.2.1, h.2.1.2.2.2.2, h.2.2⟩
theorem jr_congr {v : SV} {f g : Nat → Int32} {tk : Nat} (h : JR v f tk) (e : ∀ j, j < 100 → g j = f j) : JR v g tk := by
  obtain ⟨a1, a2, a3, a4, b1, b2, b3, c1, c2, c3⟩ := h
  refine ⟨(e _ (by decide)).trans a1, a2, a3, a4, fun t ht => ?_, (e _ (by decide)).trans b2, b3, (e _ (by decide)).trans c1, (e _ (by decide)).trans c2, c3⟩
  rw [e (65 + t) (by omega), e (69 + t) (by omega), e (74 + t) (by omega)]
  exact b1 t ht
theorem jr_feed {v : SV} {f : Nat → Int32} {tk : Nat} (x : Int32) (h : JR v f tk) : JR (sFeed v x) f tk := by
  obtain ⟨a1, a2, a3, ⟨fi, a4, a5⟩, b1, b2, b3, c⟩ := h
  refine ⟨a1, a2, a3, ⟨(fi + 63) % 64, ?_, by omega⟩, b1, b2, b3, c⟩
  show rFi (vFi v) = _
  rw [a4, rFi_eq a5]
theorem wq0_eq {v : SV} (g : Int32) : wq0 v g = mkS (fillI (vW v) 0 64) (vFi v) (vLe v) (vRo v) (vNe v) (vKe v) (vSa v) (vGr v) (vHo v) (vHw v) (vSu v) (upd (vDe v) 4 (vDe v 4)) (upd (vGa v) 4 g) (vLi v) (vSh v) (vSl v) := rfl
theorem jr_wq0 {v : SV} {f : Nat → Int32} {tk : Nat} (g : Int32) (h : JR v f tk) : JR (wq0 v g) f tk := by
  obtain ⟨a1, a2, a3, a4, b1, b2, b3, c⟩ := h
  rw [wq0_eq]
  refine ⟨a1, a2, a3, a4, fun t ht => ?_, ?_, ?_, c⟩
  · have q1 : upd (vDe v) 4 (vDe v 4) t = vDe v t := pk_un (by omega)
    have q2 : upd (vGa v) 4 g t = vGa v t := pk_un (by omega)
    show (_ ∧ upd (vDe v) 4 (vDe v 4) t = 0) ∨ (_ ∧ _ = upd (vDe v) 4 (vDe v 4) t ∧ _ = upd (vGa v) 4 g t ∧ (-950 ≤ (upd (vGa v) 4 g t).toInt ∧ (upd (vGa v) 4 g t).toInt ≤ 950) ∧ ∃ d, upd (vDe v) 4 (vDe v 4) t = nI d ∧ 1 ≤ d ∧ d ≤ 64)
    rw [q1, q2]
    exact b1 t ht
  · show _ = upd (vDe v) 4 (vDe v 4) 4
    rw [pk_us]
    exact b2
  · show ∃ d, upd (vDe v) 4 (vDe v 4) 4 = nI d ∧ 1 ≤ d ∧ d ≤ 64
    rw [pk_us]
    exact b3
theorem mi0_at {p : PV} {g : Int32} {j : Nat} (hj : j < 100) : sl (mi0 p g).1 5 j = if j = 78 then g else if j < 64 then 0 else sl p.1 0 j := by
  show upd (mZer p.1) 578 g (100 * 5 + j) = _
  by_cases h : j = 78
  · subst h
    rw [if_pos rfl]
    exact pk_us
  · rw [if_neg h, pk_un (by omega)]
    unfold mZer zfA
    by_cases hl : j < 64
    · rw [if_pos (by omega), if_pos hl]
    · rw [if_neg (by omega), if_neg hl]
      exact sl_slP p.1 5 (sl p.1 0) hj
theorem sr3_wq0 {v : SV} {p : PV} {tk : Nat} {g : Int32} (h : JR v (sl p.1 0) tk) (hg : -950 ≤ g.toInt ∧ g.toInt ≤ 950) : ∃ fi, SR3 (wq0 v g) (sl (mi0 p g).1 5) tk fi := by
  obtain ⟨a1, a2, a3, ⟨fi, a4, a5⟩, b1, b2, b3, c1, c2, c3⟩ := h
  have z : (0 : Int32).toInt = 0 := rfl
  have e : ∀ j, 64 ≤ j → j < 78 ∨ 78 < j → j < 100 → sl (mi0 p g).1 5 j = sl p.1 0 j := fun j p1 p2 p3 => by
    rw [mi0_at p3, if_neg (by omega), if_neg (by omega)]
  have ez : ∀ j, j < 64 → sl (mi0 p g).1 5 j = 0 := fun j p1 => by
    rw [mi0_at (by omega), if_neg (by omega), if_pos p1]
  rw [wq0_eq]
  refine ⟨fi, ⟨(e _ (by omega) (by omega) (by omega)).trans a1, a2, a3, a4, a5, fun j hj => ?_, fun j p1 p2 => ez j p2, fun j hj => ?_⟩, ⟨fun t ht => ?_, ?_, ?_, ?_, ?_⟩, ⟨(e _ (by omega) (by omega) (by omega)).trans c1, (e _ (by omega) (by omega) (by omega)).trans c2, c3⟩⟩
  · show _ = fillI (vW v) 0 64 ((fi + j) % 64)
    rw [ez j (by omega), fillI_at, if_pos (by omega)]
  · rw [ez j hj, z]
    omega
  · have q1 : upd (vDe v) 4 (vDe v 4) t = vDe v t := pk_un (by omega)
    have q2 : upd (vGa v) 4 g t = vGa v t := pk_un (by omega)
    show (_ ∧ upd (vDe v) 4 (vDe v 4) t = 0) ∨ (_ ∧ _ = upd (vDe v) 4 (vDe v 4) t ∧ _ = upd (vGa v) 4 g t ∧ (-950 ≤ (upd (vGa v) 4 g t).toInt ∧ (upd (vGa v) 4 g t).toInt ≤ 950) ∧ ∃ d, upd (vDe v) 4 (vDe v 4) t = nI d ∧ 1 ≤ d ∧ d ≤ 64)
    rw [q1, q2, e (65 + t) (by omega) (by omega) (by omega), e (69 + t) (by omega) (by omega) (by omega), e (74 + t) (by omega) (by omega) (by omega)]
    exact b1 t ht
  · show _ = upd (vDe v) 4 (vDe v 4) 4
    rw [pk_us, e 73 (by omega) (by omega) (by omega)]
    exact b2
  · show _ = upd (vGa v) 4 g 4
    rw [pk_us, mi0_at (by omega), if_pos rfl]
  · show -950 ≤ (upd (vGa v) 4 g 4).toInt ∧ (upd (vGa v) 4 g 4).toInt ≤ 950
    rw [pk_us]
    exact hg
  · show ∃ d, upd (vDe v) 4 (vDe v 4) 4 = nI d ∧ 1 ≤ d ∧ d ≤ 64
    rw [pk_us]
    exact b3
theorem z20 : -30000 ≤ (20000 : Int32).toInt ∧ (20000 : Int32).toInt ≤ 30000 := by decide
theorem wqI_jr {v : SV} {f : Nat → Int32} {tk : Nat} (g : Int32) (h : JR v f tk) : ∀ n, JR (wqI v g n) f tk
  | 0 => jr_feed _ (jr_wq0 g h)
  | n + 1 => jr_feed _ (wqI_jr g h n)
theorem wqI_ok {v : SV} {p : PV} {tk : Nat} {g : Int32} (h : JR v (sl p.1 0) tk) (hg : -950 ≤ g.toInt ∧ g.toInt ≤ 950) : ∀ n, ∃ fi, SR3 (wqI v g n) (sl (miI p g n).1 5) tk fi
  | 0 => by
    obtain ⟨fi, h1⟩ := sr3_wq0 h hg
    exact ⟨_, sr3_go h1 z20⟩
  | n + 1 => by
    obtain ⟨fi, h1⟩ := wqI_ok h hg n
    exact ⟨_, sr3_go h1 z30⟩
theorem go5_0 (p : PV) (x : Int32) {k : Nat} (hk : 5 ≠ k) {j : Nat} (hj : j < 100) : sl (goP p 5 x).1 k j = sl p.1 k j := sl_slP_ne _ _ _ _ hk hj
theorem mec_ne (p : PV) (x : Int32) {k : Nat} (hk : 5 ≠ k) {j : Nat} (hj : j < 100) : ∀ n, sl (mEc p x n).1 k j = sl p.1 k j
  | 0 => go5_0 p x hk hj
  | n + 1 => (go5_0 _ 0 hk hj).trans (mec_ne p x hk hj n)
theorem vp_updL_un {su : Nat → Int64} {k i : Nat} {y : Int64} (h : k ≠ i) : vp_updL su k y i = su i := by
  unfold vp_updL
  exact if_neg (fun z => h z.symm)
theorem mec_su (p : PV) (x : Int32) {k : Nat} (hk : 5 ≠ k) : ∀ n, (mEc p x n).2 k = p.2 k
  | 0 => vp_updL_un hk
  | n + 1 => (vp_updL_un (su := (mEc p x n).2) hk).trans (mec_su p x hk n)
theorem mi0_ne (p : PV) (g : Int32) {k : Nat} (hk : 5 ≠ k) {j : Nat} (hj : j < 100) : sl (mi0 p g).1 k j = sl p.1 k j := by
  show upd (mZer p.1) 578 g (100 * k + j) = _
  rw [pk_un (by omega)]
  unfold mZer zfA
  rw [if_neg (by omega)]
  exact sl_slP_ne p.1 5 k (sl p.1 0) hk hj
theorem mii_ne (p : PV) (g : Int32) (n : Nat) {k : Nat} (hk : 5 ≠ k) {j : Nat} (hj : j < 100) : sl (miI p g n).1 k j = sl p.1 k j := (mec_ne _ _ hk hj n).trans (mi0_ne p g hk hj)
theorem mii_su (p : PV) (g : Int32) (n : Nat) {k : Nat} (hk : 5 ≠ k) : (miI p g n).2 k = p.2 k := (mec_su _ _ hk n).trans (vp_updL_un hk)
theorem wqB_ok {v : SV} {p : PV} {tk : Nat} {g a : Int32} (h : JR v (sl p.1 0) tk) (hg : -950 ≤ g.toInt ∧ g.toInt ≤ 950) (ha : 0 ≤ a.toInt) (n : Nat) : wqB v (64 - tk) g n a = miB p (64 - tk) g n a := by
  obtain ⟨fi, h1⟩ := wqI_ok h hg n
  have hm := gMost_le (f := sl (miI p g n).1 5) ha (64 - tk)
  have hl := cN_le (sl (miI p g n).1 5) a (64 - tk)
  unfold wqB miB
  rw [cnt_ring h1 a]
  by_cases c : gMost (sl (miI p g n).1 5) (64 - tk) ≤ a
  · rw [hm.mp c, decide_eq_false (p := a < gMost (sl (miI p g n).1 5) (64 - tk)) (fun z => by rw [i_lt] at z; rw [i_le] at c; omega)]
    rfl
  · rw [decide_eq_true (p := a < gMost (sl (miI p g n).1 5) (64 - tk)) (by rw [i_le] at c; rw [i_lt]; omega), decide_eq_false]
    · rfl
    · intro z
      have h2 := congrArg Int32.toInt z
      rw [nI_toInt (by omega)] at h2
      have z0 : (0 : Int32).toInt = 0 := rfl
      exact c (hm.mpr (by omega))
theorem mid_nI {lo hi : Nat} (h1 : lo ≤ 950) (h2 : hi ≤ 950) : (nI lo + nI hi + 1) / 2 = nI ((lo + hi + 1) / 2) := by
  have e : nI lo + nI hi + 1 = nI (lo + hi + 1) := by
    rw [nI_add, nI_succ]
  rw [e]
  apply Int32.toInt_inj.mp
  have z2 : (2 : Int32).toInt = 2 := rfl
  rw [Int32.toInt_div_of_ne_right _ _ (by decide), z2, nI_toInt (by omega), nI_toInt (by omega), Int.tdiv_eq_ediv_of_nonneg (by omega)]
  omega
theorem nI_gain {g : Nat} (h : g ≤ 950) : -950 ≤ (nI g).toInt ∧ (nI g).toInt ≤ 950 := by
  rw [nI_toInt (by omega)]
  omega
theorem sg_ok {tk k : Nat} {a : Int32} (ha : 0 ≤ a.toInt) : ∀ (d lo hi : Nat) (v : SV) (p : PV), lo ≤ 950 → hi ≤ 950 → JR v (sl p.1 0) tk → (sgRun (64 - tk) k a d (nI lo) (nI hi) v).1 = (mgRun (64 - tk) k a d lo hi p).1
  | 0, lo, hi, v, p, h1, h2, h => rfl
  | d + 1, lo, hi, v, p, h1, h2, h => by
    show (if nI hi ≤ nI lo then (nI lo, v) else if wqB v (64 - tk) ((nI lo + nI hi + 1) / 2) k a = true then sgRun (64 - tk) k a d ((nI lo + nI hi + 1) / 2) (nI hi) (wqI v ((nI lo + nI hi + 1) / 2) k) else sgRun (64 - tk) k a d (nI lo) ((nI lo + nI hi + 1) / 2 - 1) (wqI v ((nI lo + nI hi + 1) / 2) k)).1 = (if nI hi ≤ nI lo then (nI lo, p) else if miB p (64 - tk) (nI ((lo + hi + 1) / 2)) k a = true then mgRun (64 - tk) k a d ((lo + hi + 1) / 2) hi (miI p (nI ((lo + hi + 1) / 2)) k) else mgRun (64 - tk) k a d lo ((lo + hi + 1) / 2 - 1) (miI p (nI ((lo + hi + 1) / 2)) k)).1
    by_cases c : nI hi ≤ nI lo
    · rw [if_pos c, if_pos c]
    · have hlt : lo < hi := Nat.not_le.mp (fun z => c ((nI_leI (by omega) (by omega)).mpr z))
      have hM : (lo + hi + 1) / 2 ≤ 950 := by omega
      have hg := nI_gain hM
      rw [if_neg c, if_neg c, mid_nI h1 h2, wqB_ok h hg ha k]
      have hJ : JR (wqI v (nI ((lo + hi + 1) / 2)) k) (sl (miI p (nI ((lo + hi + 1) / 2)) k).1 0) tk := jr_congr (wqI_jr _ h k) (fun j hj => mii_ne p _ k (by decide) hj)
      by_cases q : miB p (64 - tk) (nI ((lo + hi + 1) / 2)) k a = true
      · rw [if_pos q, if_pos q]
        exact sg_ok ha d _ hi _ _ hM h2 hJ
      · rw [if_neg q, if_neg q, show nI ((lo + hi + 1) / 2) - 1 = nI ((lo + hi + 1) / 2 - 1) from natSub (a := (lo + hi + 1) / 2) (b := 1) (by omega)]
        exact sg_ok ha d lo _ _ _ h1 (by omega) hJ
theorem mg_ne {m k : Nat} {a : Int32} : ∀ (d lo hi : Nat) (p : PV) {i : Nat}, 5 ≠ i → (∀ j, j < 100 → sl (mgRun m k a d lo hi p).2.1 i j = sl p.1 i j) ∧ (mgRun m k a d lo hi p).2.2 i = p.2 i
  | 0, lo, hi, p, i, h => ⟨fun _ _ => rfl, rfl⟩
  | d + 1, lo, hi, p, i, h => by
    show (∀ j, j < 100 → sl (if nI hi ≤ nI lo then (nI lo, p) else if miB p m (nI ((lo + hi + 1) / 2)) k a = true then mgRun m k a d ((lo + hi + 1) / 2) hi (miI p (nI ((lo + hi + 1) / 2)) k) else mgRun m k a d lo ((lo + hi + 1) / 2 - 1) (miI p (nI ((lo + hi + 1) / 2)) k)).2.1 i j = sl p.1 i j) ∧ (if nI hi ≤ nI lo then (nI lo, p) else if miB p m (nI ((lo + hi + 1) / 2)) k a = true then mgRun m k a d ((lo + hi + 1) / 2) hi (miI p (nI ((lo + hi + 1) / 2)) k) else mgRun m k a d lo ((lo + hi + 1) / 2 - 1) (miI p (nI ((lo + hi + 1) / 2)) k)).2.2 i = p.2 i
    by_cases c : nI hi ≤ nI lo
    · rw [if_pos c]
      exact ⟨fun _ _ => rfl, rfl⟩
    · rw [if_neg c]
      by_cases q : miB p m (nI ((lo + hi + 1) / 2)) k a = true
      · rw [if_pos q]
        have ih := mg_ne (m := m) (k := k) (a := a) d ((lo + hi + 1) / 2) hi (miI p (nI ((lo + hi + 1) / 2)) k) h
        exact ⟨fun j hj => (ih.1 j hj).trans (mii_ne p _ k h hj), ih.2.trans (mii_su p _ k h)⟩
      · rw [if_neg q]
        have ih := mg_ne (m := m) (k := k) (a := a) d lo ((lo + hi + 1) / 2 - 1) (miI p (nI ((lo + hi + 1) / 2)) k) h
        exact ⟨fun j hj => (ih.1 j hj).trans (mii_ne p _ k h hj), ih.2.trans (mii_su p _ k h)⟩
theorem mq_ne {m : Nat} {a : Int32} : ∀ (d i0 : Nat) (p : PV) {i : Nat}, 5 ≠ i → (∀ j, j < 100 → sl (mqRun a m d i0 p).2.1 i j = sl p.1 i j) ∧ (mqRun a m d i0 p).2.2 i = p.2 i
  | 0, i0, p, i, h => ⟨fun _ _ => rfl, rfl⟩
  | d + 1, i0, p, i, h => by
    show (∀ j, j < 100 → sl (if gMost (sl p.1 5) m ≤ a then (nI i0, p) else mqRun a m d (i0 + 1) (goP p 5 0)).2.1 i j = sl p.1 i j) ∧ (if gMost (sl p.1 5) m ≤ a then (nI i0, p) else mqRun a m d (i0 + 1) (goP p 5 0)).2.2 i = p.2 i
    by_cases c : gMost (sl p.1 5) m ≤ a
    · rw [if_pos c]
      exact ⟨fun _ _ => rfl, rfl⟩
    · rw [if_neg c]
      have ih := mq_ne (m := m) (a := a) d (i0 + 1) (goP p 5 0) h
      exact ⟨fun j hj => (ih.1 j hj).trans (go5_0 p 0 h hj), ih.2.trans (vp_updL_un h)⟩
