/-! ===== class and reference: the whole relation ===== -/
def SX (v : SV) (s : Nat → Int32) (su : Nat → Int64) (k c : Nat) : Prop := ∃ tk fi a, a ≤ 30000 * c ∧ SR v (sl s k) (su k) tk fi a
def hAt (u : QV) (k : Nat) : SV := if k = 0 then qH0 u else if k = 1 then qH1 u else if k = 2 then qH2 u else qH3 u
def RH (u : QV) (s : Nat → Int32) (su : Nat → Int64) (n c : Nat) : Prop := n ≤ 4 ∧ qKe u = nI n ∧ ∃ o, o < 4 ∧ qOl u = nI o ∧ ∀ j, j < n → SX (hAt u ((o + j) % 4)) s su (j + 1) c
def RT (u : QV) (tx : Nat → Int32) (ny : Nat) : Prop := ny ≤ 60 ∧ qTl u = nI ny ∧ ∀ j, j < ny → qCh u j = tx j ∧ 32 ≤ (tx j).toInt ∧ (tx j).toInt ≤ 126
def RQ (u : QV) (s : Nat → Int32) (su : Nat → Int64) (n : Nat) (tx : Nat → Int32) (ny c : Nat) : Prop := SX (qNow u) s su 0 c ∧ RH u s su n c ∧ RT u tx ny
theorem nI_eqI {a b : Nat} (ha : a < 2 ^ 31) (hb : b < 2 ^ 31) : nI a = nI b ↔ a = b := by
  constructor
  · intro h
    have h1 := congrArg Int32.toInt h
    rw [nI_toInt ha, nI_toInt hb] at h1
    omega
  · intro h
    rw [h]
theorem if_cg {b d : Prop} [Decidable b] [Decidable d] (h : b ↔ d) (x y : SV) : (if b then x else y) = if d then x else y := by
  by_cases q : b
  · rw [if_pos q, if_pos (h.mp q)]
  · rw [if_neg q, if_neg (fun z => q (h.mpr z))]
theorem sx_mono {v : SV} {s : Nat → Int32} {su : Nat → Int64} {k c c2 : Nat} (hc : c ≤ c2) (h : SX v s su k c) : SX v s su k c2 := by
  obtain ⟨tk, fi, a, h1, h2⟩ := h
  exact ⟨tk, fi, a, by omega, h2⟩
theorem sx_slot {v : SV} {s s2 : Nat → Int32} {su su2 : Nat → Int64} {k k2 c : Nat} (h : SX v s su k c) (e : ∀ j, j < 100 → sl s2 k2 j = sl s k j) (eu : su2 k2 = su k) : SX v s2 su2 k2 c := by
  obtain ⟨tk, fi, a, h1, h2⟩ := h
  refine ⟨tk, fi, a, h1, ?_⟩
  rw [eu]
  exact sr_congr h2 e
theorem sx_cp {v : SV} {s : Nat → Int32} {su : Nat → Int64} {p q c : Nat} (h : SX v s su p c) : SX v (mCp s p q) (mCu su p q) q c := by
  obtain ⟨tk, fi, a, h1, h2⟩ := h
  exact ⟨tk, fi, a, h1, mcp_ok h2⟩
theorem sx_ne {v : SV} {s : Nat → Int32} {su : Nat → Int64} {p q r c : Nat} (hr : q ≠ r) (h : SX v s su r c) : SX v (mCp s p q) (mCu su p q) r c := by
  obtain ⟨tk, fi, a, h1, h2⟩ := h
  exact ⟨tk, fi, a, h1, mcp_ne hr h2⟩
theorem sx_cpy {v w : SV} {s : Nat → Int32} {su : Nat → Int64} {k c : Nat} (h : SX v s su k c) : SX (sCpy w v) s su k c := by
  obtain ⟨tk, fi, a, h1, h2⟩ := h
  exact ⟨tk, fi, a, h1, cpy_ok h2⟩
theorem rq_slots {u : QV} {s s2 : Nat → Int32} {su su2 : Nat → Int64} {n ny c c2 : Nat} {tx : Nat → Int32} (h : RQ u s su n tx ny c) (hc : c ≤ c2) (e : ∀ k, k ≤ 4 → ∀ j, j < 100 → sl s2 k j = sl s k j) (eu : ∀ k, k ≤ 4 → su2 k = su k) : RQ u s2 su2 n tx ny c2 := by
  obtain ⟨h0, ⟨hn, hke, o, ho, hol, hh⟩, ht⟩ := h
  exact ⟨sx_mono hc (sx_slot h0 (e 0 (by omega)) (eu 0 (by omega))), ⟨hn, hke, o, ho, hol, fun j hj => sx_mono hc (sx_slot (hh j hj) (e _ (by omega)) (eu _ (by omega)))⟩, ht⟩
theorem rq_mono {u : QV} {s : Nat → Int32} {su : Nat → Int64} {n ny c c2 : Nat} {tx : Nat → Int32} (h : RQ u s su n tx ny c) (hc : c ≤ c2) : RQ u s su n tx ny c2 := rq_slots h hc (fun _ _ _ _ => rfl) (fun _ _ => rfl)
theorem jfm_nI4 (a : Nat) (h : a < 1000) : jfm (nI a) 4 = nI (a % 4) := by
  apply Int32.toInt_inj.mp
  have e : (4 : Int32).toInt = 4 := rfl
  rw [jfm_toInt (by decide) (by decide), nI_toInt (by omega), nI_toInt (by omega), e]
  omega
theorem keep_lt {o n : Nat} (ho : o < 4) (hn : n < 4) : kOl (nI o) (nI n) = nI o ∧ kKe (nI n) = nI n ∧ kIx (nI o) (nI n) = nI ((o + n) % 4) := by
  have hl : nI n < 4 := (nI_ltI (b := 4) (by omega) (by omega)).mpr hn
  have e1 : kOl (nI o) (nI n) = nI o := if_pos hl
  have e2 : kKe (nI n) = nI n := if_pos hl
  refine ⟨e1, e2, ?_⟩
  unfold kIx
  rw [e1, e2, nI_add, jfm_nI4 _ (by omega)]
theorem keep_4 {o : Nat} (ho : o < 4) : kOl (nI o) (nI 4) = nI ((o + 1) % 4) ∧ kKe (nI 4) = nI 3 ∧ kIx (nI o) (nI 4) = nI o := by
  have hl : ¬ nI 4 < 4 := by decide
  have e1 : kOl (nI o) (nI 4) = nI ((o + 1) % 4) := by
    refine (if_neg hl).trans ?_
    rcases (by omega : o = 0 ∨ o = 1 ∨ o = 2 ∨ o = 3) with rfl | rfl | rfl | rfl <;> decide
  have e2 : kKe (nI 4) = nI 3 := if_neg hl
  refine ⟨e1, e2, ?_⟩
  unfold kIx
  rw [e1, e2, nI_add, jfm_nI4 _ (by omega)]
  congr 1
  omega
theorem hAt_keep {u : QV} {m k : Nat} (hm : kIx (qOl u) (qKe u) = nI m) (hm4 : m < 4) (hk : k < 4) : hAt (qKeep u) k = if k = m then sCpy (hAt u k) (qNow u) else hAt u k := by
  rcases (by omega : k = 0 ∨ k = 1 ∨ k = 2 ∨ k = 3) with rfl | rfl | rfl | rfl
  · show kp 0 (qOl u) (qKe u) (qH0 u) (qNow u) = if 0 = m then sCpy (qH0 u) (qNow u) else qH0 u
    unfold kp
    rw [hm]
    exact if_cg ((nI_eqI (b := 0) (by omega) (by omega)).trans eq_comm) _ _
  · show kp 1 (qOl u) (qKe u) (qH1 u) (qNow u) = if 1 = m then sCpy (qH1 u) (qNow u) else qH1 u
    unfold kp
    rw [hm]
    exact if_cg ((nI_eqI (b := 1) (by omega) (by omega)).trans eq_comm) _ _
  · show kp 2 (qOl u) (qKe u) (qH2 u) (qNow u) = if 2 = m then sCpy (qH2 u) (qNow u) else qH2 u
    unfold kp
    rw [hm]
    exact if_cg ((nI_eqI (b := 2) (by omega) (by omega)).trans eq_comm) _ _
  · show kp 3 (qOl u) (qKe u) (qH3 u) (qNow u) = if 3 = m then sCpy (qH3 u) (qNow u) else qH3 u
    unfold kp
    rw [hm]
    exact if_cg ((nI_eqI (b := 3) (by omega) (by omega)).trans eq_comm) _ _
theorem act_4 {r : Int32} (hr : ¬ r ≤ -1000001) (s : Nat → Int32) (su : Nat → Int64) : mActS r 4 s = mCp (mCp (mCp (mCp s 2 1) 3 2) 4 3) 6 4 ∧ mActU r 4 su = mCu (mCu (mCu (mCu su 2 1) 3 2) 4 3) 6 4 ∧ mActN r 4 = 4 :=
  ⟨(if_neg hr).trans (if_pos rfl), (if_neg hr).trans (if_pos rfl), (if_neg hr).trans (if_pos rfl)⟩
theorem act_lt {r : Int32} {n : Nat} (hr : ¬ r ≤ -1000001) (hn : n < 4) (s : Nat → Int32) (su : Nat → Int64) : mActS r n s = mCp s 6 (n + 1) ∧ mActU r n su = mCu su 6 (n + 1) ∧ mActN r n = n + 1 := by
  have h4 : ¬ nI n = 4 := fun z => by
    have := (nI_eqI (b := 4) (by omega) (by omega)).mp z
    omega
  exact ⟨(if_neg hr).trans (if_neg h4), (if_neg hr).trans (if_neg h4), (if_neg hr).trans (if_neg h4)⟩
theorem act_err {r : Int32} {n : Nat} (hr : r ≤ -1000001) (s : Nat → Int32) (su : Nat → Int64) : mActS r n s = s ∧ mActU r n su = su ∧ mActN r n = n := ⟨if_pos hr, if_pos hr, if_pos hr⟩
theorem rq_ch {u : QV} {w : SV} {s s1 : Nat → Int32} {su su1 : Nat → Int64} {n ny c : Nat} {tx : Nat → Int32} {r : Int32} (h : RQ u s su n tx ny c) (hr : ¬ r ≤ -1000001) (h0 : SX w s1 su1 0 (c + 1)) (m : ∀ q, 100 ≤ q → s1 q = kS s q) (mu : ∀ k, 0 < k → su1 k = kU su k) : RQ (qSN (qKeep u) w) (mActS r n s1) (mActU r n su1) (mActN r n) tx ny (c + 1) := by
  obtain ⟨hn0, ⟨hn, hke, o, ho, hol, hh⟩, ht⟩ := h
  have now6 : SX (qNow u) s1 su1 6 (c + 1) := sx_mono (by omega) (sx_slot hn0 (fun j hj => (m (100 * 6 + j) (by omega)).trans (sl_slP s 6 (sl s 0) hj)) ((mu 6 (by omega)).trans (vp_updL_at su 6 (su 0))))
  have old : ∀ j, j < n → SX (hAt u ((o + j) % 4)) s1 su1 (j + 1) (c + 1) := fun j hj => sx_mono (by omega) (sx_slot (hh j hj) (fun i hi => (m (100 * (j + 1) + i) (by omega)).trans (sl_slP_ne s 6 (j + 1) (sl s 0) (by omega) hi)) ((mu (j + 1) (by omega)).trans (vp_updL_un (by omega))))
  by_cases n4 : n = 4
  · subst n4
    obtain ⟨k1, k2, k3⟩ := keep_4 ho
    obtain ⟨a1, a2, a3⟩ := act_4 hr s1 su1
    rw [a1, a2, a3]
    refine ⟨sx_ne (by decide) (sx_ne (by decide) (sx_ne (by decide) (sx_ne (by decide) h0))), ⟨by omega, ?_, (o + 1) % 4, by omega, ?_, fun j hj => ?_⟩, ht⟩
    · show kKe (qKe u) + 1 = _
      rw [hke, k2]
      rfl
    · show kOl (qOl u) (qKe u) = _
      rw [hol, hke, k1]
    · show SX (hAt (qKeep u) (((o + 1) % 4 + j) % 4)) _ _ (j + 1) (c + 1)
      rw [hAt_keep (m := o) (by rw [hol, hke, k3]) ho (by omega)]
      have e : ∀ i, i < 4 → ((o + 1) % 4 + i) % 4 = (o + (i + 1)) % 4 := fun i _ => by omega
      rcases (by omega : j = 0 ∨ j = 1 ∨ j = 2 ∨ j = 3) with rfl | rfl | rfl | rfl
      · rw [if_neg (by omega), e 0 (by omega)]
        exact sx_ne (by decide) (sx_ne (by decide) (sx_ne (by decide) (sx_cp (old 1 (by omega)))))
      · rw [if_neg (by omega), e 1 (by omega)]
        exact sx_ne (by decide) (sx_ne (by decide) (sx_cp (sx_ne (by decide) (old 2 (by omega)))))
      · rw [if_neg (by omega), e 2 (by omega)]
        exact sx_ne (by decide) (sx_cp (sx_ne (by decide) (sx_ne (by decide) (old 3 (by omega)))))
      · rw [if_pos (by omega)]
        exact sx_cpy (sx_cp (sx_ne (by decide) (sx_ne (by decide) (sx_ne (by decide) now6))))
  · obtain ⟨k1, k2, k3⟩ := keep_lt ho (show n < 4 by omega)
    obtain ⟨a1, a2, a3⟩ := act_lt hr (show n < 4 by omega) s1 su1
    rw [a1, a2, a3]
    refine ⟨sx_ne (by omega) h0, ⟨by omega, ?_, o, ho, ?_, fun j hj => ?_⟩, ht⟩
    · show kKe (qKe u) + 1 = _
      rw [hke, k2, nI_succ]
    · show kOl (qOl u) (qKe u) = _
      rw [hol, hke, k1]
    · show SX (hAt (qKeep u) ((o + j) % 4)) _ _ (j + 1) (c + 1)
      rw [hAt_keep (m := (o + n) % 4) (by rw [hol, hke, k3]) (by omega) (by omega)]
      by_cases e : j = n
      · subst e
        rw [if_pos rfl]
        exact sx_cpy (sx_cp now6)
      · rw [if_neg (by omega)]
        exact sx_ne (by omega) (old j (by omega))
theorem rq_er {u : QV} {s s1 : Nat → Int32} {su su1 : Nat → Int64} {n ny c : Nat} {tx : Nat → Int32} {r : Int32} (h : RQ u s su n tx ny c) (hr : r ≤ -1000001) (m : s1 = kS s) (mu : su1 = kU su) : RQ u (mActS r n s1) (mActU r n su1) (mActN r n) tx ny (c + 1) := by
  obtain ⟨a1, a2, a3⟩ := act_err (n := n) hr s1 su1
  rw [a1, a2, a3, m, mu]
  exact rq_slots h (by omega) (fun k hk j hj => sl_slP_ne s 6 k (sl s 0) (by omega) hj) (fun k hk => vp_updL_un (by omega))
theorem rsN_eq {u : QV} {m : Nat} (hm : rIxH (qOl u) (qKe u) = nI m) (hm4 : m < 4) : rsN (qOl u) (qKe u) (qNow u) (qH0 u) (qH1 u) (qH2 u) (qH3 u) = sCpy (qNow u) (hAt u m) := by
  unfold rsN
  rw [hm]
  rcases (by omega : m = 0 ∨ m = 1 ∨ m = 2 ∨ m = 3) with rfl | rfl | rfl | rfl
  · exact if_pos rfl
  · exact (if_neg (by decide)).trans (if_pos rfl)
  · exact (if_neg (by decide)).trans ((if_neg (by decide)).trans (if_pos rfl))
  · exact (if_neg (by decide)).trans ((if_neg (by decide)).trans (if_neg (by decide)))
theorem und_ok {u : QV} {s : Nat → Int32} {su : Nat → Int64} {n ny c : Nat} {tx : Nat → Int32} (h : RQ u s su n tx ny c) : rUnd u = mUndR n ∧ RQ (qUnd u) (mUndS s n) (mUndU su n) (mUndN n) tx ny (c + 1) := by
  have h' := h
  obtain ⟨hn0, ⟨hn, hke, o, ho, hol, hh⟩, ht⟩ := h
  unfold rUnd qUnd mUndR mUndS mUndU mUndN
  rw [hke]
  by_cases e : n = 0
  · subst e
    rw [if_pos (show nI 0 = 0 from rfl), if_pos (show nI 0 = 0 from rfl), if_pos (show nI 0 = 0 from rfl), if_pos (show nI 0 = 0 from rfl), if_pos (show nI 0 = 0 from rfl), if_pos (show nI 0 = 0 from rfl)]
    exact ⟨rfl, rq_mono h' (by omega)⟩
  · have h0 : ¬ nI n = 0 := fun z => e ((nI_eqI (b := 0) (by omega) (by omega)).mp z)
    have hs : nI n - 1 = nI (n - 1) := natSub (a := n) (b := 1) (by omega)
    have hx : rIxH (qOl u) (qKe u) = nI ((o + (n - 1)) % 4) := by
      unfold rIxH
      rw [hol, hke, hs, nI_add, jfm_nI4 _ (by omega)]
    rw [if_neg h0, if_neg h0, if_neg h0, if_neg h0, if_neg h0, if_neg h0]
    refine ⟨hs, ?_, ⟨by omega, ?_, o, ho, hol, fun j hj => sx_mono (by omega) (sx_ne (by omega) (hh j (by omega)))⟩, ht⟩
    · show SX (rsN (qOl u) (qKe u) (qNow u) (qH0 u) (qH1 u) (qH2 u) (qH3 u)) _ _ 0 _
      rw [rsN_eq hx (by omega)]
      have hl := hh (n - 1) (by omega)
      rw [show n - 1 + 1 = n by omega] at hl
      exact sx_mono (by omega) (sx_cpy (sx_cp hl))
    · show qKe u - 1 = _
      rw [hke, hs]
