/-! ===== the reference's row of slots ===== -/
theorem natAdd {a b c : Nat} (h : a + b = c) : nI a + nI b = nI c := by rw [nI_add, h]
theorem natSub {a b c : Nat} (h : c + b = a) : nI a - nI b = nI c := by rw [← h, pk_sub (Nat.le_add_left b c), Nat.add_sub_cancel]
theorem natMul {a b c : Nat} (h : a * b = c) : nI a * nI b = nI c := by rw [pk_mul, h]
theorem nIz {n : Nat} (h : n = 0) : ¬ ¬ nI n ≤ 0 := by subst h; decide
abbrev sl (s : Nat → Int32) (k : Nat) : Nat → Int32 := fun j => s (100 * k + j)
def slP (s : Nat → Int32) (k : Nat) (f : Nat → Int32) : Nat → Int32 := fun q => if 100 * k ≤ q ∧ q < 100 * k + 100 then f (q - 100 * k) else s q
def mCp (s : Nat → Int32) (a b : Nat) : Nat → Int32 := slP s b (sl s a)
def mCu (su : Nat → Int64) (a b : Nat) : Nat → Int64 := vp_updL su b (su a)
def cpN (s : Nat → Int32) (a b i : Nat) : Nat → Int32 := fun q => if 100 * b ≤ q ∧ q < 100 * b + i then s (q - 100 * b + 100 * a) else s q
theorem cpN_0 (s : Nat → Int32) (a b : Nat) : cpN s a b 0 = s := by
  funext q
  unfold cpN
  rw [if_neg (by omega)]
theorem cpN_step (s : Nat → Int32) (a b i : Nat) (hi : i < 100) : upd (cpN s a b i) (100 * b + i) (cpN s a b i (100 * a + i)) = cpN s a b (i + 1) := by
  funext q
  unfold upd cpN
  by_cases h : q = 100 * b + i
  · subst h
    rw [if_pos rfl, if_neg (by omega), if_pos (by omega)]
    congr 1
    omega
  · rw [if_neg h]
    by_cases h2 : 100 * b ≤ q ∧ q < 100 * b + i
    · rw [if_pos h2, if_pos (by omega)]
    · rw [if_neg h2, if_neg (by omega)]
theorem cpN_end (s : Nat → Int32) (a b : Nat) : cpN s a b 100 = mCp s a b := by
  funext q
  unfold cpN mCp slP sl
  by_cases h2 : 100 * b ≤ q ∧ q < 100 * b + 100
  · rw [if_pos h2, if_pos h2]
    congr 1
    omega
  · rw [if_neg h2, if_neg h2]
def amt (x : Int32) : Int32 := if 0 ≤ x then x else -x
def gLost (f : Nat → Int32) (t : Nat) : Bool := !decide (f (69 + t) ≤ 64 - f 64)
def gRead (f : Nat → Int32) (t : Nat) : Int32 := if gLost f t = true then 0 else f ((f (69 + t)).toNatClampNeg - 1)
def gShare (f : Nat → Int32) (t : Nat) : Int32 := f (74 + t) * gRead f t / 1000
def gShp (f : Nat → Int32) (x : Int32) : Int32 :=
  let own := amt x
  let h := f 79 / 2
  let t1 := if own ≤ h then own else h + (own - h) / 2
  let th := if f 80 = 0 then (if own ≤ f 79 then own else f 79) else if f 80 = 1 then (if t1 ≤ f 79 then t1 else f 79) else (if own ≤ f 79 then own else 0)
  if 0 ≤ x then th else -th
def gSum (f : Nat → Int32) (x : Int32) : Nat → Int32
  | 0 => x
  | n + 1 => gSum f x n + (if f (65 + n) = 1 then gShare f n else 0)
def gRg (f : Nat → Int32) (x : Int32) : Int32 := x + gShare f 4
def gOut (f : Nat → Int32) (x : Int32) : Int32 := gShp f (gSum f x 4)
def gWrt (f : Nat → Int32) (x : Int32) : Int32 := gShp f (gRg f x)
/-- all between lo and hi one place on -/
def shA (s : Nat → Int32) (lo hi : Nat) : Nat → Int32 := fun q => if lo < q ∧ q ≤ hi then s (q - 1) else s q
theorem shA_0 (s : Nat → Int32) (lo : Nat) : shA s lo lo = s := by
  funext q
  unfold shA
  rw [if_neg (by omega)]
theorem shA_step {s : Nat → Int32} {lo hi p p' lo' : Nat} (h1 : p = lo) (h2 : p' + 1 = lo) (h3 : lo' + 1 = lo) (h4 : lo ≤ hi) : upd (shA s lo hi) p (shA s lo hi p') = shA s lo' hi := by
  subst h1
  funext q
  unfold upd shA
  by_cases h : q = p
  · subst h
    rw [if_pos rfl, if_neg (by omega), if_pos (by omega)]
    congr 1
    omega
  · rw [if_neg h]
    by_cases h5 : p < q ∧ q ≤ hi
    · rw [if_pos h5, if_pos (by omega)]
    · rw [if_neg h5, if_neg (by omega)]
def gS1 (s : Nat → Int32) (k : Nat) (x : Int32) : Nat → Int32 := upd s (100 * k + 83) (s (100 * k + 83) + (if gOut (sl s k) x = gSum (sl s k) x 4 then 0 else 1))
def gS2 (s : Nat → Int32) (k : Nat) (x : Int32) : Nat → Int32 := upd (gS1 s k x) (100 * k + 84) (gS1 s k x (100 * k + 84) + (if gWrt (sl s k) x = gRg (sl s k) x then 0 else 1))
def gS3 (s : Nat → Int32) (k : Nat) (x : Int32) (tk : Nat) : Nat → Int32 := shA (gS2 s k x) (100 * k) (100 * k + (64 - tk - 1))
def gS4 (s : Nat → Int32) (k : Nat) (x : Int32) (tk : Nat) : Nat → Int32 := upd (gS3 s k x tk) (100 * k) (gWrt (sl s k) x)
def gS5 (s : Nat → Int32) (k : Nat) (x : Int32) (tk : Nat) : Nat → Int32 := upd (gS4 s k x tk) (100 * k + 81) (gS4 s k x tk (100 * k + 81) + 1)
def gS6 (s : Nat → Int32) (k : Nat) (x : Int32) (tk : Nat) : Nat → Int32 := upd (gS5 s k x tk) (100 * k + 82) (if amt (gOut (sl s k) x) ≤ gS5 s k x tk (100 * k + 82) then gS5 s k x tk (100 * k + 82) else amt (gOut (sl s k) x))
def gS7 (s : Nat → Int32) (k : Nat) (x : Int32) (tk : Nat) : Nat → Int32 := shA (gS6 s k x tk) (100 * k + 85) (100 * k + 96)
def gS8 (s : Nat → Int32) (k : Nat) (x : Int32) (tk : Nat) : Nat → Int32 := upd (gS7 s k x tk) (100 * k + 85) (gOut (sl s k) x)
def gS9 (s : Nat → Int32) (k : Nat) (x : Int32) (tk : Nat) : Nat → Int32 := upd (gS8 s k x tk) (100 * k + 97) (gS8 s k x tk (100 * k + 97) + (if 12 ≤ gS8 s k x tk (100 * k + 97) then 0 else 1))
/-- a slot behind a sample -/
def gNx (f : Nat → Int32) (x : Int32) : Nat → Int32 := fun j =>
  if j = 0 then gWrt f x
  else if j < 64 then (if j < 64 - (f 64).toNatClampNeg then f (j - 1) else f j)
  else if j = 81 then f 81 + 1
  else if j = 82 then (if amt (gOut f x) ≤ f 82 then f 82 else amt (gOut f x))
  else if j = 83 then f 83 + (if gOut f x = gSum f x 4 then 0 else 1)
  else if j = 84 then f 84 + (if gWrt f x = gRg f x then 0 else 1)
  else if j = 85 then gOut f x
  else if 85 < j ∧ j < 97 then f (j - 1)
  else if j = 97 then f 97 + (if 12 ≤ f 97 then 0 else 1)
  else f j
theorem shA_in {s : Nat → Int32} {lo hi q : Nat} (h1 : lo < q) (h2 : q ≤ hi) : shA s lo hi q = s (q - 1) := by
  unfold shA
  exact if_pos ⟨h1, h2⟩
theorem shA_out {s : Nat → Int32} {lo hi q : Nat} (h : ¬ (lo < q ∧ q ≤ hi)) : shA s lo hi q = s q := by
  unfold shA
  exact if_neg h
theorem gS9_eq (s : Nat → Int32) (k : Nat) (x : Int32) (tk : Nat) (h : s (100 * k + 64) = nI tk) (ht : tk ≤ 48) : gS9 s k x tk = slP s k (gNx (sl s k) x) := by
  have hc : (sl s k 64).toNatClampNeg = tk := by
    show (s (100 * k + 64)).toNatClampNeg = tk
    rw [h]
    exact nI_clamp (by omega)
  have e1 : ∀ q, q ≠ 100 * k + 83 → gS1 s k x q = s q := fun q z => pk_un z
  have e2 : ∀ q, q ≠ 100 * k + 84 → gS2 s k x q = gS1 s k x q := fun q z => pk_un z
  have e3 : ∀ q, ¬ (100 * k < q ∧ q ≤ 100 * k + (64 - tk - 1)) → gS3 s k x tk q = gS2 s k x q := fun q z => shA_out z
  have e4 : ∀ q, q ≠ 100 * k → gS4 s k x tk q = gS3 s k x tk q := fun q z => pk_un z
  have e5 : ∀ q, q ≠ 100 * k + 81 → gS5 s k x tk q = gS4 s k x tk q := fun q z => pk_un z
  have e6 : ∀ q, q ≠ 100 * k + 82 → gS6 s k x tk q = gS5 s k x tk q := fun q z => pk_un z
  have e7 : ∀ q, ¬ (100 * k + 85 < q ∧ q ≤ 100 * k + 96) → gS7 s k x tk q = gS6 s k x tk q := fun q z => shA_out z
  have e8 : ∀ q, q ≠ 100 * k + 85 → gS8 s k x tk q = gS7 s k x tk q := fun q z => pk_un z
  have e9 : ∀ q, q ≠ 100 * k + 97 → gS9 s k x tk q = gS8 s k x tk q := fun q z => pk_un z
  have d96 : ∀ q, q ≠ 100 * k + 97 → q ≠ 100 * k + 85 → ¬ (100 * k + 85 < q ∧ q ≤ 100 * k + 96) → gS9 s k x tk q = gS6 s k x tk q := fun q a b c => (e9 q a).trans ((e8 q b).trans (e7 q c))
  have d61 : ∀ q, q ≠ 100 * k + 82 → q ≠ 100 * k + 81 → q ≠ 100 * k → ¬ (100 * k < q ∧ q ≤ 100 * k + (64 - tk - 1)) → q ≠ 100 * k + 84 → q ≠ 100 * k + 83 → gS6 s k x tk q = s q := fun q a b c d e f => (e6 q a).trans ((e5 q b).trans ((e4 q c).trans ((e3 q d).trans ((e2 q e).trans (e1 q f)))))
  funext q
  by_cases hq : 100 * k ≤ q ∧ q < 100 * k + 100
  · obtain ⟨j, rfl⟩ := Nat.exists_eq_add_of_le hq.1
    have hj : j < 100 := by omega
    unfold slP
    rw [if_pos hq, Nat.add_sub_cancel_left]
    unfold gNx
    rw [hc]
    by_cases c0 : j = 0
    · subst c0
      rw [if_pos rfl, d96 _ (by omega) (by omega) (by omega), e6 _ (by omega), e5 _ (by omega)]
      exact pk_us
    rw [if_neg c0]
    by_cases c1 : j < 64
    · rw [if_pos c1]
      by_cases c2 : j < 64 - tk
      · rw [if_pos c2, d96 _ (by omega) (by omega) (by omega), e6 _ (by omega), e5 _ (by omega), e4 _ (by omega)]
        refine (shA_in (by omega) (by omega)).trans ?_
        rw [e2 _ (by omega), e1 _ (by omega)]
        exact congrArg s (by omega)
      · rw [if_neg c2, d96 _ (by omega) (by omega) (by omega), d61 _ (by omega) (by omega) (by omega) (by omega) (by omega) (by omega)]
    rw [if_neg c1]
    by_cases c81 : j = 81
    · subst c81
      rw [if_pos rfl, d96 _ (by omega) (by omega) (by omega), e6 _ (by omega)]
      refine pk_us.trans ?_
      rw [e4 _ (by omega), e3 _ (by omega), e2 _ (by omega), e1 _ (by omega)]
    rw [if_neg c81]
    by_cases c82 : j = 82
    · subst c82
      rw [if_pos rfl, d96 _ (by omega) (by omega) (by omega)]
      refine pk_us.trans ?_
      rw [e5 _ (by omega), e4 _ (by omega), e3 _ (by omega), e2 _ (by omega), e1 _ (by omega)]
    rw [if_neg c82]
    by_cases c83 : j = 83
    · subst c83
      rw [if_pos rfl, d96 _ (by omega) (by omega) (by omega), e6 _ (by omega), e5 _ (by omega), e4 _ (by omega), e3 _ (by omega), e2 _ (by omega)]
      exact pk_us
    rw [if_neg c83]
    by_cases c84 : j = 84
    · subst c84
      rw [if_pos rfl, d96 _ (by omega) (by omega) (by omega), e6 _ (by omega), e5 _ (by omega), e4 _ (by omega), e3 _ (by omega)]
      refine pk_us.trans ?_
      rw [e1 _ (by omega)]
    rw [if_neg c84]
    by_cases c85 : j = 85
    · subst c85
      rw [if_pos rfl, e9 _ (by omega)]
      exact pk_us
    rw [if_neg c85]
    by_cases c96 : 85 < j ∧ j < 97
    · rw [if_pos c96, e9 _ (by omega), e8 _ (by omega)]
      refine (shA_in (by omega) (by omega)).trans ?_
      rw [d61 _ (by omega) (by omega) (by omega) (by omega) (by omega) (by omega)]
      exact congrArg s (by omega)
    rw [if_neg c96]
    by_cases c97 : j = 97
    · subst c97
      rw [if_pos rfl]
      refine pk_us.trans ?_
      rw [e8 _ (by omega), e7 _ (by omega), d61 _ (by omega) (by omega) (by omega) (by omega) (by omega) (by omega)]
    rw [if_neg c97, d96 _ (by omega) (by omega) (by omega), d61 _ (by omega) (by omega) (by omega) (by omega) (by omega) (by omega)]
  · unfold slP
    rw [if_neg hq, d96 _ (by omega) (by omega) (by omega), d61 _ (by omega) (by omega) (by omega) (by omega) (by omega) (by omega)]
def gSu (su : Nat → Int64) (s : Nat → Int32) (k : Nat) (x : Int32) : Nat → Int64 := vp_updL su k (su k + (amt (gOut (sl s k) x)).toInt64)
set_option maxRecDepth 100000 in
set_option maxHeartbeats 4000000 in
theorem c_X9_in (E : XE) (N : Nat) (G : GW) (x lo_ hi_ : Int32) : MF E yX9_in cX9_in 3 (some .boolean) 0 0 0 0 [.int x, .int lo_, .int hi_] N (G) (some (.int (bI (inR x lo_ hi_)))) (G) := by
  refine MF.mk RX9 rfl (by decide +kernel) rfl (fun K C Z hin hN => ?_)
  show XW E K 3 N 0 0 _ 0 [(0, .int x), (1, .int lo_), (2, .int hi_)] []
  refine x_iload_n C dX9_in_0 0 rfl ?_
  refine x_iload_n C dX9_in_1 1 rfl ?_
  refine x_icmp_lt C 14 dX9_in_2 rfl (fun c2 => ?_) (fun c2 => ?_)
  · refine x_iconst C 0 dX9_in_14 rfl ?_
    exact x_iret C Z rfl rfl (by simp [bI, inR, c2]) rfl dX9_in_15
  · refine x_iload_n C dX9_in_5 0 rfl ?_
    refine x_iload_n C dX9_in_6 2 rfl ?_
    refine x_icmp_gt C 14 dX9_in_7 rfl (fun c7 => ?_) (fun c7 => ?_)
    · refine x_iconst C 0 dX9_in_14 rfl ?_
      exact x_iret C Z rfl rfl (by simp [bI, inR, c2, c7]) rfl dX9_in_15
    · refine x_iconst C 1 dX9_in_10 rfl ?_
      refine x_goto C 15 dX9_in_11 rfl ?_
      exact x_iret C Z rfl rfl (by simp [bI, inR, c2, c7]) rfl dX9_in_15

set_option maxRecDepth 100000 in
set_option maxHeartbeats 4000000 in
theorem c_X9_amount (E : XE) (N : Nat) (G : GW) (x : Int32) : MF E yX9_amount cX9_amount 1 (some .int) 0 0 0 0 [.int x] N (G) (some (.int (amt x))) (G) := by
  refine MF.mk RX9 rfl (by decide +kernel) rfl (fun K C Z hin hN => ?_)
  show XW E K 1 N 0 0 _ 0 [(0, .int x)] []
  refine x_iload_n C dX9_amount_0 0 rfl ?_
  refine x_if_ge C 9 dX9_amount_1 rfl (fun c1 => ?_) (fun c1 => ?_)
  · refine x_iload_n C dX9_amount_9 0 rfl ?_
    exact x_iret C Z rfl rfl (by simp [amt, c1]) rfl dX9_amount_10
  · refine x_iload_n C dX9_amount_4 0 rfl ?_
    refine x_ineg C dX9_amount_5 ?_
    refine x_goto C 10 dX9_amount_6 rfl ?_
    exact x_iret C Z rfl rfl (by simp [amt, c1]) rfl dX9_amount_10

set_option maxRecDepth 100000 in
set_option maxHeartbeats 4000000 in
theorem c_X9_copies (E : XE) (N m : Nat) (G : GW) (s : Nat → Int32) (su : Nat → Int64) (st : Int32) (tx : Nat → Int32) (ty re ca at_ : Int32) (to : Nat → Int32) (a b : Nat) (ha : a < 7) (hb : b < 7) (hb_m : xB E ≤ m) (hn_m : m + 5 ≤ N) : MF E yX9_copies cX9_copies 4 none 0 0 0 0 [.ref m, .int (nI a), .int (nI b)] N (ov m (mC E m s su st tx ty re ca at_ to) G) none (ov m (mC E m (mCp s a b) (mCu su a b) st tx ty re ca at_ to) G) := by
  refine MF.mk RX9 rfl (by decide +kernel) rfl (fun K C Z hin hN => ?_)
  show XW E K 4 N 0 0 _ 0 [(0, .ref m), (1, .int (nI a)), (2, .int (nI b))] []
  refine x_iconst C 0 dX9_copies_0 rfl ?_
  refine x_istore_n (L' := [(3, .int 0), (0, .ref m), (1, .int (nI a)), (2, .int (nI b))]) C dX9_copies_1 rfl rfl ?_
  refine x_perm (L' := [(0, .ref m), (1, .int (nI a)), (2, .int (nI b)), (3, .int 0)]) [1, 2, 3, 0] rfl ?_
  have lp2 : ∀ (d i : Nat), i + d = 100 → XW E K 4 N 0 0 (ov m (mC E m (cpN s a b i) su st tx ty re ca at_ to) G) 2 [(0, .ref m), (1, .int (nI a)), (2, .int (nI b)), (3, .int (nI i))] [] := by
    intro d
    induction d with
    | zero =>
      intro i hd
      have q9i : 100 = i := by omega
      subst q9i
      refine x_iload_n C dX9_copies_2 3 rfl ?_
      refine x_bipush C 100 dX9_copies_3 rfl ?_
      refine x_icmp_ge C 36 dX9_copies_5 rfl (fun _ => ?_) (fun c => absurd c (not_not_intro (nI_le (a := 100) (by omega) (by omega))))
      refine x_aload_n C dX9_copies_36 0 rfl ?_
      refine x_get C (xlo (i := 0) hb_m) (xhi (i := 0) hn_m rfl) (ov_at (i := 0) rfl) f_X9_13 rfl dX9_copies_37 ?_
      refine x_iload_n C dX9_copies_40 2 rfl ?_
      refine x_aload_n C dX9_copies_41 0 rfl ?_
      refine x_get C (xlo (i := 0) hb_m) (xhi (i := 0) hn_m rfl) (ov_at (i := 0) rfl) f_X9_13 rfl dX9_copies_42 ?_
      refine x_iload_n C dX9_copies_45 1 rfl ?_
      refine x_lald C (su (a)) (xlo (i := 2) hb_m) (xhi (i := 2) hn_m rfl) (ov_at (i := 2) rfl) (vp_in_nI (by omega) (by decide)) (by rw [nI_clamp (by omega)]) dX9_copies_46 ?_
      refine x_last (G' := ov m (mC E m (cpN s a b 100) (vp_updL su b (su (a))) st tx ty re ca at_ to) G) C b (xlo (i := 2) hb_m) (xhi (i := 2) hn_m rfl) (ov_at (i := 2) rfl) (vp_in_nI (by omega) (by decide)) (nI_clamp (by omega)) (ov_set (i := 2) rfl rfl) dX9_copies_47 ?_
      exact x_vret C Z rfl rfl (by rw [cpN_end]; rfl) dX9_copies_48
    | succ d ih =>
      intro i hd
      have hi : i < 100 := by omega
      refine x_iload_n C dX9_copies_2 3 rfl ?_
      refine x_bipush C 100 dX9_copies_3 rfl ?_
      refine x_icmp_ge C 36 dX9_copies_5 rfl (fun c => absurd c (nI_ge (b := 100) (by omega) (by omega))) (fun _ => ?_)
      refine x_aload_n C dX9_copies_8 0 rfl ?_
      refine x_get C (xlo (i := 0) hb_m) (xhi (i := 0) hn_m rfl) (ov_at (i := 0) rfl) f_X9_7 rfl dX9_copies_9 ?_
      refine x_bipush C 100 dX9_copies_12 rfl ?_
      refine x_iload_n C dX9_copies_14 2 rfl ?_
      refine x_imul C dX9_copies_15 ?_
      refine x_v (w := .int (nI (100 * b))) (congrArg Value.int (natMul (a := 100) (b := b) (by omega))) ?_
      refine x_iload_n C dX9_copies_16 3 rfl ?_
      refine x_iadd C dX9_copies_17 ?_
      refine x_v (w := .int (nI (100 * b + i))) (congrArg Value.int (natAdd (a := 100 * b) (b := i) (by omega))) ?_
      refine x_aload_n C dX9_copies_18 0 rfl ?_
      refine x_get C (xlo (i := 0) hb_m) (xhi (i := 0) hn_m rfl) (ov_at (i := 0) rfl) f_X9_7 rfl dX9_copies_19 ?_
      refine x_bipush C 100 dX9_copies_22 rfl ?_
      refine x_iload_n C dX9_copies_24 1 rfl ?_
      refine x_imul C dX9_copies_25 ?_
      refine x_v (w := .int (nI (100 * a))) (congrArg Value.int (natMul (a := 100) (b := a) (by omega))) ?_
      refine x_iload_n C dX9_copies_26 3 rfl ?_
      refine x_iadd C dX9_copies_27 ?_
      refine x_v (w := .int (nI (100 * a + i))) (congrArg Value.int (natAdd (a := 100 * a) (b := i) (by omega))) ?_
      refine x_iald C ((cpN s a b i) (100 * a + i)) (xlo (i := 1) hb_m) (xhi (i := 1) hn_m rfl) (ov_at (i := 1) rfl) (vp_in_nI (by omega) (by decide)) (by rw [nI_clamp (by omega)]) dX9_copies_28 ?_
      refine x_iast (G' := ov m (mC E m (upd (cpN s a b i) (100 * b + i) ((cpN s a b i) (100 * a + i))) su st tx ty re ca at_ to) G) C (100 * b + i) (xlo (i := 1) hb_m) (xhi (i := 1) hn_m rfl) (ov_at (i := 1) rfl) (vp_in_nI (by omega) (by decide)) (nI_clamp (by omega)) (ov_set (i := 1) rfl rfl) dX9_copies_29 ?_
      refine x_iinc (L' := [(3, .int ((nI i) + 1)), (0, .ref m), (1, .int (nI a)), (2, .int (nI b))]) C ((nI i) + 1) dX9_copies_30 3 rfl rfl rfl rfl ?_
      refine x_goto C 2 dX9_copies_33 rfl ?_
      refine x_perm (L' := [(0, .ref m), (1, .int (nI a)), (2, .int (nI b)), (3, .int ((nI i) + 1))]) [1, 2, 3, 0] rfl ?_
      refine x_to (L' := [(0, .ref m), (1, .int (nI a)), (2, .int (nI b)), (3, .int (nI (i + 1)))]) (G' := ov m (mC E m (cpN s a b (i + 1)) su st tx ty re ca at_ to) G) (by simp only [nI_succ]) (by rw [cpN_step s a b i hi]) rfl ?_
      exact ih (i + 1) (by omega)
  refine x_to (L' := [(0, .ref m), (1, .int (nI a)), (2, .int (nI b)), (3, .int (nI 0))]) (G' := ov m (mC E m (cpN s a b 0) su st tx ty re ca at_ to) G) rfl (by rw [cpN_0]) rfl ?_
  exact lp2 _ 0 (Nat.add_sub_cancel' (by omega))

set_option maxRecDepth 100000 in
set_option maxHeartbeats 4000000 in
theorem c_X9_keeps (E : XE) (N m : Nat) (G : GW) (s : Nat → Int32) (su : Nat → Int64) (st : Int32) (tx : Nat → Int32) (ty re ca at_ : Int32) (to : Nat → Int32) (hb_m : xB E ≤ m) (hn_m : m + 5 ≤ N) : MF E yX9_keeps cX9_keeps 1 none 1 23 0 0 [.ref m] N (ov m (mC E m s su st tx ty re ca at_ to) G) none (ov m (mC E m (mCp s 0 6) (mCu su 0 6) st tx ty re ca at_ to) G) := by
  refine MF.mk RX9 rfl (by decide +kernel) rfl (fun K C Z hin hN => ?_)
  show XW E K 1 N 0 0 _ 0 [(0, .ref m)] []
  refine x_aload_n C dX9_keeps_0 0 rfl ?_
  refine x_iconst C 0 dX9_keeps_1 rfl ?_
  refine x_bipush C 6 dX9_keeps_2 rfl ?_
  refine x_cV0 C (c_X9_copies E N m _ s su st tx ty re ca at_ to 0 6 (by first | assumption | omega | decide) (by first | assumption | omega | decide) hb_m hn_m) v_X9_24 hN (xlo (i := 0) hb_m) (xhi (i := 0) hn_m rfl) (ov_at (i := 0) rfl) rfl rfl rfl rfl rfl dX9_keeps_4 ?_
  exact x_vret C Z rfl rfl rfl dX9_keeps_7

set_option maxRecDepth 100000 in
set_option maxHeartbeats 4000000 in
theorem c_X9_length (E : XE) (N m : Nat) (G : GW) (s : Nat → Int32) (su : Nat → Int64) (st : Int32) (tx : Nat → Int32) (ty re ca at_ : Int32) (to : Nat → Int32) (k : Nat) (hk : k < 7) (hb_m : xB E ≤ m) (hn_m : m + 5 ≤ N) : MF E yX9_length cX9_length 2 (some .int) 0 0 0 0 [.ref m, .int (nI k)] N (ov m (mC E m s su st tx ty re ca at_ to) G) (some (.int (64 - s (100 * k + 64)))) (ov m (mC E m s su st tx ty re ca at_ to) G) := by
  refine MF.mk RX9 rfl (by decide +kernel) rfl (fun K C Z hin hN => ?_)
  show XW E K 2 N 0 0 _ 0 [(0, .ref m), (1, .int (nI k))] []
  refine x_bipush C 64 dX9_length_0 rfl ?_
  refine x_aload_n C dX9_length_2 0 rfl ?_
  refine x_get C (xlo (i := 0) hb_m) (xhi (i := 0) hn_m rfl) (ov_at (i := 0) rfl) f_X9_7 rfl dX9_length_3 ?_
  refine x_bipush C 100 dX9_length_6 rfl ?_
  refine x_iload_n C dX9_length_8 1 rfl ?_
  refine x_imul C dX9_length_9 ?_
  refine x_v (w := .int (nI (100 * k))) (congrArg Value.int (natMul (a := 100) (b := k) (by omega))) ?_
  refine x_bipush C 64 dX9_length_10 rfl ?_
  refine x_iadd C dX9_length_12 ?_
  refine x_v (w := .int (nI (100 * k + 64))) (congrArg Value.int (natAdd (a := 100 * k) (b := 64) (by omega))) ?_
  refine x_iald C (s (100 * k + 64)) (xlo (i := 1) hb_m) (xhi (i := 1) hn_m rfl) (ov_at (i := 1) rfl) (vp_in_nI (by omega) (by decide)) (by rw [nI_clamp (by omega)]) dX9_length_13 ?_
  refine x_isub C dX9_length_14 ?_
  exact x_iret C Z rfl rfl rfl rfl dX9_length_15

set_option maxRecDepth 100000 in
set_option maxHeartbeats 4000000 in
theorem c_X9_isLost (E : XE) (N m : Nat) (G : GW) (s : Nat → Int32) (su : Nat → Int64) (st : Int32) (tx : Nat → Int32) (ty re ca at_ : Int32) (to : Nat → Int32) (k t : Nat) (hk : k < 7) (ht : t < 5) (hb_m : xB E ≤ m) (hn_m : m + 5 ≤ N) : MF E yX9_isLost cX9_isLost 3 (some .boolean) 1 21 0 0 [.ref m, .int (nI k), .int (nI t)] N (ov m (mC E m s su st tx ty re ca at_ to) G) (some (.int (bI (gLost (sl s k) t)))) (ov m (mC E m s su st tx ty re ca at_ to) G) := by
  refine MF.mk RX9 rfl (by decide +kernel) rfl (fun K C Z hin hN => ?_)
  show XW E K 3 N 0 0 _ 0 [(0, .ref m), (1, .int (nI k)), (2, .int (nI t))] []
  refine x_aload_n C dX9_isLost_0 0 rfl ?_
  refine x_get C (xlo (i := 0) hb_m) (xhi (i := 0) hn_m rfl) (ov_at (i := 0) rfl) f_X9_7 rfl dX9_isLost_1 ?_
  refine x_bipush C 100 dX9_isLost_4 rfl ?_
  refine x_iload_n C dX9_isLost_6 1 rfl ?_
  refine x_imul C dX9_isLost_7 ?_
  refine x_v (w := .int (nI (100 * k))) (congrArg Value.int (natMul (a := 100) (b := k) (by omega))) ?_
  refine x_bipush C 69 dX9_isLost_8 rfl ?_
  refine x_iadd C dX9_isLost_10 ?_
  refine x_v (w := .int (nI (100 * k + 69))) (congrArg Value.int (natAdd (a := 100 * k) (b := 69) (by omega))) ?_
  refine x_iload_n C dX9_isLost_11 2 rfl ?_
  refine x_iadd C dX9_isLost_12 ?_
  refine x_v (w := .int (nI (100 * k + (69 + t)))) (congrArg Value.int (natAdd (a := 100 * k + 69) (b := t) (by omega))) ?_
  refine x_iald C (s (100 * k + (69 + t))) (xlo (i := 1) hb_m) (xhi (i := 1) hn_m rfl) (ov_at (i := 1) rfl) (vp_in_nI (by omega) (by decide)) (by rw [nI_clamp (by omega)]) dX9_isLost_13 ?_
  refine x_aload_n C dX9_isLost_14 0 rfl ?_
  refine x_iload_n C dX9_isLost_15 1 rfl ?_
  refine x_cV1 C (c_X9_length E N m _ s su st tx ty re ca at_ to k (by first | assumption | omega | decide) hb_m hn_m) v_X9_33 hN (xlo (i := 0) hb_m) (xhi (i := 0) hn_m rfl) (ov_at (i := 0) rfl) rfl rfl rfl rfl rfl dX9_isLost_16 ?_
  refine x_icmp_le C 26 dX9_isLost_19 rfl (fun c19 => ?_) (fun c19 => ?_)
  · refine x_iconst C 0 dX9_isLost_26 rfl ?_
    exact x_iret C Z rfl rfl (by simp [gLost, bI, c19]) rfl dX9_isLost_27
  · refine x_iconst C 1 dX9_isLost_22 rfl ?_
    refine x_goto C 27 dX9_isLost_23 rfl ?_
    exact x_iret C Z rfl rfl (by simp [gLost, bI, c19]) rfl dX9_isLost_27

set_option maxRecDepth 100000 in
set_option maxHeartbeats 4000000 in
theorem c_X9_reads (E : XE) (N m : Nat) (G : GW) (s : Nat → Int32) (su : Nat → Int64) (st : Int32) (tx : Nat → Int32) (ty re ca at_ : Int32) (to : Nat → Int32) (k t d : Nat) (hk : k < 7) (ht : t < 5) (hd : s (100 * k + (69 + t)) = nI d) (hd1 : 1 ≤ d) (hd2 : d ≤ 64) (hb_m : xB E ≤ m) (hn_m : m + 5 ≤ N) : MF E yX9_reads cX9_reads 3 (some .int) 2 43 0 0 [.ref m, .int (nI k), .int (nI t)] N (ov m (mC E m s su st tx ty re ca at_ to) G) (some (.int (gRead (sl s k) t))) (ov m (mC E m s su st tx ty re ca at_ to) G) := by
  refine MF.mk RX9 rfl (by decide +kernel) rfl (fun K C Z hin hN => ?_)
  show XW E K 3 N 0 0 _ 0 [(0, .ref m), (1, .int (nI k)), (2, .int (nI t))] []
  have q9kc : (nI d).toNatClampNeg = d := nI_clamp (by omega)
  refine x_aload_n C dX9_reads_0 0 rfl ?_
  refine x_iload_n C dX9_reads_1 1 rfl ?_
  refine x_iload_n C dX9_reads_2 2 rfl ?_
  refine x_cV1 C (c_X9_isLost E N m _ s su st tx ty re ca at_ to k t (by first | assumption | omega | decide) (by first | assumption | omega | decide) hb_m hn_m) v_X9_37 hN (xlo (i := 0) hb_m) (xhi (i := 0) hn_m rfl) (ov_at (i := 0) rfl) rfl rfl rfl rfl rfl dX9_reads_3 ?_
  refine x_ifb_eq C 13 dX9_reads_6 rfl (fun c6 => ?_) (fun c6 => ?_)
  · refine x_aload_n C dX9_reads_13 0 rfl ?_
    refine x_get C (xlo (i := 0) hb_m) (xhi (i := 0) hn_m rfl) (ov_at (i := 0) rfl) f_X9_7 rfl dX9_reads_14 ?_
    refine x_bipush C 100 dX9_reads_17 rfl ?_
    refine x_iload_n C dX9_reads_19 1 rfl ?_
    refine x_imul C dX9_reads_20 ?_
    refine x_v (w := .int (nI (100 * k))) (congrArg Value.int (natMul (a := 100) (b := k) (by omega))) ?_
    refine x_aload_n C dX9_reads_21 0 rfl ?_
    refine x_get C (xlo (i := 0) hb_m) (xhi (i := 0) hn_m rfl) (ov_at (i := 0) rfl) f_X9_7 rfl dX9_reads_22 ?_
    refine x_bipush C 100 dX9_reads_25 rfl ?_
    refine x_iload_n C dX9_reads_27 1 rfl ?_
    refine x_imul C dX9_reads_28 ?_
    refine x_v (w := .int (nI (100 * k))) (congrArg Value.int (natMul (a := 100) (b := k) (by omega))) ?_
    refine x_bipush C 69 dX9_reads_29 rfl ?_
    refine x_iadd C dX9_reads_31 ?_
    refine x_v (w := .int (nI (100 * k + 69))) (congrArg Value.int (natAdd (a := 100 * k) (b := 69) (by omega))) ?_
    refine x_iload_n C dX9_reads_32 2 rfl ?_
    refine x_iadd C dX9_reads_33 ?_
    refine x_v (w := .int (nI (100 * k + (69 + t)))) (congrArg Value.int (natAdd (a := 100 * k + 69) (b := t) (by omega))) ?_
    refine x_iald C (s (100 * k + (69 + t))) (xlo (i := 1) hb_m) (xhi (i := 1) hn_m rfl) (ov_at (i := 1) rfl) (vp_in_nI (by omega) (by decide)) (by rw [nI_clamp (by omega)]) dX9_reads_34 ?_
    refine x_v (w := .int (nI d)) (by rw [hd]) ?_
    refine x_iadd C dX9_reads_35 ?_
    refine x_v (w := .int (nI (100 * k + d))) (congrArg Value.int (natAdd (a := 100 * k) (b := d) (by omega))) ?_
    refine x_iconst C 1 dX9_reads_36 rfl ?_
    refine x_isub C dX9_reads_37 ?_
    refine x_v (w := .int (nI (100 * k + (d - 1)))) (congrArg Value.int (natSub (a := 100 * k + d) (b := 1) (by omega))) ?_
    refine x_iald C (s (100 * k + (d - 1))) (xlo (i := 1) hb_m) (xhi (i := 1) hn_m rfl) (ov_at (i := 1) rfl) (vp_in_nI (by omega) (by decide)) (by rw [nI_clamp (by omega)]) dX9_reads_38 ?_
    exact x_iret C Z rfl rfl (by first | (simp only [gRead, hd, q9kc, c6, eq_self, Bool.false_eq_true, if_true, if_false]; done) | (simp [gRead, hd, q9kc, c6]; done)) rfl dX9_reads_39
  · refine x_iconst C 0 dX9_reads_9 rfl ?_
    refine x_goto C 39 dX9_reads_10 rfl ?_
    exact x_iret C Z rfl rfl (by first | (simp only [gRead, hd, q9kc, c6, eq_self, Bool.false_eq_true, if_true, if_false]; done) | (simp [gRead, hd, q9kc, c6]; done)) rfl dX9_reads_39

set_option maxRecDepth 100000 in
set_option maxHeartbeats 4000000 in
theorem c_X9_share (E : XE) (N m : Nat) (G : GW) (s : Nat → Int32) (su : Nat → Int64) (st : Int32) (tx : Nat → Int32) (ty re ca at_ : Int32) (to : Nat → Int32) (k t d : Nat) (hk : k < 7) (ht : t < 5) (hd : s (100 * k + (69 + t)) = nI d) (hd1 : 1 ≤ d) (hd2 : d ≤ 64) (hb_m : xB E ≤ m) (hn_m : m + 5 ≤ N) : MF E yX9_share cX9_share 3 (some .int) 3 65 0 0 [.ref m, .int (nI k), .int (nI t)] N (ov m (mC E m s su st tx ty re ca at_ to) G) (some (.int (gShare (sl s k) t))) (ov m (mC E m s su st tx ty re ca at_ to) G) := by
  refine MF.mk RX9 rfl (by decide +kernel) rfl (fun K C Z hin hN => ?_)
  show XW E K 3 N 0 0 _ 0 [(0, .ref m), (1, .int (nI k)), (2, .int (nI t))] []
  refine x_aload_n C dX9_share_0 0 rfl ?_
  refine x_get C (xlo (i := 0) hb_m) (xhi (i := 0) hn_m rfl) (ov_at (i := 0) rfl) f_X9_7 rfl dX9_share_1 ?_
  refine x_bipush C 100 dX9_share_4 rfl ?_
  refine x_iload_n C dX9_share_6 1 rfl ?_
  refine x_imul C dX9_share_7 ?_
  refine x_v (w := .int (nI (100 * k))) (congrArg Value.int (natMul (a := 100) (b := k) (by omega))) ?_
  refine x_bipush C 74 dX9_share_8 rfl ?_
  refine x_iadd C dX9_share_10 ?_
  refine x_v (w := .int (nI (100 * k + 74))) (congrArg Value.int (natAdd (a := 100 * k) (b := 74) (by omega))) ?_
  refine x_iload_n C dX9_share_11 2 rfl ?_
  refine x_iadd C dX9_share_12 ?_
  refine x_v (w := .int (nI (100 * k + (74 + t)))) (congrArg Value.int (natAdd (a := 100 * k + 74) (b := t) (by omega))) ?_
  refine x_iald C (s (100 * k + (74 + t))) (xlo (i := 1) hb_m) (xhi (i := 1) hn_m rfl) (ov_at (i := 1) rfl) (vp_in_nI (by omega) (by decide)) (by rw [nI_clamp (by omega)]) dX9_share_13 ?_
  refine x_aload_n C dX9_share_14 0 rfl ?_
  refine x_iload_n C dX9_share_15 1 rfl ?_
  refine x_iload_n C dX9_share_16 2 rfl ?_
  refine x_cV1 C (c_X9_reads E N m _ s su st tx ty re ca at_ to k t d (by first | assumption | omega | decide) (by first | assumption | omega | decide) (by first | assumption | omega | decide) (by first | assumption | omega | decide) (by first | assumption | omega | decide) hb_m hn_m) v_X9_41 hN (xlo (i := 0) hb_m) (xhi (i := 0) hn_m rfl) (ov_at (i := 0) rfl) rfl rfl rfl rfl rfl dX9_share_17 ?_
  refine x_imul C dX9_share_20 ?_
  refine x_sipush C 1000 dX9_share_21 rfl ?_
  refine x_idiv C dX9_share_24 (by decide) ?_
  exact x_iret C Z rfl rfl rfl rfl dX9_share_25

set_option maxRecDepth 100000 in
set_option maxHeartbeats 4000000 in
theorem c_X9_shaped (E : XE) (N m : Nat) (G : GW) (s : Nat → Int32) (su : Nat → Int64) (st : Int32) (tx : Nat → Int32) (ty re ca at_ : Int32) (to : Nat → Int32) (k : Nat) (x : Int32) (hk : k < 7) (hb_m : xB E ≤ m) (hn_m : m + 5 ≤ N) : MF E yX9_shaped cX9_shaped 8 (some .int) 1 20 0 0 [.ref m, .int (nI k), .int x] N (ov m (mC E m s su st tx ty re ca at_ to) G) (some (.int (gShp (sl s k) x))) (ov m (mC E m s su st tx ty re ca at_ to) G) := by
  refine MF.mk RX9 rfl (by decide +kernel) rfl (fun K C Z hin hN => ?_)
  show XW E K 8 N 0 0 _ 0 [(0, .ref m), (1, .int (nI k)), (2, .int x)] []
  refine x_aload_n C dX9_shaped_0 0 rfl ?_
  refine x_get C (xlo (i := 0) hb_m) (xhi (i := 0) hn_m rfl) (ov_at (i := 0) rfl) f_X9_7 rfl dX9_shaped_1 ?_
  refine x_bipush C 100 dX9_shaped_4 rfl ?_
  refine x_iload_n C dX9_shaped_6 1 rfl ?_
  refine x_imul C dX9_shaped_7 ?_
  refine x_v (w := .int (nI (100 * k))) (congrArg Value.int (natMul (a := 100) (b := k) (by omega))) ?_
  refine x_bipush C 79 dX9_shaped_8 rfl ?_
  refine x_iadd C dX9_shaped_10 ?_
  refine x_v (w := .int (nI (100 * k + 79))) (congrArg Value.int (natAdd (a := 100 * k) (b := 79) (by omega))) ?_
  refine x_iald C (s (100 * k + 79)) (xlo (i := 1) hb_m) (xhi (i := 1) hn_m rfl) (ov_at (i := 1) rfl) (vp_in_nI (by omega) (by decide)) (by rw [nI_clamp (by omega)]) dX9_shaped_11 ?_
  refine x_istore_n (L' := [(3, .int (s (100 * k + 79))), (0, .ref m), (1, .int (nI k)), (2, .int x)]) C dX9_shaped_12 rfl rfl ?_
  refine x_aload_n C dX9_shaped_13 1 rfl ?_
  refine x_get C (xlo (i := 0) hb_m) (xhi (i := 0) hn_m rfl) (ov_at (i := 0) rfl) f_X9_7 rfl dX9_shaped_14 ?_
  refine x_bipush C 100 dX9_shaped_17 rfl ?_
  refine x_iload_n C dX9_shaped_19 2 rfl ?_
  refine x_imul C dX9_shaped_20 ?_
  refine x_v (w := .int (nI (100 * k))) (congrArg Value.int (natMul (a := 100) (b := k) (by omega))) ?_
  refine x_bipush C 80 dX9_shaped_21 rfl ?_
  refine x_iadd C dX9_shaped_23 ?_
  refine x_v (w := .int (nI (100 * k + 80))) (congrArg Value.int (natAdd (a := 100 * k) (b := 80) (by omega))) ?_
  refine x_iald C (s (100 * k + 80)) (xlo (i := 1) hb_m) (xhi (i := 1) hn_m rfl) (ov_at (i := 1) rfl) (vp_in_nI (by omega) (by decide)) (by rw [nI_clamp (by omega)]) dX9_shaped_24 ?_
  refine x_istore (L' := [(4, .int (s (100 * k + 80))), (3, .int (s (100 * k + 79))), (0, .ref m), (1, .int (nI k)), (2, .int x)]) C dX9_shaped_25 rfl rfl ?_
  refine x_iload_n C dX9_shaped_27 4 rfl ?_
  refine x_cS1 C (c_X9_amount E N _ x) v_X9_45 hN rfl rfl rfl rfl dX9_shaped_28 ?_
  refine x_istore (L' := [(5, .int (amt x)), (4, .int (s (100 * k + 80))), (3, .int (s (100 * k + 79))), (0, .ref m), (1, .int (nI k)), (2, .int x)]) C dX9_shaped_31 rfl rfl ?_
  refine x_iload C dX9_shaped_33 0 rfl ?_
  refine x_istore (L' := [(6, .int (amt x)), (5, .int (amt x)), (4, .int (s (100 * k + 80))), (3, .int (s (100 * k + 79))), (0, .ref m), (1, .int (nI k)), (2, .int x)]) C dX9_shaped_35 rfl rfl ?_
  refine x_iload C dX9_shaped_37 2 rfl ?_
  refine x_if_ne C 59 dX9_shaped_39 rfl (fun c39 => ?_) (fun c39 => ?_)
  · refine x_iload C dX9_shaped_59 2 rfl ?_
    refine x_iconst C 1 dX9_shaped_61 rfl ?_
    refine x_icmp_ne C 111 dX9_shaped_62 rfl (fun c62 => ?_) (fun c62 => ?_)
    · refine x_iload C dX9_shaped_111 1 rfl ?_
      refine x_iload_n C dX9_shaped_113 3 rfl ?_
      refine x_icmp_le C 121 dX9_shaped_114 rfl (fun c114 => ?_) (fun c114 => ?_)
      · refine x_iload C dX9_shaped_121 1 rfl ?_
        refine x_istore (L' := [(6, .int (amt x)), (5, .int (amt x)), (4, .int (s (100 * k + 80))), (3, .int (s (100 * k + 79))), (0, .ref m), (1, .int (nI k)), (2, .int x)]) C dX9_shaped_123 rfl rfl ?_
        refine x_iload_n C dX9_shaped_125 6 rfl ?_
        refine x_if_ge C 135 dX9_shaped_126 rfl (fun c126 => ?_) (fun c126 => ?_)
        · refine x_iload C dX9_shaped_135 0 rfl ?_
          exact x_iret C Z rfl rfl (by simp [gShp, c39, c62, c114, c126]) rfl dX9_shaped_137
        · refine x_iload C dX9_shaped_129 0 rfl ?_
          refine x_ineg C dX9_shaped_131 ?_
          refine x_goto C 137 dX9_shaped_132 rfl ?_
          exact x_iret C Z rfl rfl (by simp [gShp, c39, c62, c114, c126]) rfl dX9_shaped_137
      · refine x_iconst C 0 dX9_shaped_117 rfl ?_
        refine x_goto C 123 dX9_shaped_118 rfl ?_
        refine x_istore (L' := [(6, .int 0), (5, .int (amt x)), (4, .int (s (100 * k + 80))), (3, .int (s (100 * k + 79))), (0, .ref m), (1, .int (nI k)), (2, .int x)]) C dX9_shaped_123 rfl rfl ?_
        refine x_iload_n C dX9_shaped_125 6 rfl ?_
        refine x_if_ge C 135 dX9_shaped_126 rfl (fun c126 => ?_) (fun c126 => ?_)
        · refine x_iload C dX9_shaped_135 0 rfl ?_
          exact x_iret C Z rfl rfl (by simp [gShp, c39, c62, c114, c126]) rfl dX9_shaped_137
        · refine x_iload C dX9_shaped_129 0 rfl ?_
          refine x_ineg C dX9_shaped_131 ?_
          refine x_goto C 137 dX9_shaped_132 rfl ?_
          exact x_iret C Z rfl rfl (by simp [gShp, c39, c62, c114, c126]) rfl dX9_shaped_137
    · refine x_iload_n C dX9_shaped_65 3 rfl ?_
      refine x_iconst C 2 dX9_shaped_66 rfl ?_
      refine x_idiv C dX9_shaped_67 (by decide) ?_
      refine x_istore (L' := [(7, .int ((s (100 * k + 79)) / 2)), (6, .int (amt x)), (5, .int (amt x)), (4, .int (s (100 * k + 80))), (3, .int (s (100 * k + 79))), (0, .ref m), (1, .int (nI k)), (2, .int x)]) C dX9_shaped_68 rfl rfl ?_
      refine x_iload C dX9_shaped_70 2 rfl ?_
      refine x_iload C dX9_shaped_72 0 rfl ?_
      refine x_icmp_le C 90 dX9_shaped_74 rfl (fun c74 => ?_) (fun c74 => ?_)
      · refine x_iload C dX9_shaped_90 2 rfl ?_
        refine x_istore (L' := [(6, .int (amt x)), (7, .int ((s (100 * k + 79)) / 2)), (5, .int (amt x)), (4, .int (s (100 * k + 80))), (3, .int (s (100 * k + 79))), (0, .ref m), (1, .int (nI k)), (2, .int x)]) C dX9_shaped_92 rfl rfl ?_
        refine x_iload C dX9_shaped_94 0 rfl ?_
        refine x_iload_n C dX9_shaped_96 4 rfl ?_
        refine x_icmp_le C 104 dX9_shaped_97 rfl (fun c97 => ?_) (fun c97 => ?_)
        · refine x_iload C dX9_shaped_104 0 rfl ?_
          refine x_istore (L' := [(6, .int (amt x)), (7, .int ((s (100 * k + 79)) / 2)), (5, .int (amt x)), (4, .int (s (100 * k + 80))), (3, .int (s (100 * k + 79))), (0, .ref m), (1, .int (nI k)), (2, .int x)]) C dX9_shaped_106 rfl rfl ?_
          refine x_goto C 125 dX9_shaped_108 rfl ?_
          refine x_iload_n C dX9_shaped_125 7 rfl ?_
          refine x_if_ge C 135 dX9_shaped_126 rfl (fun c126 => ?_) (fun c126 => ?_)
          · refine x_iload C dX9_shaped_135 0 rfl ?_
            exact x_iret C Z rfl rfl (by simp [gShp, c39, c62, c74, c97, c126]) rfl dX9_shaped_137
          · refine x_iload C dX9_shaped_129 0 rfl ?_
            refine x_ineg C dX9_shaped_131 ?_
            refine x_goto C 137 dX9_shaped_132 rfl ?_
            exact x_iret C Z rfl rfl (by simp [gShp, c39, c62, c74, c97, c126]) rfl dX9_shaped_137
        · refine x_iload_n C dX9_shaped_100 4 rfl ?_
          refine x_goto C 106 dX9_shaped_101 rfl ?_
          refine x_istore (L' := [(6, .int (s (100 * k + 79))), (7, .int ((s (100 * k + 79)) / 2)), (5, .int (amt x)), (4, .int (s (100 * k + 80))), (3, .int (s (100 * k + 79))), (0, .ref m), (1, .int (nI k)), (2, .int x)]) C dX9_shaped_106 rfl rfl ?_
          refine x_goto C 125 dX9_shaped_108 rfl ?_
          refine x_iload_n C dX9_shaped_125 7 rfl ?_
          refine x_if_ge C 135 dX9_shaped_126 rfl (fun c126 => ?_) (fun c126 => ?_)
          · refine x_iload C dX9_shaped_135 0 rfl ?_
            exact x_iret C Z rfl rfl (by simp [gShp, c39, c62, c74, c97, c126]) rfl dX9_shaped_137
          · refine x_iload C dX9_shaped_129 0 rfl ?_
            refine x_ineg C dX9_shaped_131 ?_
            refine x_goto C 137 dX9_shaped_132 rfl ?_
            exact x_iret C Z rfl rfl (by simp [gShp, c39, c62, c74, c97, c126]) rfl dX9_shaped_137
      · refine x_iload C dX9_shaped_77 0 rfl ?_
        refine x_iload C dX9_shaped_79 2 rfl ?_
        refine x_iload C dX9_shaped_81 0 rfl ?_
        refine x_isub C dX9_shaped_83 ?_
        refine x_iconst C 2 dX9_shaped_84 rfl ?_
        refine x_idiv C dX9_shaped_85 (by decide) ?_
        refine x_iadd C dX9_shaped_86 ?_
        refine x_goto C 92 dX9_shaped_87 rfl ?_
        refine x_topi (fun z1 ez1 => ?_)
        refine x_istore (L' := [(6, .int z1), (7, .int ((s (100 * k + 79)) / 2)), (5, .int (amt x)), (4, .int (s (100 * k + 80))), (3, .int (s (100 * k + 79))), (0, .ref m), (1, .int (nI k)), (2, .int x)]) C dX9_shaped_92 rfl rfl ?_
        refine x_iload C dX9_shaped_94 0 rfl ?_
        refine x_iload_n C dX9_shaped_96 4 rfl ?_
        refine x_icmp_le C 104 dX9_shaped_97 rfl (fun c97 => ?_) (fun c97 => ?_)
        · refine x_iload C dX9_shaped_104 0 rfl ?_
          refine x_istore (L' := [(6, .int z1), (7, .int ((s (100 * k + 79)) / 2)), (5, .int (amt x)), (4, .int (s (100 * k + 80))), (3, .int (s (100 * k + 79))), (0, .ref m), (1, .int (nI k)), (2, .int x)]) C dX9_shaped_106 rfl rfl ?_
          refine x_goto C 125 dX9_shaped_108 rfl ?_
          refine x_iload_n C dX9_shaped_125 7 rfl ?_
          refine x_if_ge C 135 dX9_shaped_126 rfl (fun c126 => ?_) (fun c126 => ?_)
          · refine x_iload C dX9_shaped_135 0 rfl ?_
            subst ez1
            exact x_iret C Z rfl rfl (by simp [gShp, c39, c62, c74, c97, c126]) rfl dX9_shaped_137
          · refine x_iload C dX9_shaped_129 0 rfl ?_
            refine x_ineg C dX9_shaped_131 ?_
            refine x_goto C 137 dX9_shaped_132 rfl ?_
            subst ez1
            exact x_iret C Z rfl rfl (by simp [gShp, c39, c62, c74, c97, c126]) rfl dX9_shaped_137
        · refine x_iload_n C dX9_shaped_100 4 rfl ?_
          refine x_goto C 106 dX9_shaped_101 rfl ?_
          refine x_istore (L' := [(6, .int (s (100 * k + 79))), (7, .int ((s (100 * k + 79)) / 2)), (5, .int (amt x)), (4, .int (s (100 * k + 80))), (3, .int (s (100 * k + 79))), (0, .ref m), (1, .int (nI k)), (2, .int x)]) C dX9_shaped_106 rfl rfl ?_
          refine x_goto C 125 dX9_shaped_108 rfl ?_
          refine x_iload_n C dX9_shaped_125 7 rfl ?_
          refine x_if_ge C 135 dX9_shaped_126 rfl (fun c126 => ?_) (fun c126 => ?_)
          · refine x_iload C dX9_shaped_135 0 rfl ?_
            subst ez1
            exact x_iret C Z rfl rfl (by simp [gShp, c39, c62, c74, c97, c126]) rfl dX9_shaped_137
          · refine x_iload C dX9_shaped_129 0 rfl ?_
            refine x_ineg C dX9_shaped_131 ?_
            refine x_goto C 137 dX9_shaped_132 rfl ?_
            subst ez1
            exact x_iret C Z rfl rfl (by simp [gShp, c39, c62, c74, c97, c126]) rfl dX9_shaped_137
  · refine x_iload C dX9_shaped_42 1 rfl ?_
    refine x_iload_n C dX9_shaped_44 3 rfl ?_
    refine x_icmp_le C 52 dX9_shaped_45 rfl (fun c45 => ?_) (fun c45 => ?_)
    · refine x_iload C dX9_shaped_52 1 rfl ?_
      refine x_istore (L' := [(6, .int (amt x)), (5, .int (amt x)), (4, .int (s (100 * k + 80))), (3, .int (s (100 * k + 79))), (0, .ref m), (1, .int (nI k)), (2, .int x)]) C dX9_shaped_54 rfl rfl ?_
      refine x_goto C 125 dX9_shaped_56 rfl ?_
      refine x_iload_n C dX9_shaped_125 6 rfl ?_
      refine x_if_ge C 135 dX9_shaped_126 rfl (fun c126 => ?_) (fun c126 => ?_)
      · refine x_iload C dX9_shaped_135 0 rfl ?_
        exact x_iret C Z rfl rfl (by simp [gShp, c39, c45, c126]) rfl dX9_shaped_137
      · refine x_iload C dX9_shaped_129 0 rfl ?_
        refine x_ineg C dX9_shaped_131 ?_
        refine x_goto C 137 dX9_shaped_132 rfl ?_
        exact x_iret C Z rfl rfl (by simp [gShp, c39, c45, c126]) rfl dX9_shaped_137
    · refine x_iload_n C dX9_shaped_48 3 rfl ?_
      refine x_goto C 54 dX9_shaped_49 rfl ?_
      refine x_istore (L' := [(6, .int (s (100 * k + 79))), (5, .int (amt x)), (4, .int (s (100 * k + 80))), (3, .int (s (100 * k + 79))), (0, .ref m), (1, .int (nI k)), (2, .int x)]) C dX9_shaped_54 rfl rfl ?_
      refine x_goto C 125 dX9_shaped_56 rfl ?_
      refine x_iload_n C dX9_shaped_125 6 rfl ?_
      refine x_if_ge C 135 dX9_shaped_126 rfl (fun c126 => ?_) (fun c126 => ?_)
      · refine x_iload C dX9_shaped_135 0 rfl ?_
        exact x_iret C Z rfl rfl (by simp [gShp, c39, c45, c126]) rfl dX9_shaped_137
      · refine x_iload C dX9_shaped_129 0 rfl ?_
        refine x_ineg C dX9_shaped_131 ?_
        refine x_goto C 137 dX9_shaped_132 rfl ?_
        exact x_iret C Z rfl rfl (by simp [gShp, c39, c45, c126]) rfl dX9_shaped_137

set_option maxRecDepth 100000 in
set_option maxHeartbeats 4000000 in
theorem c_X9_goes (E : XE) (N m : Nat) (G : GW) (s : Nat → Int32) (su : Nat → Int64) (st : Int32) (tx : Nat → Int32) (ty re ca at_ : Int32) (to : Nat → Int32) (k : Nat) (x : Int32) (tk : Nat) (hk : k < 7) (htk : s (100 * k + 64) = nI tk) (htk2 : tk ≤ 48) (hD : ∀ t, t < 5 → (t = 4 ∨ s (100 * k + (65 + t)) = 1) → ∃ d, s (100 * k + (69 + t)) = nI d ∧ 1 ≤ d ∧ d ≤ 64) (hb_m : xB E ≤ m) (hn_m : m + 5 ≤ N) : MF E yX9_goes cX9_goes 10 (some .int) 4 87 0 0 [.ref m, .int (nI k), .int x] N (ov m (mC E m s su st tx ty re ca at_ to) G) (some (.int (gOut (sl s k) x))) (ov m (mC E m (slP s k (gNx (sl s k) x)) (gSu su s k x) st tx ty re ca at_ to) G) := by
  refine MF.mk RX9 rfl (by decide +kernel) rfl (fun K C Z hin hN => ?_)
  show XW E K 10 N 0 0 _ 0 [(0, .ref m), (1, .int (nI k)), (2, .int x)] []
  refine x_bipush C 100 dX9_goes_0 rfl ?_
  refine x_iload_n C dX9_goes_2 1 rfl ?_
  refine x_imul C dX9_goes_3 ?_
  refine x_v (w := .int (nI (100 * k))) (congrArg Value.int (natMul (a := 100) (b := k) (by omega))) ?_
  refine x_istore_n (L' := [(3, .int (nI (100 * k))), (0, .ref m), (1, .int (nI k)), (2, .int x)]) C dX9_goes_4 rfl rfl ?_
  refine x_iload_n C dX9_goes_5 3 rfl ?_
  refine x_istore (L' := [(4, .int x), (3, .int (nI (100 * k))), (0, .ref m), (1, .int (nI k)), (2, .int x)]) C dX9_goes_6 rfl rfl ?_
  refine x_iconst C 0 dX9_goes_8 rfl ?_
  refine x_istore (L' := [(5, .int 0), (4, .int x), (3, .int (nI (100 * k))), (0, .ref m), (1, .int (nI k)), (2, .int x)]) C dX9_goes_9 rfl rfl ?_
  refine x_perm (L' := [(0, .ref m), (1, .int (nI k)), (2, .int x), (3, .int (nI (100 * k))), (4, .int x), (5, .int 0)]) [3, 4, 5, 2, 1, 0] rfl ?_
  have lp11 : ∀ (d i : Nat), i + d = 4 → XW E K 10 N 0 0 (ov m (mC E m s su st tx ty re ca at_ to) G) 11 [(0, .ref m), (1, .int (nI k)), (2, .int x), (3, .int (nI (100 * k))), (4, .int (gSum (sl s k) x i)), (5, .int (nI i))] [] := by
    intro d
    induction d with
    | zero =>
      intro i hd
      have q9i : 4 = i := by omega
      subst q9i
      refine x_iload C dX9_goes_11 5 rfl ?_
      refine x_iconst C 4 dX9_goes_13 rfl ?_
      refine x_icmp_ge C 55 dX9_goes_14 rfl (fun _ => ?_) (fun c => absurd c (not_not_intro (nI_le (a := 4) (by omega) (by omega))))
      obtain ⟨d4, h4d, h4a, h4b⟩ := hD 4 (by decide) (Or.inl rfl)
      refine x_iload_n C dX9_goes_55 2 rfl ?_
      refine x_aload_n C dX9_goes_56 0 rfl ?_
      refine x_iload_n C dX9_goes_57 1 rfl ?_
      refine x_iconst C 4 dX9_goes_58 rfl ?_
      refine x_cV1 C (c_X9_share E N m _ s su st tx ty re ca at_ to k 4 d4 (by first | assumption | omega | decide) (by first | assumption | omega | decide) h4d h4a h4b hb_m hn_m) v_X9_48 hN (xlo (i := 0) hb_m) (xhi (i := 0) hn_m rfl) (ov_at (i := 0) rfl) rfl rfl rfl rfl rfl dX9_goes_59 ?_
      refine x_iadd C dX9_goes_62 ?_
      refine x_v (w := .int (gRg (sl s k) x)) rfl ?_
      refine x_istore (L' := [(5, .int (gRg (sl s k) x)), (0, .ref m), (1, .int (nI k)), (2, .int x), (3, .int (nI (100 * k))), (4, .int (gSum (sl s k) x 4))]) C dX9_goes_63 rfl rfl ?_
      refine x_aload_n C dX9_goes_65 1 rfl ?_
      refine x_iload_n C dX9_goes_66 2 rfl ?_
      refine x_iload C dX9_goes_67 5 rfl ?_
      refine x_cV1 C (c_X9_shaped E N m _ s su st tx ty re ca at_ to k (gSum (sl s k) x 4) (by first | assumption | omega | decide) hb_m hn_m) v_X9_51 hN (xlo (i := 0) hb_m) (xhi (i := 0) hn_m rfl) (ov_at (i := 0) rfl) rfl rfl rfl rfl rfl dX9_goes_69 ?_
      refine x_v (w := .int (gOut (sl s k) x)) rfl ?_
      refine x_istore (L' := [(6, .int (gOut (sl s k) x)), (5, .int (gRg (sl s k) x)), (0, .ref m), (1, .int (nI k)), (2, .int x), (3, .int (nI (100 * k))), (4, .int (gSum (sl s k) x 4))]) C dX9_goes_72 rfl rfl ?_
      refine x_aload_n C dX9_goes_74 2 rfl ?_
      refine x_iload_n C dX9_goes_75 3 rfl ?_
      refine x_iload C dX9_goes_76 1 rfl ?_
      refine x_cV1 C (c_X9_shaped E N m _ s su st tx ty re ca at_ to k (gRg (sl s k) x) (by first | assumption | omega | decide) hb_m hn_m) v_X9_51 hN (xlo (i := 0) hb_m) (xhi (i := 0) hn_m rfl) (ov_at (i := 0) rfl) rfl rfl rfl rfl rfl dX9_goes_78 ?_
      refine x_v (w := .int (gWrt (sl s k) x)) rfl ?_
      refine x_istore (L' := [(7, .int (gWrt (sl s k) x)), (6, .int (gOut (sl s k) x)), (5, .int (gRg (sl s k) x)), (0, .ref m), (1, .int (nI k)), (2, .int x), (3, .int (nI (100 * k))), (4, .int (gSum (sl s k) x 4))]) C dX9_goes_81 rfl rfl ?_
      refine x_aload_n C dX9_goes_83 3 rfl ?_
      refine x_get C (xlo (i := 0) hb_m) (xhi (i := 0) hn_m rfl) (ov_at (i := 0) rfl) f_X9_7 rfl dX9_goes_84 ?_
      refine x_iload_n C dX9_goes_87 6 rfl ?_
      refine x_bipush C 83 dX9_goes_88 rfl ?_
      refine x_iadd C dX9_goes_90 ?_
      refine x_v (w := .int (nI (100 * k + 83))) (congrArg Value.int (natAdd (a := 100 * k) (b := 83) (by omega))) ?_
      refine x_dup2_11 C dX9_goes_91 rfl rfl ?_
      refine x_iald C (s (100 * k + 83)) (xlo (i := 1) hb_m) (xhi (i := 1) hn_m rfl) (ov_at (i := 1) rfl) (vp_in_nI (by omega) (by decide)) (by rw [nI_clamp (by omega)]) dX9_goes_92 ?_
      refine x_iload C dX9_goes_93 1 rfl ?_
      refine x_iload C dX9_goes_95 7 rfl ?_
      refine x_t_icmp_eq C 104 105 1 0 dX9_goes_97 rfl dX9_goes_100 rfl dX9_goes_101 rfl dX9_goes_104 rfl rfl ?_
      refine x_iadd C dX9_goes_105 ?_
      refine x_iast (G' := ov m (mC E m (upd s (100 * k + 83) ((s (100 * k + 83)) + (if (gOut (sl s k) x) = (gSum (sl s k) x 4) then 0 else 1))) su st tx ty re ca at_ to) G) C (100 * k + 83) (xlo (i := 1) hb_m) (xhi (i := 1) hn_m rfl) (ov_at (i := 1) rfl) (vp_in_nI (by omega) (by decide)) (nI_clamp (by omega)) (ov_set (i := 1) rfl rfl) dX9_goes_106 ?_
      refine x_G (G' := ov m (mC E m (gS1 s k x) su st tx ty re ca at_ to) G) rfl ?_
      refine x_aload_n C dX9_goes_107 3 rfl ?_
      refine x_get C (xlo (i := 0) hb_m) (xhi (i := 0) hn_m rfl) (ov_at (i := 0) rfl) f_X9_7 rfl dX9_goes_108 ?_
      refine x_iload_n C dX9_goes_111 6 rfl ?_
      refine x_bipush C 84 dX9_goes_112 rfl ?_
      refine x_iadd C dX9_goes_114 ?_
      refine x_v (w := .int (nI (100 * k + 84))) (congrArg Value.int (natAdd (a := 100 * k) (b := 84) (by omega))) ?_
      refine x_dup2_11 C dX9_goes_115 rfl rfl ?_
      refine x_iald C ((gS1 s k x) (100 * k + 84)) (xlo (i := 1) hb_m) (xhi (i := 1) hn_m rfl) (ov_at (i := 1) rfl) (vp_in_nI (by omega) (by decide)) (by rw [nI_clamp (by omega)]) dX9_goes_116 ?_
      refine x_iload C dX9_goes_117 0 rfl ?_
      refine x_iload C dX9_goes_119 2 rfl ?_
      refine x_t_icmp_eq C 128 129 1 0 dX9_goes_121 rfl dX9_goes_124 rfl dX9_goes_125 rfl dX9_goes_128 rfl rfl ?_
      refine x_iadd C dX9_goes_129 ?_
      refine x_iast (G' := ov m (mC E m (upd (gS1 s k x) (100 * k + 84) (((gS1 s k x) (100 * k + 84)) + (if (gWrt (sl s k) x) = (gRg (sl s k) x) then 0 else 1))) su st tx ty re ca at_ to) G) C (100 * k + 84) (xlo (i := 1) hb_m) (xhi (i := 1) hn_m rfl) (ov_at (i := 1) rfl) (vp_in_nI (by omega) (by decide)) (nI_clamp (by omega)) (ov_set (i := 1) rfl rfl) dX9_goes_130 ?_
      refine x_G (G' := ov m (mC E m (gS2 s k x) su st tx ty re ca at_ to) G) rfl ?_
      refine x_aload_n C dX9_goes_131 3 rfl ?_
      refine x_iload_n C dX9_goes_132 4 rfl ?_
      refine x_cV1 C (c_X9_length E N m _ (gS2 s k x) su st tx ty re ca at_ to k (by first | assumption | omega | decide) hb_m hn_m) v_X9_33 hN (xlo (i := 0) hb_m) (xhi (i := 0) hn_m rfl) (ov_at (i := 0) rfl) rfl rfl rfl rfl rfl dX9_goes_133 ?_
      refine x_v (w := .int (nI (64 - tk))) (by show Value.int (64 - gS2 s k x (100 * k + 64)) = _; unfold gS2 gS1; rw [pk_un (by omega), pk_un (by omega), htk]; exact congrArg Value.int (natSub (a := 64) (b := tk) (by omega))) ?_
      refine x_iconst C 1 dX9_goes_136 rfl ?_
      refine x_isub C dX9_goes_137 ?_
      refine x_v (w := .int (nI ((64 - tk) - 1))) (congrArg Value.int (natSub (a := 64 - tk) (b := 1) (by omega))) ?_
      refine x_istore (L' := [(8, .int (nI ((64 - tk) - 1))), (7, .int (gWrt (sl s k) x)), (6, .int (gOut (sl s k) x)), (5, .int (gRg (sl s k) x)), (0, .ref m), (1, .int (nI k)), (2, .int x), (3, .int (nI (100 * k))), (4, .int (gSum (sl s k) x 4))]) C dX9_goes_138 rfl rfl ?_
      refine x_perm (L' := [(0, .ref m), (1, .int (nI k)), (2, .int x), (3, .int (nI (100 * k))), (4, .int (gSum (sl s k) x 4)), (5, .int (gRg (sl s k) x)), (6, .int (gOut (sl s k) x)), (7, .int (gWrt (sl s k) x)), (8, .int (nI ((64 - tk) - 1)))]) [4, 5, 6, 7, 8, 3, 2, 1, 0] rfl ?_
      have lp140 : ∀ (d i : Nat), i + d = 64 - tk - 1 → XW E K 10 N 0 0 (ov m (mC E m (shA (gS2 s k x) (100 * k + (64 - tk - 1 - i)) (100 * k + (64 - tk - 1))) su st tx ty re ca at_ to) G) 140 [(0, .ref m), (1, .int (nI k)), (2, .int x), (3, .int (nI (100 * k))), (4, .int (gSum (sl s k) x 4)), (5, .int (gRg (sl s k) x)), (6, .int (gOut (sl s k) x)), (7, .int (gWrt (sl s k) x)), (8, .int (nI (64 - tk - 1 - i)))] [] := by
        intro d
        induction d with
        | zero =>
          intro i hd
          have q9i : 64 - tk - 1 = i := by omega
          subst q9i
          refine x_iload C dX9_goes_140 8 rfl ?_
          refine x_if_le C 171 dX9_goes_142 rfl (fun _ => ?_) (fun c => absurd c (nIz (by omega)))
          refine x_G (G' := ov m (mC E m (gS3 s k x tk) su st tx ty re ca at_ to) G) (by rw [Nat.sub_self]; rfl) ?_
          refine x_aload_n C dX9_goes_171 0 rfl ?_
          refine x_get C (xlo (i := 0) hb_m) (xhi (i := 0) hn_m rfl) (ov_at (i := 0) rfl) f_X9_7 rfl dX9_goes_172 ?_
          refine x_iload_n C dX9_goes_175 3 rfl ?_
          refine x_iload C dX9_goes_176 7 rfl ?_
          refine x_iast (G' := ov m (mC E m (upd (gS3 s k x tk) (100 * k) (gWrt (sl s k) x)) su st tx ty re ca at_ to) G) C (100 * k) (xlo (i := 1) hb_m) (xhi (i := 1) hn_m rfl) (ov_at (i := 1) rfl) (vp_in_nI (by omega) (by decide)) (nI_clamp (by omega)) (ov_set (i := 1) rfl rfl) dX9_goes_178 ?_
          refine x_G (G' := ov m (mC E m (gS4 s k x tk) su st tx ty re ca at_ to) G) rfl ?_
          refine x_aload_n C dX9_goes_179 0 rfl ?_
          refine x_get C (xlo (i := 0) hb_m) (xhi (i := 0) hn_m rfl) (ov_at (i := 0) rfl) f_X9_7 rfl dX9_goes_180 ?_
          refine x_iload_n C dX9_goes_183 3 rfl ?_
          refine x_bipush C 81 dX9_goes_184 rfl ?_
          refine x_iadd C dX9_goes_186 ?_
          refine x_v (w := .int (nI (100 * k + 81))) (congrArg Value.int (natAdd (a := 100 * k) (b := 81) (by omega))) ?_
          refine x_dup2_11 C dX9_goes_187 rfl rfl ?_
          refine x_iald C ((gS4 s k x tk) (100 * k + 81)) (xlo (i := 1) hb_m) (xhi (i := 1) hn_m rfl) (ov_at (i := 1) rfl) (vp_in_nI (by omega) (by decide)) (by rw [nI_clamp (by omega)]) dX9_goes_188 ?_
          refine x_iconst C 1 dX9_goes_189 rfl ?_
          refine x_iadd C dX9_goes_190 ?_
          refine x_iast (G' := ov m (mC E m (upd (gS4 s k x tk) (100 * k + 81) (((gS4 s k x tk) (100 * k + 81)) + 1)) su st tx ty re ca at_ to) G) C (100 * k + 81) (xlo (i := 1) hb_m) (xhi (i := 1) hn_m rfl) (ov_at (i := 1) rfl) (vp_in_nI (by omega) (by decide)) (nI_clamp (by omega)) (ov_set (i := 1) rfl rfl) dX9_goes_191 ?_
          refine x_G (G' := ov m (mC E m (gS5 s k x tk) su st tx ty re ca at_ to) G) rfl ?_
          refine x_iload C dX9_goes_192 6 rfl ?_
          refine x_cS1 C (c_X9_amount E N _ (gOut (sl s k) x)) v_X9_45 hN rfl rfl rfl rfl dX9_goes_194 ?_
          refine x_istore (L' := [(8, .int (amt (gOut (sl s k) x))), (0, .ref m), (1, .int (nI k)), (2, .int x), (3, .int (nI (100 * k))), (4, .int (gSum (sl s k) x 4)), (5, .int (gRg (sl s k) x)), (6, .int (gOut (sl s k) x)), (7, .int (gWrt (sl s k) x))]) C dX9_goes_197 rfl rfl ?_
          refine x_aload_n C dX9_goes_199 1 rfl ?_
          refine x_get C (xlo (i := 0) hb_m) (xhi (i := 0) hn_m rfl) (ov_at (i := 0) rfl) f_X9_7 rfl dX9_goes_200 ?_
          refine x_iload_n C dX9_goes_203 4 rfl ?_
          refine x_bipush C 82 dX9_goes_204 rfl ?_
          refine x_iadd C dX9_goes_206 ?_
          refine x_v (w := .int (nI (100 * k + 82))) (congrArg Value.int (natAdd (a := 100 * k) (b := 82) (by omega))) ?_
          refine x_iload C dX9_goes_207 0 rfl ?_
          refine x_aload_n C dX9_goes_209 1 rfl ?_
          refine x_get C (xlo (i := 0) hb_m) (xhi (i := 0) hn_m rfl) (ov_at (i := 0) rfl) f_X9_7 rfl dX9_goes_210 ?_
          refine x_iload_n C dX9_goes_213 4 rfl ?_
          refine x_bipush C 82 dX9_goes_214 rfl ?_
          refine x_iadd C dX9_goes_216 ?_
          refine x_v (w := .int (nI (100 * k + 82))) (congrArg Value.int (natAdd (a := 100 * k) (b := 82) (by omega))) ?_
          refine x_iald C ((gS5 s k x tk) (100 * k + 82)) (xlo (i := 1) hb_m) (xhi (i := 1) hn_m rfl) (ov_at (i := 1) rfl) (vp_in_nI (by omega) (by decide)) (by rw [nI_clamp (by omega)]) dX9_goes_217 ?_
          have mg2 : ∀ y1 : Int32, y1 = (if amt (gOut (sl s k) x) ≤ gS5 s k x tk (100 * k + 82) then gS5 s k x tk (100 * k + 82) else amt (gOut (sl s k) x)) → XW E K 10 N 0 0 (ov m (mC E m (gS5 s k x tk) su st tx ty re ca at_ to) G) 235 [(8, .int (amt (gOut (sl s k) x))), (0, .ref m), (1, .int (nI k)), (2, .int x), (3, .int (nI (100 * k))), (4, .int (gSum (sl s k) x 4)), (5, .int (gRg (sl s k) x)), (6, .int (gOut (sl s k) x)), (7, .int (gWrt (sl s k) x))] [.int y1, .int (nI (100 * k + 82)), .ref (m + 1)] := by
            intro y1 ey1
            refine x_iast (G' := ov m (mC E m (upd (gS5 s k x tk) (100 * k + 82) y1) su st tx ty re ca at_ to) G) C (100 * k + 82) (xlo (i := 1) hb_m) (xhi (i := 1) hn_m rfl) (ov_at (i := 1) rfl) (vp_in_nI (by omega) (by decide)) (nI_clamp (by omega)) (ov_set (i := 1) rfl rfl) dX9_goes_235 ?_
            subst ey1
            refine x_G (G' := ov m (mC E m (gS6 s k x tk) su st tx ty re ca at_ to) G) rfl ?_
            refine x_aload_n C dX9_goes_236 1 rfl ?_
            refine x_get C (xlo (i := 0) hb_m) (xhi (i := 0) hn_m rfl) (ov_at (i := 0) rfl) f_X9_13 rfl dX9_goes_237 ?_
            refine x_iload_n C dX9_goes_240 2 rfl ?_
            refine x_dup2_11 C dX9_goes_241 rfl rfl ?_
            refine x_lald C (su (k)) (xlo (i := 2) hb_m) (xhi (i := 2) hn_m rfl) (ov_at (i := 2) rfl) (vp_in_nI (by omega) (by decide)) (by rw [nI_clamp (by omega)]) dX9_goes_242 ?_
            refine x_iload C dX9_goes_243 0 rfl ?_
            refine x_i2l C dX9_goes_245 ?_
            refine x_ladd C dX9_goes_246 ?_
            refine x_last (G' := ov m (mC E m (gS6 s k x tk) (vp_updL su k ((su (k)) + ((amt (gOut (sl s k) x)).toInt64))) st tx ty re ca at_ to) G) C k (xlo (i := 2) hb_m) (xhi (i := 2) hn_m rfl) (ov_at (i := 2) rfl) (vp_in_nI (by omega) (by decide)) (nI_clamp (by omega)) (ov_set (i := 2) rfl rfl) dX9_goes_247 ?_
            refine x_bipush C 11 dX9_goes_248 rfl ?_
            refine x_istore (L' := [(9, .int 11), (8, .int (amt (gOut (sl s k) x))), (0, .ref m), (1, .int (nI k)), (2, .int x), (3, .int (nI (100 * k))), (4, .int (gSum (sl s k) x 4)), (5, .int (gRg (sl s k) x)), (6, .int (gOut (sl s k) x)), (7, .int (gWrt (sl s k) x))]) C dX9_goes_250 rfl rfl ?_
            refine x_perm (L' := [(0, .ref m), (1, .int (nI k)), (2, .int x), (3, .int (nI (100 * k))), (4, .int (gSum (sl s k) x 4)), (5, .int (gRg (sl s k) x)), (6, .int (gOut (sl s k) x)), (7, .int (gWrt (sl s k) x)), (8, .int (amt (gOut (sl s k) x))), (9, .int 11)]) [2, 3, 4, 5, 6, 7, 8, 9, 1, 0] rfl ?_
            have lp252 : ∀ (d i : Nat), i + d = 11 → XW E K 10 N 0 0 (ov m (mC E m (shA (gS6 s k x tk) (100 * k + (85 + (11 - i))) (100 * k + 96)) (vp_updL su k ((su (k)) + ((amt (gOut (sl s k) x)).toInt64))) st tx ty re ca at_ to) G) 252 [(0, .ref m), (1, .int (nI k)), (2, .int x), (3, .int (nI (100 * k))), (4, .int (gSum (sl s k) x 4)), (5, .int (gRg (sl s k) x)), (6, .int (gOut (sl s k) x)), (7, .int (gWrt (sl s k) x)), (8, .int (amt (gOut (sl s k) x))), (9, .int (nI (11 - i)))] [] := by
              intro d
              induction d with
              | zero =>
                intro i hd
                have q9i : 11 = i := by omega
                subst q9i
                refine x_iload C dX9_goes_252 9 rfl ?_
                refine x_if_le C 289 dX9_goes_254 rfl (fun _ => ?_) (fun c => absurd c (nIz (by omega)))
                refine x_G (G' := ov m (mC E m (gS7 s k x tk) (vp_updL su k ((su (k)) + ((amt (gOut (sl s k) x)).toInt64))) st tx ty re ca at_ to) G) rfl ?_
                refine x_aload_n C dX9_goes_289 0 rfl ?_
                refine x_get C (xlo (i := 0) hb_m) (xhi (i := 0) hn_m rfl) (ov_at (i := 0) rfl) f_X9_7 rfl dX9_goes_290 ?_
                refine x_iload_n C dX9_goes_293 3 rfl ?_
                refine x_bipush C 85 dX9_goes_294 rfl ?_
                refine x_iadd C dX9_goes_296 ?_
                refine x_v (w := .int (nI (100 * k + 85))) (congrArg Value.int (natAdd (a := 100 * k) (b := 85) (by omega))) ?_
                refine x_iload C dX9_goes_297 6 rfl ?_
                refine x_iast (G' := ov m (mC E m (upd (gS7 s k x tk) (100 * k + 85) (gOut (sl s k) x)) (vp_updL su k ((su (k)) + ((amt (gOut (sl s k) x)).toInt64))) st tx ty re ca at_ to) G) C (100 * k + 85) (xlo (i := 1) hb_m) (xhi (i := 1) hn_m rfl) (ov_at (i := 1) rfl) (vp_in_nI (by omega) (by decide)) (nI_clamp (by omega)) (ov_set (i := 1) rfl rfl) dX9_goes_299 ?_
                refine x_G (G' := ov m (mC E m (gS8 s k x tk) (vp_updL su k ((su (k)) + ((amt (gOut (sl s k) x)).toInt64))) st tx ty re ca at_ to) G) rfl ?_
                refine x_aload_n C dX9_goes_300 0 rfl ?_
                refine x_get C (xlo (i := 0) hb_m) (xhi (i := 0) hn_m rfl) (ov_at (i := 0) rfl) f_X9_7 rfl dX9_goes_301 ?_
                refine x_iload_n C dX9_goes_304 3 rfl ?_
                refine x_bipush C 97 dX9_goes_305 rfl ?_
                refine x_iadd C dX9_goes_307 ?_
                refine x_v (w := .int (nI (100 * k + 97))) (congrArg Value.int (natAdd (a := 100 * k) (b := 97) (by omega))) ?_
                refine x_dup2_11 C dX9_goes_308 rfl rfl ?_
                refine x_iald C ((gS8 s k x tk) (100 * k + 97)) (xlo (i := 1) hb_m) (xhi (i := 1) hn_m rfl) (ov_at (i := 1) rfl) (vp_in_nI (by omega) (by decide)) (by rw [nI_clamp (by omega)]) dX9_goes_309 ?_
                refine x_aload_n C dX9_goes_310 0 rfl ?_
                refine x_get C (xlo (i := 0) hb_m) (xhi (i := 0) hn_m rfl) (ov_at (i := 0) rfl) f_X9_7 rfl dX9_goes_311 ?_
                refine x_iload_n C dX9_goes_314 3 rfl ?_
                refine x_bipush C 97 dX9_goes_315 rfl ?_
                refine x_iadd C dX9_goes_317 ?_
                refine x_v (w := .int (nI (100 * k + 97))) (congrArg Value.int (natAdd (a := 100 * k) (b := 97) (by omega))) ?_
                refine x_iald C ((gS8 s k x tk) (100 * k + 97)) (xlo (i := 1) hb_m) (xhi (i := 1) hn_m rfl) (ov_at (i := 1) rfl) (vp_in_nI (by omega) (by decide)) (by rw [nI_clamp (by omega)]) dX9_goes_318 ?_
                refine x_bipush C 12 dX9_goes_319 rfl ?_
                refine x_t_icmp_ge C 328 329 1 0 dX9_goes_321 rfl dX9_goes_324 rfl dX9_goes_325 rfl dX9_goes_328 rfl rfl ?_
                refine x_iadd C dX9_goes_329 ?_
                refine x_iast (G' := ov m (mC E m (upd (gS8 s k x tk) (100 * k + 97) (((gS8 s k x tk) (100 * k + 97)) + (if 12 ≤ ((gS8 s k x tk) (100 * k + 97)) then 0 else 1))) (vp_updL su k ((su (k)) + ((amt (gOut (sl s k) x)).toInt64))) st tx ty re ca at_ to) G) C (100 * k + 97) (xlo (i := 1) hb_m) (xhi (i := 1) hn_m rfl) (ov_at (i := 1) rfl) (vp_in_nI (by omega) (by decide)) (nI_clamp (by omega)) (ov_set (i := 1) rfl rfl) dX9_goes_330 ?_
                refine x_G (G' := ov m (mC E m (gS9 s k x tk) (vp_updL su k ((su (k)) + ((amt (gOut (sl s k) x)).toInt64))) st tx ty re ca at_ to) G) rfl ?_
                refine x_iload C dX9_goes_331 6 rfl ?_
                exact x_iret C Z rfl rfl rfl (by rw [gS9_eq s k x tk htk htk2]; rfl) dX9_goes_333
              | succ d ih =>
                intro i hd
                have hi : i < 11 := by omega
                refine x_iload C dX9_goes_252 9 rfl ?_
                refine x_if_le C 289 dX9_goes_254 rfl (fun c => absurd c (nI_nle (by omega) (by omega))) (fun _ => ?_)
                refine x_aload_n C dX9_goes_257 0 rfl ?_
                refine x_get C (xlo (i := 0) hb_m) (xhi (i := 0) hn_m rfl) (ov_at (i := 0) rfl) f_X9_7 rfl dX9_goes_258 ?_
                refine x_iload_n C dX9_goes_261 3 rfl ?_
                refine x_bipush C 85 dX9_goes_262 rfl ?_
                refine x_iadd C dX9_goes_264 ?_
                refine x_v (w := .int (nI (100 * k + 85))) (congrArg Value.int (natAdd (a := 100 * k) (b := 85) (by omega))) ?_
                refine x_iload C dX9_goes_265 9 rfl ?_
                refine x_iadd C dX9_goes_267 ?_
                refine x_v (w := .int (nI (100 * k + (85 + (11 - i))))) (congrArg Value.int (natAdd (a := 100 * k + 85) (b := 11 - i) (by omega))) ?_
                refine x_aload_n C dX9_goes_268 0 rfl ?_
                refine x_get C (xlo (i := 0) hb_m) (xhi (i := 0) hn_m rfl) (ov_at (i := 0) rfl) f_X9_7 rfl dX9_goes_269 ?_
                refine x_iload_n C dX9_goes_272 3 rfl ?_
                refine x_bipush C 85 dX9_goes_273 rfl ?_
                refine x_iadd C dX9_goes_275 ?_
                refine x_v (w := .int (nI (100 * k + 85))) (congrArg Value.int (natAdd (a := 100 * k) (b := 85) (by omega))) ?_
                refine x_iload C dX9_goes_276 9 rfl ?_
                refine x_iadd C dX9_goes_278 ?_
                refine x_v (w := .int (nI (100 * k + (85 + (11 - i))))) (congrArg Value.int (natAdd (a := 100 * k + 85) (b := 11 - i) (by omega))) ?_
                refine x_iconst C 1 dX9_goes_279 rfl ?_
                refine x_isub C dX9_goes_280 ?_
                refine x_v (w := .int (nI (100 * k + ((85 + (11 - i)) - 1)))) (congrArg Value.int (natSub (a := 100 * k + (85 + (11 - i))) (b := 1) (by omega))) ?_
                refine x_iald C ((shA (gS6 s k x tk) (100 * k + (85 + (11 - i))) (100 * k + 96)) (100 * k + ((85 + (11 - i)) - 1))) (xlo (i := 1) hb_m) (xhi (i := 1) hn_m rfl) (ov_at (i := 1) rfl) (vp_in_nI (by omega) (by decide)) (by rw [nI_clamp (by omega)]) dX9_goes_281 ?_
                refine x_iast (G' := ov m (mC E m (upd (shA (gS6 s k x tk) (100 * k + (85 + (11 - i))) (100 * k + 96)) (100 * k + (85 + (11 - i))) ((shA (gS6 s k x tk) (100 * k + (85 + (11 - i))) (100 * k + 96)) (100 * k + ((85 + (11 - i)) - 1)))) (vp_updL su k ((su (k)) + ((amt (gOut (sl s k) x)).toInt64))) st tx ty re ca at_ to) G) C (100 * k + (85 + (11 - i))) (xlo (i := 1) hb_m) (xhi (i := 1) hn_m rfl) (ov_at (i := 1) rfl) (vp_in_nI (by omega) (by decide)) (nI_clamp (by omega)) (ov_set (i := 1) rfl rfl) dX9_goes_282 ?_
                refine x_iinc (L' := [(9, .int ((nI (11 - i)) + (-1))), (0, .ref m), (1, .int (nI k)), (2, .int x), (3, .int (nI (100 * k))), (4, .int (gSum (sl s k) x 4)), (5, .int (gRg (sl s k) x)), (6, .int (gOut (sl s k) x)), (7, .int (gWrt (sl s k) x)), (8, .int (amt (gOut (sl s k) x)))]) C ((nI (11 - i)) + (-1)) dX9_goes_283 9 rfl rfl rfl rfl ?_
                refine x_goto C 252 dX9_goes_286 rfl ?_
                refine x_perm (L' := [(0, .ref m), (1, .int (nI k)), (2, .int x), (3, .int (nI (100 * k))), (4, .int (gSum (sl s k) x 4)), (5, .int (gRg (sl s k) x)), (6, .int (gOut (sl s k) x)), (7, .int (gWrt (sl s k) x)), (8, .int (amt (gOut (sl s k) x))), (9, .int ((nI (11 - i)) + (-1)))]) [1, 2, 3, 4, 5, 6, 7, 8, 9, 0] rfl ?_
                refine x_to (L' := [(0, .ref m), (1, .int (nI k)), (2, .int x), (3, .int (nI (100 * k))), (4, .int (gSum (sl s k) x 4)), (5, .int (gRg (sl s k) x)), (6, .int (gOut (sl s k) x)), (7, .int (gWrt (sl s k) x)), (8, .int (amt (gOut (sl s k) x))), (9, .int (nI (11 - (i + 1))))]) (G' := ov m (mC E m (shA (gS6 s k x tk) (100 * k + (85 + (11 - (i + 1)))) (100 * k + 96)) (vp_updL su k ((su (k)) + ((amt (gOut (sl s k) x)).toInt64))) st tx ty re ca at_ to) G) (by rw [show 11 - i = (11 - (i + 1)) + 1 by omega, pk_m1]) (by rw [shA_step (lo' := 100 * k + (85 + (11 - (i + 1))))] <;> omega) rfl ?_
                exact ih (i + 1) (by omega)
            refine x_to (L' := [(0, .ref m), (1, .int (nI k)), (2, .int x), (3, .int (nI (100 * k))), (4, .int (gSum (sl s k) x 4)), (5, .int (gRg (sl s k) x)), (6, .int (gOut (sl s k) x)), (7, .int (gWrt (sl s k) x)), (8, .int (amt (gOut (sl s k) x))), (9, .int (nI (11 - 0)))]) (G' := ov m (mC E m (shA (gS6 s k x tk) (100 * k + (85 + (11 - 0))) (100 * k + 96)) (vp_updL su k ((su (k)) + ((amt (gOut (sl s k) x)).toInt64))) st tx ty re ca at_ to) G) rfl (by rw [shA_0]) rfl ?_
            exact lp252 _ 0 (Nat.add_sub_cancel' (by omega))
          refine x_icmp_le C 226 dX9_goes_218 rfl (fun c218 => ?_) (fun c218 => ?_)
          · refine x_aload_n C dX9_goes_226 1 rfl ?_
            refine x_get C (xlo (i := 0) hb_m) (xhi (i := 0) hn_m rfl) (ov_at (i := 0) rfl) f_X9_7 rfl dX9_goes_227 ?_
            refine x_iload_n C dX9_goes_230 4 rfl ?_
            refine x_bipush C 82 dX9_goes_231 rfl ?_
            refine x_iadd C dX9_goes_233 ?_
            refine x_v (w := .int (nI (100 * k + 82))) (congrArg Value.int (natAdd (a := 100 * k) (b := 82) (by omega))) ?_
            refine x_iald C ((gS5 s k x tk) (100 * k + 82)) (xlo (i := 1) hb_m) (xhi (i := 1) hn_m rfl) (ov_at (i := 1) rfl) (vp_in_nI (by omega) (by decide)) (by rw [nI_clamp (by omega)]) dX9_goes_234 ?_
            exact mg2 _ (by simp [if_true, c218])
          · refine x_iload C dX9_goes_221 0 rfl ?_
            refine x_goto C 235 dX9_goes_223 rfl ?_
            exact mg2 _ (by simp [if_true, c218])
        | succ d ih =>
          intro i hd
          have hi : i < 64 - tk - 1 := by omega
          refine x_iload C dX9_goes_140 8 rfl ?_
          refine x_if_le C 171 dX9_goes_142 rfl (fun c => absurd c (nI_nle (by omega) (by omega))) (fun _ => ?_)
          refine x_aload_n C dX9_goes_145 0 rfl ?_
          refine x_get C (xlo (i := 0) hb_m) (xhi (i := 0) hn_m rfl) (ov_at (i := 0) rfl) f_X9_7 rfl dX9_goes_146 ?_
          refine x_iload_n C dX9_goes_149 3 rfl ?_
          refine x_iload C dX9_goes_150 8 rfl ?_
          refine x_iadd C dX9_goes_152 ?_
          refine x_v (w := .int (nI (100 * k + (64 - tk - 1 - i)))) (congrArg Value.int (natAdd (a := 100 * k) (b := 64 - tk - 1 - i) (by omega))) ?_
          refine x_aload_n C dX9_goes_153 0 rfl ?_
          refine x_get C (xlo (i := 0) hb_m) (xhi (i := 0) hn_m rfl) (ov_at (i := 0) rfl) f_X9_7 rfl dX9_goes_154 ?_
          refine x_iload_n C dX9_goes_157 3 rfl ?_
          refine x_iload C dX9_goes_158 8 rfl ?_
          refine x_iadd C dX9_goes_160 ?_
          refine x_v (w := .int (nI (100 * k + (64 - tk - 1 - i)))) (congrArg Value.int (natAdd (a := 100 * k) (b := 64 - tk - 1 - i) (by omega))) ?_
          refine x_iconst C 1 dX9_goes_161 rfl ?_
          refine x_isub C dX9_goes_162 ?_
          refine x_v (w := .int (nI (100 * k + ((64 - tk - 1 - i) - 1)))) (congrArg Value.int (natSub (a := 100 * k + (64 - tk - 1 - i)) (b := 1) (by omega))) ?_
          refine x_iald C ((shA (gS2 s k x) (100 * k + (64 - tk - 1 - i)) (100 * k + (64 - tk - 1))) (100 * k + ((64 - tk - 1 - i) - 1))) (xlo (i := 1) hb_m) (xhi (i := 1) hn_m rfl) (ov_at (i := 1) rfl) (vp_in_nI (by omega) (by decide)) (by rw [nI_clamp (by omega)]) dX9_goes_163 ?_
          refine x_iast (G' := ov m (mC E m (upd (shA (gS2 s k x) (100 * k + (64 - tk - 1 - i)) (100 * k + (64 - tk - 1))) (100 * k + (64 - tk - 1 - i)) ((shA (gS2 s k x) (100 * k + (64 - tk - 1 - i)) (100 * k + (64 - tk - 1))) (100 * k + ((64 - tk - 1 - i) - 1)))) su st tx ty re ca at_ to) G) C (100 * k + (64 - tk - 1 - i)) (xlo (i := 1) hb_m) (xhi (i := 1) hn_m rfl) (ov_at (i := 1) rfl) (vp_in_nI (by omega) (by decide)) (nI_clamp (by omega)) (ov_set (i := 1) rfl rfl) dX9_goes_164 ?_
          refine x_iinc (L' := [(8, .int ((nI (64 - tk - 1 - i)) + (-1))), (0, .ref m), (1, .int (nI k)), (2, .int x), (3, .int (nI (100 * k))), (4, .int (gSum (sl s k) x 4)), (5, .int (gRg (sl s k) x)), (6, .int (gOut (sl s k) x)), (7, .int (gWrt (sl s k) x))]) C ((nI (64 - tk - 1 - i)) + (-1)) dX9_goes_165 8 rfl rfl rfl rfl ?_
          refine x_goto C 140 dX9_goes_168 rfl ?_
          refine x_perm (L' := [(0, .ref m), (1, .int (nI k)), (2, .int x), (3, .int (nI (100 * k))), (4, .int (gSum (sl s k) x 4)), (5, .int (gRg (sl s k) x)), (6, .int (gOut (sl s k) x)), (7, .int (gWrt (sl s k) x)), (8, .int ((nI (64 - tk - 1 - i)) + (-1)))]) [1, 2, 3, 4, 5, 6, 7, 8, 0] rfl ?_
          refine x_to (L' := [(0, .ref m), (1, .int (nI k)), (2, .int x), (3, .int (nI (100 * k))), (4, .int (gSum (sl s k) x 4)), (5, .int (gRg (sl s k) x)), (6, .int (gOut (sl s k) x)), (7, .int (gWrt (sl s k) x)), (8, .int (nI (64 - tk - 1 - (i + 1))))]) (G' := ov m (mC E m (shA (gS2 s k x) (100 * k + (64 - tk - 1 - (i + 1))) (100 * k + (64 - tk - 1))) su st tx ty re ca at_ to) G) (by rw [show 64 - tk - 1 - i = (64 - tk - 1 - (i + 1)) + 1 by omega, pk_m1]) (by rw [shA_step (lo' := 100 * k + (64 - tk - 1 - (i + 1)))] <;> omega) rfl ?_
          exact ih (i + 1) (by omega)
      refine x_to (L' := [(0, .ref m), (1, .int (nI k)), (2, .int x), (3, .int (nI (100 * k))), (4, .int (gSum (sl s k) x 4)), (5, .int (gRg (sl s k) x)), (6, .int (gOut (sl s k) x)), (7, .int (gWrt (sl s k) x)), (8, .int (nI (64 - tk - 1 - 0)))]) (G' := ov m (mC E m (shA (gS2 s k x) (100 * k + (64 - tk - 1 - 0)) (100 * k + (64 - tk - 1))) su st tx ty re ca at_ to) G) rfl (by rw [Nat.sub_zero, shA_0]) rfl ?_
      exact lp140 _ 0 (Nat.add_sub_cancel' (by omega))
    | succ d ih =>
      intro i hd
      have hi : i < 4 := by omega
      refine x_iload C dX9_goes_11 5 rfl ?_
      refine x_iconst C 4 dX9_goes_13 rfl ?_
      refine x_icmp_ge C 55 dX9_goes_14 rfl (fun c => absurd c (nI_ge (b := 4) (by omega) (by omega))) (fun _ => ?_)
      refine x_iload C dX9_goes_17 4 rfl ?_
      refine x_aload_n C dX9_goes_19 0 rfl ?_
      refine x_get C (xlo (i := 0) hb_m) (xhi (i := 0) hn_m rfl) (ov_at (i := 0) rfl) f_X9_7 rfl dX9_goes_20 ?_
      refine x_iload_n C dX9_goes_23 3 rfl ?_
      refine x_bipush C 65 dX9_goes_24 rfl ?_
      refine x_iadd C dX9_goes_26 ?_
      refine x_v (w := .int (nI (100 * k + 65))) (congrArg Value.int (natAdd (a := 100 * k) (b := 65) (by omega))) ?_
      refine x_iload C dX9_goes_27 5 rfl ?_
      refine x_iadd C dX9_goes_29 ?_
      refine x_v (w := .int (nI (100 * k + (65 + i)))) (congrArg Value.int (natAdd (a := 100 * k + 65) (b := i) (by omega))) ?_
      refine x_iald C (s (100 * k + (65 + i))) (xlo (i := 1) hb_m) (xhi (i := 1) hn_m rfl) (ov_at (i := 1) rfl) (vp_in_nI (by omega) (by decide)) (by rw [nI_clamp (by omega)]) dX9_goes_30 ?_
      refine x_iconst C 1 dX9_goes_31 rfl ?_
      refine x_icmp_ne C 45 dX9_goes_32 rfl (fun c32 => ?_) (fun c32 => ?_)
      · refine x_iconst C 0 dX9_goes_45 rfl ?_
        refine x_iadd C dX9_goes_46 ?_
        refine x_istore (L' := [(4, .int ((gSum (sl s k) x i) + 0)), (0, .ref m), (1, .int (nI k)), (2, .int x), (3, .int (nI (100 * k))), (5, .int (nI i))]) C dX9_goes_47 rfl rfl ?_
        refine x_iinc (L' := [(5, .int ((nI i) + 1)), (4, .int ((gSum (sl s k) x i) + 0)), (0, .ref m), (1, .int (nI k)), (2, .int x), (3, .int (nI (100 * k)))]) C ((nI i) + 1) dX9_goes_49 5 rfl rfl rfl rfl ?_
        refine x_goto C 11 dX9_goes_52 rfl ?_
        refine x_perm (L' := [(0, .ref m), (1, .int (nI k)), (2, .int x), (3, .int (nI (100 * k))), (4, .int ((gSum (sl s k) x i) + 0)), (5, .int ((nI i) + 1))]) [2, 3, 4, 5, 1, 0] rfl ?_
        refine x_to (L' := [(0, .ref m), (1, .int (nI k)), (2, .int x), (3, .int (nI (100 * k))), (4, .int (gSum (sl s k) x (i + 1))), (5, .int (nI (i + 1)))]) (G' := ov m (mC E m s su st tx ty re ca at_ to) G) (by simp only [nI_succ, gSum, if_neg c32]; first | done | rfl) rfl rfl ?_
        exact ih (i + 1) (by omega)
      · obtain ⟨d, hd, hd1, hd2⟩ := hD i (by omega) (Or.inr c32)
        refine x_aload_n C dX9_goes_35 0 rfl ?_
        refine x_iload_n C dX9_goes_36 1 rfl ?_
        refine x_iload C dX9_goes_37 5 rfl ?_
        refine x_cV1 C (c_X9_share E N m _ s su st tx ty re ca at_ to k i d (by first | assumption | omega | decide) (by first | assumption | omega | decide) (by first | assumption | omega | decide) (by first | assumption | omega | decide) (by first | assumption | omega | decide) hb_m hn_m) v_X9_48 hN (xlo (i := 0) hb_m) (xhi (i := 0) hn_m rfl) (ov_at (i := 0) rfl) rfl rfl rfl rfl rfl dX9_goes_39 ?_
        refine x_goto C 46 dX9_goes_42 rfl ?_
        refine x_iadd C dX9_goes_46 ?_
        refine x_topi (fun z3 ez3 => ?_)
        refine x_istore (L' := [(4, .int z3), (0, .ref m), (1, .int (nI k)), (2, .int x), (3, .int (nI (100 * k))), (5, .int (nI i))]) C dX9_goes_47 rfl rfl ?_
        refine x_iinc (L' := [(5, .int ((nI i) + 1)), (4, .int z3), (0, .ref m), (1, .int (nI k)), (2, .int x), (3, .int (nI (100 * k)))]) C ((nI i) + 1) dX9_goes_49 5 rfl rfl rfl rfl ?_
        refine x_goto C 11 dX9_goes_52 rfl ?_
        refine x_perm (L' := [(0, .ref m), (1, .int (nI k)), (2, .int x), (3, .int (nI (100 * k))), (4, .int z3), (5, .int ((nI i) + 1))]) [2, 3, 4, 5, 1, 0] rfl ?_
        subst ez3
        refine x_to (L' := [(0, .ref m), (1, .int (nI k)), (2, .int x), (3, .int (nI (100 * k))), (4, .int (gSum (sl s k) x (i + 1))), (5, .int (nI (i + 1)))]) (G' := ov m (mC E m s su st tx ty re ca at_ to) G) (by simp only [nI_succ, gSum, if_pos c32]; first | done | rfl) rfl rfl ?_
        exact ih (i + 1) (by omega)
  refine x_to (L' := [(0, .ref m), (1, .int (nI k)), (2, .int x), (3, .int (nI (100 * k))), (4, .int (gSum (sl s k) x 0)), (5, .int (nI 0))]) (G' := ov m (mC E m s su st tx ty re ca at_ to) G) rfl rfl rfl ?_
  exact lp11 _ 0 (Nat.add_sub_cancel' (by omega))

