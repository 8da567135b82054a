/-! ===== the class's small functions ===== -/
def jth (g x : Int32) : Int32 := g * x / 1000
/-- a number held by a shape -/
def shp (x sh li : Int32) : Int32 :=
  let a := iabs x
  let h := if sh = 1 then (if a ≤ li / 2 then a else imin (li / 2 + (a - li / 2) / 2) li) else (if a ≤ li then a else if sh = 2 then 0 else li)
  if 0 ≤ x then h else -h
def rIx (fi i : Int32) : Nat := ((fi + i) &&& 63).toNatClampNeg
def rAt (w : Nat → Int32) (fi le i : Int32) : Int32 := if i < 0 then 0 else if i < le then w (rIx fi i) else 0
def rowOk (x : Int32) : Bool := !decide (x < 0) && !decide (5 ≤ x)
theorem bI_n (b : Bool) : narrow .boolean (.int (bI b)) = .int (bI b) := by cases b <;> rfl
def eSam (x : Int32) : Int32 := if inR x (-20000) 20000 = true then 0 else -1000001
def eSil (x : Int32) : Int32 := if inR x 1 200 = true then 0 else -1000001
def eTap (t d g : Int32) : Int32 := if inR t 0 3 = true then if inR d 1 64 = true then if inR g (-900) 900 = true then 0 else -1000001 else -1000001 else -1000001
def eFee (d g : Int32) : Int32 := if inR d 1 64 = true then if inR g 0 950 = true then 0 else -1000001 else -1000001
def eSte (w o : Int32) : Int32 := if inR w 1 48 = true then if o + w ≤ 48 then 0 else -1000003 else -1000001
def eGiv (w o : Int32) : Int32 := if inR w 1 48 = true then if w ≤ o then 0 else -1000002 else -1000001
def okSet (w v : Int32) : Bool := if w = 0 then inR v 100 30000 else if w = 1 then inR v 0 2 else false
theorem vp_in_d {x : Int32} {n : Nat} (h : (decide (0 ≤ x.toInt) && decide (x.toInt < (n : Int))) = true) : vp_in x n := by
  rw [Bool.and_eq_true, decide_eq_true_eq, decide_eq_true_eq] at h
  exact vp_in_iff.mpr h
theorem vp_in_lt2 {x M : Int32} {n : Nat} (hM : M.toInt = n) (h1 : ¬ x < 0) (h2 : x < M) : vp_in x n := vp_in_lt hM h1 (fun h => absurd (Int32.lt_iff_toInt_lt.mp h2) (by have := Int32.le_iff_toInt_le.mp h; omega))
/-- Math.floorMod -/
def jfm (x y : Int32) : Int32 := let r := x - x / y * y; if 0 ≤ (x ^^^ y) then r else if r = 0 then r else r + y
def rFi (fi : Int32) : Int32 := (fi - 1) &&& 63
def rWr (w : Nat → Int32) (fi x : Int32) : Nat → Int32 := upd w (rFi fi &&& 63).toNatClampNeg x
def rZf (w : Nat → Int32) (fi : Int32) (l : Nat) : Nat → (Nat → Int32)
  | 0 => w
  | n + 1 => upd (rZf w fi l n) ((fi + nI (l + n)) &&& 63).toNatClampNeg 0
def cntAb (f : Nat → Int32) (a : Int32) : Nat → Int32
  | 0 => 0
  | n + 1 => cntAb f a n + (if iabs (f n) ≤ a then 0 else 1)
def sumAb (f : Nat → Int32) : Nat → Int32
  | 0 => 0
  | n + 1 => sumAb f n + iabs (f n)
def oNx (ne : Int32) : Int32 := if ne < 0 then 0 else if ne < 12 then ne else 0
def tAt (ch : Nat → Int32) (tl p : Int32) : Int32 := if p < 0 then -1 else if tl ≤ p then -1 else if p < 60 then ch p.toNatClampNeg else -1
def nAt (nu : Nat → Int32) (i : Int32) : Int32 := if i < 0 then 0 else if 3 ≤ i then 0 else nu i.toNatClampNeg
def isDg (c : Int32) : Bool := !decide (c < 48) && !decide (57 < c)
theorem imin64 {l k : Nat} (h : l + k ≤ 64) : (if (64 : Int32) < nI l + nI k then 64 else nI l + nI k) = nI (l + k) := by
  rw [nI_add, if_neg (show ¬ (64 : Int32) < nI (l + k) from nI_nlt (a := 64) h (by omega))]
theorem not_le_of_lt32 {a b : Int32} (h : a < b) : ¬ b ≤ a := fun q => by
  have h1 := Int32.lt_iff_toInt_lt.mp h
  have h2 := Int32.le_iff_toInt_le.mp q
  omega
def oAt (ro : Nat → Int32) (ne ke x : Int32) : Int32 := if x < 0 then 0 else if x < ke then ro (jfm (ne - 1 - x) 12).toNatClampNeg else 0
theorem xor_pos {x y : Int32} (hy : 0 ≤ y.toInt) : (0 ≤ (x ^^^ y)) ↔ 0 ≤ x.toInt := by
  have e : (x ^^^ y).toBitVec.msb = (x.toBitVec.msb ^^ y.toBitVec.msb) := by
    rw [Int32.toBitVec_xor, BitVec.msb_xor]
  rw [BitVec.msb_eq_toInt, BitVec.msb_eq_toInt, BitVec.msb_eq_toInt] at e
  have h2 : decide (y.toBitVec.toInt < 0) = false := decide_eq_false (by have : y.toBitVec.toInt = y.toInt := rfl; omega)
  rw [h2, Bool.xor_false] at e
  have e2 := decide_eq_decide.mp e
  rw [Int32.le_iff_toInt_le]
  have a1 : (x ^^^ y).toBitVec.toInt = (x ^^^ y).toInt := rfl
  have a2 : x.toBitVec.toInt = x.toInt := rfl
  have z : (0 : Int32).toInt = 0 := rfl
  rw [a1, a2] at e2
  omega
theorem jfm_toInt {x y : Int32} (h1 : 1 ≤ y.toInt) (h2 : y.toInt ≤ 1000) : (jfm x y).toInt = x.toInt % y.toInt := by
  have hx := Int32.le_toInt x
  have hx2 := Int32.toInt_lt x
  have hy : y ≠ -1 := fun h => by rw [h] at h1; exact absurd h1 (by decide)
  have q := Int.mul_tdiv_add_tmod x.toInt y.toInt
  have q2 := Int.tmod_eq_emod (a := x.toInt) (b := y.toInt)
  have q3 := Int.emod_nonneg x.toInt (b := y.toInt) (by omega)
  have q4 := Int.emod_lt_of_pos x.toInt (b := y.toInt) (by omega)
  have er : (x - x / y * y).toInt = x.toInt.tmod y.toInt := by
    rw [Int32.toInt_sub, Int32.toInt_mul, Int32.toInt_div_of_ne_right _ _ hy, Int.sub_bmod, Int.bmod_bmod, ← Int.sub_bmod, Int.mul_comm]
    rw [show x.toInt - y.toInt * x.toInt.tdiv y.toInt = x.toInt.tmod y.toInt by omega]
    refine Int.bmod_eq_of_le ?_ ?_ <;> · rw [q2]; split <;> omega
  unfold jfm
  have c1 := xor_pos (x := x) (y := y) (by omega)
  have em : x.toInt.tmod y.toInt = x.toInt % y.toInt - (if 0 ≤ x.toInt ∨ y.toInt ∣ x.toInt then 0 else y.toInt) := by
    rw [q2]
    split
    · omega
    · rw [show ((y.toInt.natAbs : Nat) : Int) = y.toInt by omega]
  by_cases h : 0 ≤ x.toInt
  · rw [if_pos (c1.mpr h), er, em, if_pos (Or.inl h)]
    omega
  · rw [if_neg (fun z => h (c1.mp z))]
    by_cases h0 : x - x / y * y = 0
    · rw [if_pos h0, er]
      rw [h0] at er
      have z : (0 : Int32).toInt = 0 := rfl
      by_cases hd : y.toInt ∣ x.toInt
      · rw [em, if_pos (Or.inr hd)]
        omega
      · rw [if_neg (by omega)] at em
        have := Int.emod_emod_of_dvd x.toInt (Int.dvd_refl y.toInt)
        omega
    · rw [if_neg h0]
      have hd : ¬ y.toInt ∣ x.toInt := fun hd => h0 (Int32.toInt_inj.mp (by
        rw [er, em, if_pos (Or.inr hd)]
        have := Int.emod_eq_zero_of_dvd hd
        have z : (0 : Int32).toInt = 0 := rfl
        omega))
      rw [if_neg (by omega)] at em
      rw [Int32.toInt_add, er, em]
      rw [show x.toInt % y.toInt - y.toInt + y.toInt = x.toInt % y.toInt by omega]
      exact Int.bmod_eq_of_le (by omega) (by omega)
theorem jfm_in12 (x : Int32) : vp_in (jfm x 12) 12 := by
  have h := jfm_toInt (x := x) (y := 12) (by decide) (by decide)
  have e : (12 : Int32).toInt = 12 := rfl
  rw [e] at h
  exact vp_in_iff.mpr ⟨by omega, by omega⟩
set_option maxRecDepth 100000 in
set_option maxHeartbeats 4000000 in
theorem c_X8_isWithin (E : XE) (N : Nat) (G : GW) (x lo_ hi_ : Int32) : MF E yX8_isWithin cX8_isWithin 3 (some .boolean) 0 0 0 0 [.int x, .int lo_, .int hi_] N (G) (some (.int (bI (inR x lo_ hi_)))) (G) := by
  refine MF.mk RX8 rfl (by decide +kernel) rfl (fun K C Z hin hN => ?_)
  show XW E K 3 N 0 0 _ 0 [(0, .int x), (1, .int lo_), (2, .int hi_)] []
  refine x_iload_n C dX8_isWithin_0 0 rfl ?_
  refine x_iload_n C dX8_isWithin_1 1 rfl ?_
  refine x_icmp_lt C 14 dX8_isWithin_2 rfl (fun c2 => ?_) (fun c2 => ?_)
  · refine x_iconst C 0 dX8_isWithin_14 rfl ?_
    exact x_iret C Z rfl rfl (by simp [bI, inR, c2]) rfl dX8_isWithin_15
  · refine x_iload_n C dX8_isWithin_5 0 rfl ?_
    refine x_iload_n C dX8_isWithin_6 2 rfl ?_
    refine x_icmp_gt C 14 dX8_isWithin_7 rfl (fun c7 => ?_) (fun c7 => ?_)
    · refine x_iconst C 0 dX8_isWithin_14 rfl ?_
      exact x_iret C Z rfl rfl (by simp [bI, inR, c2, c7]) rfl dX8_isWithin_15
    · refine x_iconst C 1 dX8_isWithin_10 rfl ?_
      refine x_goto C 15 dX8_isWithin_11 rfl ?_
      exact x_iret C Z rfl rfl (by simp [bI, inR, c2, c7]) rfl dX8_isWithin_15

set_option maxRecDepth 100000 in
set_option maxHeartbeats 4000000 in
theorem c_X8_isTap (E : XE) (N : Nat) (G : GW) (x : Int32) : MF E yX8_isTap cX8_isTap 1 (some .boolean) 1 22 0 0 [.int x] N (G) (some (.int (bI (inR x 0 3)))) (G) := by
  refine MF.mk RX8 rfl (by decide +kernel) rfl (fun K C Z hin hN => ?_)
  show XW E K 1 N 0 0 _ 0 [(0, .int x)] []
  refine x_iload_n C dX8_isTap_0 0 rfl ?_
  refine x_iconst C 0 dX8_isTap_1 rfl ?_
  refine x_iconst C 3 dX8_isTap_2 rfl ?_
  refine x_cS1 C (c_X8_isWithin E N _ x 0 3) v_X8_140 hN rfl rfl rfl rfl dX8_isTap_3 ?_
  exact x_iret C Z rfl (bI_n _) rfl rfl dX8_isTap_6

set_option maxRecDepth 100000 in
set_option maxHeartbeats 4000000 in
theorem c_X8_isSample (E : XE) (N : Nat) (G : GW) (x : Int32) : MF E yX8_isSample cX8_isSample 1 (some .boolean) 1 22 0 0 [.int x] N (G) (some (.int (bI (inR x (-20000) 20000)))) (G) := by
  refine MF.mk RX8 rfl (by decide +kernel) rfl (fun K C Z hin hN => ?_)
  show XW E K 1 N 0 0 _ 0 [(0, .int x)] []
  refine x_iload_n C dX8_isSample_0 0 rfl ?_
  refine x_sipush C (-20000) dX8_isSample_1 rfl ?_
  refine x_sipush C 20000 dX8_isSample_4 rfl ?_
  refine x_cS1 C (c_X8_isWithin E N _ x (-20000) 20000) v_X8_140 hN rfl rfl rfl rfl dX8_isSample_7 ?_
  exact x_iret C Z rfl (bI_n _) rfl rfl dX8_isSample_10

set_option maxRecDepth 100000 in
set_option maxHeartbeats 4000000 in
theorem c_X8_thousandths (E : XE) (N : Nat) (G : GW) (g x : Int32) : MF E yX8_thousandths cX8_thousandths 2 (some .int) 0 0 0 0 [.int g, .int x] N (G) (some (.int (jth g x))) (G) := by
  refine MF.mk RX8 rfl (by decide +kernel) rfl (fun K C Z hin hN => ?_)
  show XW E K 2 N 0 0 _ 0 [(0, .int g), (1, .int x)] []
  refine x_iload_n C dX8_thousandths_0 0 rfl ?_
  refine x_iload_n C dX8_thousandths_1 1 rfl ?_
  refine x_imul C dX8_thousandths_2 ?_
  refine x_sipush C 1000 dX8_thousandths_3 rfl ?_
  refine x_idiv C dX8_thousandths_6 (by decide) ?_
  exact x_iret C Z rfl rfl rfl rfl dX8_thousandths_7

set_option maxRecDepth 100000 in
set_option maxHeartbeats 4000000 in
theorem c_X8_shaped (E : XE) (N : Nat) (G : GW) (x sh li : Int32) : MF E yX8_shaped cX8_shaped 6 (some .int) 1 21 0 0 [.int x, .int sh, .int li] N (G) (some (.int (shp x sh li))) (G) := by
  refine MF.mk RX8 rfl (by decide +kernel) rfl (fun K C Z hin hN => ?_)
  show XW E K 6 N 0 0 _ 0 [(0, .int x), (1, .int sh), (2, .int li)] []
  refine x_iload_n C dX8_shaped_0 0 rfl ?_
  refine x_mabs C m_216 rfl rfl rfl rfl dX8_shaped_1 ?_
  refine x_istore_n (L' := [(3, .int (iabs x)), (0, .int x), (1, .int sh), (2, .int li)]) C dX8_shaped_4 rfl rfl ?_
  refine x_iload_n C dX8_shaped_5 0 rfl ?_
  refine x_istore (L' := [(4, .int (iabs x)), (3, .int (iabs x)), (0, .int x), (1, .int sh), (2, .int li)]) C dX8_shaped_6 rfl rfl ?_
  refine x_iload_n C dX8_shaped_8 3 rfl ?_
  refine x_iconst C 1 dX8_shaped_9 rfl ?_
  refine x_icmp_ne C 42 dX8_shaped_10 rfl (fun c10 => ?_) (fun c10 => ?_)
  · refine x_iload_n C dX8_shaped_42 1 rfl ?_
    refine x_iload_n C dX8_shaped_43 4 rfl ?_
    refine x_icmp_le C 59 dX8_shaped_44 rfl (fun c44 => ?_) (fun c44 => ?_)
    · refine x_iload_n C dX8_shaped_59 2 rfl ?_
      refine x_if_ge C 69 dX8_shaped_60 rfl (fun c60 => ?_) (fun c60 => ?_)
      · refine x_iload C dX8_shaped_69 0 rfl ?_
        exact x_iret C Z rfl rfl (by simp [shp, imin, c10, c44, c60]) rfl dX8_shaped_71
      · refine x_iload C dX8_shaped_63 0 rfl ?_
        refine x_ineg C dX8_shaped_65 ?_
        refine x_goto C 71 dX8_shaped_66 rfl ?_
        exact x_iret C Z rfl rfl (by simp [shp, imin, c10, c44, c60]) rfl dX8_shaped_71
    · refine x_iload_n C dX8_shaped_47 3 rfl ?_
      refine x_iconst C 2 dX8_shaped_48 rfl ?_
      refine x_icmp_ne C 56 dX8_shaped_49 rfl (fun c49 => ?_) (fun c49 => ?_)
      · refine x_iload_n C dX8_shaped_56 4 rfl ?_
        refine x_istore (L' := [(4, .int li), (3, .int (iabs x)), (0, .int x), (1, .int sh), (2, .int li)]) C dX8_shaped_57 rfl rfl ?_
        refine x_iload_n C dX8_shaped_59 2 rfl ?_
        refine x_if_ge C 69 dX8_shaped_60 rfl (fun c60 => ?_) (fun c60 => ?_)
        · refine x_iload C dX8_shaped_69 0 rfl ?_
          exact x_iret C Z rfl rfl (by simp [shp, imin, c10, c44, c49, c60]) rfl dX8_shaped_71
        · refine x_iload C dX8_shaped_63 0 rfl ?_
          refine x_ineg C dX8_shaped_65 ?_
          refine x_goto C 71 dX8_shaped_66 rfl ?_
          exact x_iret C Z rfl rfl (by simp [shp, imin, c10, c44, c49, c60]) rfl dX8_shaped_71
      · refine x_iconst C 0 dX8_shaped_52 rfl ?_
        refine x_goto C 57 dX8_shaped_53 rfl ?_
        refine x_istore (L' := [(4, .int 0), (3, .int (iabs x)), (0, .int x), (1, .int sh), (2, .int li)]) C dX8_shaped_57 rfl rfl ?_
        refine x_iload_n C dX8_shaped_59 2 rfl ?_
        refine x_if_ge C 69 dX8_shaped_60 rfl (fun c60 => ?_) (fun c60 => ?_)
        · refine x_iload C dX8_shaped_69 0 rfl ?_
          exact x_iret C Z rfl rfl (by simp [shp, imin, c10, c44, c49, c60]) rfl dX8_shaped_71
        · refine x_iload C dX8_shaped_63 0 rfl ?_
          refine x_ineg C dX8_shaped_65 ?_
          refine x_goto C 71 dX8_shaped_66 rfl ?_
          exact x_iret C Z rfl rfl (by simp [shp, imin, c10, c44, c49, c60]) rfl dX8_shaped_71
  · refine x_iload_n C dX8_shaped_13 4 rfl ?_
    refine x_iconst C 2 dX8_shaped_14 rfl ?_
    refine x_idiv C dX8_shaped_15 (by decide) ?_
    refine x_istore (L' := [(5, .int (li / 2)), (4, .int (iabs x)), (3, .int (iabs x)), (0, .int x), (1, .int sh), (2, .int li)]) C dX8_shaped_16 rfl rfl ?_
    refine x_iload_n C dX8_shaped_18 2 rfl ?_
    refine x_iload C dX8_shaped_19 0 rfl ?_
    refine x_icmp_le C 39 dX8_shaped_21 rfl (fun c21 => ?_) (fun c21 => ?_)
    · refine x_goto C 59 dX8_shaped_39 rfl ?_
      refine x_iload_n C dX8_shaped_59 3 rfl ?_
      refine x_if_ge C 69 dX8_shaped_60 rfl (fun c60 => ?_) (fun c60 => ?_)
      · refine x_iload C dX8_shaped_69 1 rfl ?_
        exact x_iret C Z rfl rfl (by simp [shp, imin, c10, c21, c60]) rfl dX8_shaped_71
      · refine x_iload C dX8_shaped_63 1 rfl ?_
        refine x_ineg C dX8_shaped_65 ?_
        refine x_goto C 71 dX8_shaped_66 rfl ?_
        exact x_iret C Z rfl rfl (by simp [shp, imin, c10, c21, c60]) rfl dX8_shaped_71
    · refine x_iload C dX8_shaped_24 0 rfl ?_
      refine x_iload_n C dX8_shaped_26 2 rfl ?_
      refine x_iload C dX8_shaped_27 0 rfl ?_
      refine x_isub C dX8_shaped_29 ?_
      refine x_iconst C 2 dX8_shaped_30 rfl ?_
      refine x_idiv C dX8_shaped_31 (by decide) ?_
      refine x_iadd C dX8_shaped_32 ?_
      refine x_iload_n C dX8_shaped_33 5 rfl ?_
      refine x_mmin C m_219 rfl rfl rfl rfl dX8_shaped_34 ?_
      refine x_topi (fun z1 ez1 => ?_)
      refine x_istore (L' := [(4, .int z1), (5, .int (li / 2)), (3, .int (iabs x)), (0, .int x), (1, .int sh), (2, .int li)]) C dX8_shaped_37 rfl rfl ?_
      refine x_goto C 59 dX8_shaped_39 rfl ?_
      refine x_iload_n C dX8_shaped_59 3 rfl ?_
      refine x_if_ge C 69 dX8_shaped_60 rfl (fun c60 => ?_) (fun c60 => ?_)
      · refine x_iload C dX8_shaped_69 0 rfl ?_
        subst ez1
        exact x_iret C Z rfl rfl (by simp [shp, imin, c10, c21, c60]) rfl dX8_shaped_71
      · refine x_iload C dX8_shaped_63 0 rfl ?_
        refine x_ineg C dX8_shaped_65 ?_
        refine x_goto C 71 dX8_shaped_66 rfl ?_
        subst ez1
        exact x_iret C Z rfl rfl (by simp [shp, imin, c10, c21, c60]) rfl dX8_shaped_71

set_option maxRecDepth 100000 in
set_option maxHeartbeats 4000000 in
theorem c_X6_isRow (E : XE) (N : Nat) (G : GW) (x : Int32) : MF E yX6_isRow cX6_isRow 1 (some .boolean) 0 0 0 0 [.int x] N (G) (some (.int (bI (rowOk x)))) (G) := by
  refine MF.mk RX6 rfl (by decide +kernel) rfl (fun K C Z hin hN => ?_)
  show XW E K 1 N 0 0 _ 0 [(0, .int x)] []
  refine x_iload_n C dX6_isRow_0 0 rfl ?_
  refine x_if_lt C 13 dX6_isRow_1 rfl (fun c1 => ?_) (fun c1 => ?_)
  · refine x_iconst C 0 dX6_isRow_13 rfl ?_
    exact x_iret C Z rfl rfl (by simp [bI, rowOk, c1]) rfl dX6_isRow_14
  · refine x_iload_n C dX6_isRow_4 0 rfl ?_
    refine x_iconst C 5 dX6_isRow_5 rfl ?_
    refine x_icmp_ge C 13 dX6_isRow_6 rfl (fun c6 => ?_) (fun c6 => ?_)
    · refine x_iconst C 0 dX6_isRow_13 rfl ?_
      exact x_iret C Z rfl rfl (by simp [bI, rowOk, c1, c6]) rfl dX6_isRow_14
    · refine x_iconst C 1 dX6_isRow_9 rfl ?_
      refine x_goto C 14 dX6_isRow_10 rfl ?_
      exact x_iret C Z rfl rfl (by simp [bI, rowOk, c1, c6]) rfl dX6_isRow_14

set_option maxRecDepth 100000 in
set_option maxHeartbeats 4000000 in
theorem c_X5_wordAt (E : XE) (N b : Nat) (G : GW) (w : Nat → Int32) (fi le i : Int32) (hb_b : xB E ≤ b) (hn_b : b + 2 ≤ N) : MF E yX5_wordAt cX5_wordAt 2 (some .int) 0 0 0 0 [.ref b, .int i] N (ov b (ringC E b w fi le) G) (some (.int (rAt w fi le i))) (ov b (ringC E b w fi le) G) := by
  refine MF.mk RX5 rfl (by decide +kernel) rfl (fun K C Z hin hN => ?_)
  show XW E K 2 N 0 0 _ 0 [(0, .ref b), (1, .int i)] []
  refine x_iload_n C dX5_wordAt_0 1 rfl ?_
  refine x_if_lt C 12 dX5_wordAt_1 rfl (fun c1 => ?_) (fun c1 => ?_)
  · refine x_iconst C 0 dX5_wordAt_12 rfl ?_
    exact x_iret C Z rfl rfl (by simp [rAt, rIx, c1]) rfl dX5_wordAt_13
  · refine x_iload_n C dX5_wordAt_4 1 rfl ?_
    refine x_aload_n C dX5_wordAt_5 0 rfl ?_
    refine x_get C (xlo (i := 0) hb_b) (xhi (i := 0) hn_b rfl) (ov_at (i := 0) rfl) f_X5_15 rfl dX5_wordAt_6 ?_
    refine x_icmp_lt C 14 dX5_wordAt_9 rfl (fun c9 => ?_) (fun c9 => ?_)
    · refine x_aload_n C dX5_wordAt_14 0 rfl ?_
      refine x_get C (xlo (i := 0) hb_b) (xhi (i := 0) hn_b rfl) (ov_at (i := 0) rfl) f_X5_9 rfl dX5_wordAt_15 ?_
      refine x_aload_n C dX5_wordAt_18 0 rfl ?_
      refine x_get C (xlo (i := 0) hb_b) (xhi (i := 0) hn_b rfl) (ov_at (i := 0) rfl) f_X5_19 rfl dX5_wordAt_19 ?_
      refine x_iload_n C dX5_wordAt_22 1 rfl ?_
      refine x_iadd C dX5_wordAt_23 ?_
      refine x_bipush C 63 dX5_wordAt_24 rfl ?_
      refine x_iand C dX5_wordAt_26 ?_
      refine x_iald C (w ((fi + i) &&& 63).toNatClampNeg) (xlo (i := 1) hb_b) (xhi (i := 1) hn_b rfl) (ov_at (i := 1) rfl) (vp_in_and63 _) rfl dX5_wordAt_27 ?_
      exact x_iret C Z rfl rfl (by simp [rAt, rIx, c1, c9]) rfl dX5_wordAt_28
    · refine x_iconst C 0 dX5_wordAt_12 rfl ?_
      exact x_iret C Z rfl rfl (by simp [rAt, rIx, c1, c9]) rfl dX5_wordAt_13

set_option maxRecDepth 100000 in
set_option maxHeartbeats 4000000 in
theorem c_X8_isSetting (E : XE) (N : Nat) (G : GW) (w v : Int32) : MF E yX8_isSetting cX8_isSetting 2 (some .boolean) 1 22 0 0 [.int w, .int v] N (G) (some (.int (bI (okSet w v)))) (G) := by
  refine MF.mk RX8 rfl (by decide +kernel) rfl (fun K C Z hin hN => ?_)
  show XW E K 2 N 0 0 _ 0 [(0, .int w), (1, .int v)] []
  refine x_iload_n C dX8_isSetting_0 0 rfl ?_
  refine x_if_ne C 14 dX8_isSetting_1 rfl (fun c1 => ?_) (fun c1 => ?_)
  · refine x_iload_n C dX8_isSetting_14 0 rfl ?_
    refine x_iconst C 1 dX8_isSetting_15 rfl ?_
    refine x_icmp_ne C 32 dX8_isSetting_16 rfl (fun c16 => ?_) (fun c16 => ?_)
    · refine x_iconst C 0 dX8_isSetting_32 rfl ?_
      exact x_iret C Z rfl rfl (by simp [okSet, bI, c1, c16]) rfl dX8_isSetting_33
    · refine x_iload_n C dX8_isSetting_19 1 rfl ?_
      refine x_iconst C 0 dX8_isSetting_20 rfl ?_
      refine x_iconst C 2 dX8_isSetting_21 rfl ?_
      refine x_cS1 C (c_X8_isWithin E N _ v 0 2) v_X8_140 hN rfl rfl rfl rfl dX8_isSetting_22 ?_
      refine x_tb_eq C 32 33 dX8_isSetting_25 rfl dX8_isSetting_28 dX8_isSetting_29 rfl dX8_isSetting_32 rfl ?_
      exact x_iret C Z rfl (bI_n _) (by simp [okSet, bI, c1, c16]) rfl dX8_isSetting_33
  · refine x_iload_n C dX8_isSetting_4 1 rfl ?_
    refine x_bipush C 100 dX8_isSetting_5 rfl ?_
    refine x_sipush C 30000 dX8_isSetting_7 rfl ?_
    refine x_cS1 C (c_X8_isWithin E N _ v 100 30000) v_X8_140 hN rfl rfl rfl rfl dX8_isSetting_10 ?_
    exact x_iret C Z rfl (bI_n _) (by simp [okSet, bI, c1]) rfl dX8_isSetting_13

set_option maxRecDepth 100000 in
set_option maxHeartbeats 4000000 in
theorem c_X8_sampleError (E : XE) (N : Nat) (G : GW) (x : Int32) : MF E yX8_sampleError cX8_sampleError 1 (some .int) 2 42 0 0 [.int x] N (G) (some (.int (eSam x))) (G) := by
  refine MF.mk RX8 rfl (by decide +kernel) rfl (fun K C Z hin hN => ?_)
  show XW E K 1 N 0 0 _ 0 [(0, .int x)] []
  refine x_iload_n C dX8_sampleError_0 0 rfl ?_
  refine x_cS1 C (c_X8_isSample E N _ x) v_X8_178 hN rfl rfl rfl rfl dX8_sampleError_1 ?_
  refine x_ifb_eq C 11 dX8_sampleError_4 rfl (fun c4 => ?_) (fun c4 => ?_)
  · refine x_ldc C (-1000001) m_161 dX8_sampleError_11 ?_
    exact x_iret C Z rfl rfl (by simp [eSam, c4]) rfl dX8_sampleError_13
  · refine x_iconst C 0 dX8_sampleError_7 rfl ?_
    refine x_goto C 13 dX8_sampleError_8 rfl ?_
    exact x_iret C Z rfl rfl (by simp [eSam, c4]) rfl dX8_sampleError_13

set_option maxRecDepth 100000 in
set_option maxHeartbeats 4000000 in
theorem c_X8_tapError (E : XE) (N : Nat) (G : GW) (t d g : Int32) : MF E yX8_tapError cX8_tapError 4 (some .int) 2 42 0 0 [.int t, .int d, .int g] N (G) (some (.int (eTap t d g))) (G) := by
  refine MF.mk RX8 rfl (by decide +kernel) rfl (fun K C Z hin hN => ?_)
  show XW E K 4 N 0 0 _ 0 [(0, .int t), (1, .int d), (2, .int g)] []
  refine x_iload_n C dX8_tapError_0 0 rfl ?_
  refine x_cS1 C (c_X8_isTap E N _ t) v_X8_76 hN rfl rfl rfl rfl dX8_tapError_1 ?_
  refine x_ifb_eq C 34 dX8_tapError_4 rfl (fun c4 => ?_) (fun c4 => ?_)
  · refine x_iconst C 0 dX8_tapError_34 rfl ?_
    refine x_istore_n (L' := [(3, .int 0), (0, .int t), (1, .int d), (2, .int g)]) C dX8_tapError_35 rfl rfl ?_
    refine x_iload_n C dX8_tapError_36 0 rfl ?_
    refine x_if_eq C 44 dX8_tapError_37 rfl (fun _ => ?_) (fun c => absurd c (by decide))
    refine x_ldc C (-1000001) m_161 dX8_tapError_44 ?_
    exact x_iret C Z rfl rfl (by simp [eTap, c4]) rfl dX8_tapError_46
  · refine x_iload_n C dX8_tapError_7 1 rfl ?_
    refine x_iconst C 1 dX8_tapError_8 rfl ?_
    refine x_bipush C 64 dX8_tapError_9 rfl ?_
    refine x_cS1 C (c_X8_isWithin E N _ d 1 64) v_X8_140 hN rfl rfl rfl rfl dX8_tapError_11 ?_
    refine x_ifb_eq C 34 dX8_tapError_14 rfl (fun c14 => ?_) (fun c14 => ?_)
    · refine x_iconst C 0 dX8_tapError_34 rfl ?_
      refine x_istore_n (L' := [(3, .int 0), (0, .int t), (1, .int d), (2, .int g)]) C dX8_tapError_35 rfl rfl ?_
      refine x_iload_n C dX8_tapError_36 0 rfl ?_
      refine x_if_eq C 44 dX8_tapError_37 rfl (fun _ => ?_) (fun c => absurd c (by decide))
      refine x_ldc C (-1000001) m_161 dX8_tapError_44 ?_
      exact x_iret C Z rfl rfl (by simp [eTap, c4, c14]) rfl dX8_tapError_46
    · refine x_iload_n C dX8_tapError_17 2 rfl ?_
      refine x_sipush C (-900) dX8_tapError_18 rfl ?_
      refine x_sipush C 900 dX8_tapError_21 rfl ?_
      refine x_cS1 C (c_X8_isWithin E N _ g (-900) 900) v_X8_140 hN rfl rfl rfl rfl dX8_tapError_24 ?_
      refine x_tb_eq C 34 35 dX8_tapError_27 rfl dX8_tapError_30 dX8_tapError_31 rfl dX8_tapError_34 rfl ?_
      refine x_istore_n (L' := [(3, .int (bI (inR g (-900) 900))), (0, .int t), (1, .int d), (2, .int g)]) C dX8_tapError_35 rfl rfl ?_
      refine x_iload_n C dX8_tapError_36 0 rfl ?_
      refine x_ifb_eq C 44 dX8_tapError_37 rfl (fun c37 => ?_) (fun c37 => ?_)
      · refine x_ldc C (-1000001) m_161 dX8_tapError_44 ?_
        exact x_iret C Z rfl rfl (by simp [eTap, c4, c14, c37]) rfl dX8_tapError_46
      · refine x_iconst C 0 dX8_tapError_40 rfl ?_
        refine x_goto C 46 dX8_tapError_41 rfl ?_
        exact x_iret C Z rfl rfl (by simp [eTap, c4, c14, c37]) rfl dX8_tapError_46

set_option maxRecDepth 100000 in
set_option maxHeartbeats 4000000 in
theorem c_X8_feedbackError (E : XE) (N : Nat) (G : GW) (d g : Int32) : MF E yX8_feedbackError cX8_feedbackError 3 (some .int) 1 22 0 0 [.int d, .int g] N (G) (some (.int (eFee d g))) (G) := by
  refine MF.mk RX8 rfl (by decide +kernel) rfl (fun K C Z hin hN => ?_)
  show XW E K 3 N 0 0 _ 0 [(0, .int d), (1, .int g)] []
  refine x_iload_n C dX8_feedbackError_0 0 rfl ?_
  refine x_iconst C 1 dX8_feedbackError_1 rfl ?_
  refine x_bipush C 64 dX8_feedbackError_2 rfl ?_
  refine x_cS1 C (c_X8_isWithin E N _ d 1 64) v_X8_140 hN rfl rfl rfl rfl dX8_feedbackError_4 ?_
  refine x_ifb_eq C 25 dX8_feedbackError_7 rfl (fun c7 => ?_) (fun c7 => ?_)
  · refine x_iconst C 0 dX8_feedbackError_25 rfl ?_
    refine x_istore_n (L' := [(2, .int 0), (0, .int d), (1, .int g)]) C dX8_feedbackError_26 rfl rfl ?_
    refine x_iload_n C dX8_feedbackError_27 0 rfl ?_
    refine x_if_eq C 35 dX8_feedbackError_28 rfl (fun _ => ?_) (fun c => absurd c (by decide))
    refine x_ldc C (-1000001) m_161 dX8_feedbackError_35 ?_
    exact x_iret C Z rfl rfl (by simp [eFee, c7]) rfl dX8_feedbackError_37
  · refine x_iload_n C dX8_feedbackError_10 1 rfl ?_
    refine x_iconst C 0 dX8_feedbackError_11 rfl ?_
    refine x_sipush C 950 dX8_feedbackError_12 rfl ?_
    refine x_cS1 C (c_X8_isWithin E N _ g 0 950) v_X8_140 hN rfl rfl rfl rfl dX8_feedbackError_15 ?_
    refine x_tb_eq C 25 26 dX8_feedbackError_18 rfl dX8_feedbackError_21 dX8_feedbackError_22 rfl dX8_feedbackError_25 rfl ?_
    refine x_istore_n (L' := [(2, .int (bI (inR g 0 950))), (0, .int d), (1, .int g)]) C dX8_feedbackError_26 rfl rfl ?_
    refine x_iload_n C dX8_feedbackError_27 0 rfl ?_
    refine x_ifb_eq C 35 dX8_feedbackError_28 rfl (fun c28 => ?_) (fun c28 => ?_)
    · refine x_ldc C (-1000001) m_161 dX8_feedbackError_35 ?_
      exact x_iret C Z rfl rfl (by simp [eFee, c7, c28]) rfl dX8_feedbackError_37
    · refine x_iconst C 0 dX8_feedbackError_31 rfl ?_
      refine x_goto C 37 dX8_feedbackError_32 rfl ?_
      exact x_iret C Z rfl rfl (by simp [eFee, c7, c28]) rfl dX8_feedbackError_37

set_option maxRecDepth 100000 in
set_option maxHeartbeats 4000000 in
theorem c_X8_stealError (E : XE) (N : Nat) (G : GW) (w o : Int32) : MF E yX8_stealError cX8_stealError 2 (some .int) 1 22 0 0 [.int w, .int o] N (G) (some (.int (eSte w o))) (G) := by
  refine MF.mk RX8 rfl (by decide +kernel) rfl (fun K C Z hin hN => ?_)
  show XW E K 2 N 0 0 _ 0 [(0, .int w), (1, .int o)] []
  refine x_iload_n C dX8_stealError_0 0 rfl ?_
  refine x_iconst C 1 dX8_stealError_1 rfl ?_
  refine x_bipush C 48 dX8_stealError_2 rfl ?_
  refine x_cS1 C (c_X8_isWithin E N _ w 1 48) v_X8_140 hN rfl rfl rfl rfl dX8_stealError_4 ?_
  refine x_ifb_ne C 13 dX8_stealError_7 rfl (fun c7 => ?_) (fun c7 => ?_)
  · refine x_iload_n C dX8_stealError_13 1 rfl ?_
    refine x_iload_n C dX8_stealError_14 0 rfl ?_
    refine x_iadd C dX8_stealError_15 ?_
    refine x_bipush C 48 dX8_stealError_16 rfl ?_
    refine x_icmp_le C 26 dX8_stealError_18 rfl (fun c18 => ?_) (fun c18 => ?_)
    · refine x_iconst C 0 dX8_stealError_26 rfl ?_
      exact x_iret C Z rfl rfl (by simp [eSte, c7, c18]) rfl dX8_stealError_27
    · refine x_ldc C (-1000003) m_293 dX8_stealError_21 ?_
      refine x_goto C 27 dX8_stealError_23 rfl ?_
      exact x_iret C Z rfl rfl (by simp [eSte, c7, c18]) rfl dX8_stealError_27
  · refine x_ldc C (-1000001) m_161 dX8_stealError_10 ?_
    exact x_iret C Z rfl rfl (by simp [eSte, c7]) rfl dX8_stealError_12

set_option maxRecDepth 100000 in
set_option maxHeartbeats 4000000 in
theorem c_X8_giveBackError (E : XE) (N : Nat) (G : GW) (w o : Int32) : MF E yX8_giveBackError cX8_giveBackError 2 (some .int) 1 22 0 0 [.int w, .int o] N (G) (some (.int (eGiv w o))) (G) := by
  refine MF.mk RX8 rfl (by decide +kernel) rfl (fun K C Z hin hN => ?_)
  show XW E K 2 N 0 0 _ 0 [(0, .int w), (1, .int o)] []
  refine x_iload_n C dX8_giveBackError_0 0 rfl ?_
  refine x_iconst C 1 dX8_giveBackError_1 rfl ?_
  refine x_bipush C 48 dX8_giveBackError_2 rfl ?_
  refine x_cS1 C (c_X8_isWithin E N _ w 1 48) v_X8_140 hN rfl rfl rfl rfl dX8_giveBackError_4 ?_
  refine x_ifb_ne C 13 dX8_giveBackError_7 rfl (fun c7 => ?_) (fun c7 => ?_)
  · refine x_iload_n C dX8_giveBackError_13 1 rfl ?_
    refine x_iload_n C dX8_giveBackError_14 0 rfl ?_
    refine x_icmp_ge C 23 dX8_giveBackError_15 rfl (fun c15 => ?_) (fun c15 => ?_)
    · refine x_iconst C 0 dX8_giveBackError_23 rfl ?_
      exact x_iret C Z rfl rfl (by simp [eGiv, c7, c15]) rfl dX8_giveBackError_24
    · refine x_ldc C (-1000002) m_269 dX8_giveBackError_18 ?_
      refine x_goto C 24 dX8_giveBackError_20 rfl ?_
      exact x_iret C Z rfl rfl (by simp [eGiv, c7, c15]) rfl dX8_giveBackError_24
  · refine x_ldc C (-1000001) m_161 dX8_giveBackError_10 ?_
    exact x_iret C Z rfl rfl (by simp [eGiv, c7]) rfl dX8_giveBackError_12

set_option maxRecDepth 100000 in
set_option maxHeartbeats 4000000 in
theorem c_J9_floorMod_7cf53 (E : XE) (N : Nat) (G : GW) (x y : Int32) (hy : ¬ y = 0) : MF E yJ9_floorMod_7cf53 cJ9_floorMod_7cf53 3 (some .int) 0 0 0 0 [.int x, .int y] N (G) (some (.int (jfm x y))) (G) := by
  refine MF.mk RJ9 rfl (by decide +kernel) rfl (fun K C Z hin hN => ?_)
  show XW E K 3 N 0 0 _ 0 [(0, .int x), (1, .int y)] []
  refine x_iload_n C dJ9_floorMod_7cf53_0 0 rfl ?_
  refine x_iload_n C dJ9_floorMod_7cf53_1 1 rfl ?_
  refine x_irem C dJ9_floorMod_7cf53_2 hy ?_
  refine x_istore_n (L' := [(2, .int (x - x / y * y)), (0, .int x), (1, .int y)]) C dJ9_floorMod_7cf53_3 rfl rfl ?_
  refine x_iload_n C dJ9_floorMod_7cf53_4 1 rfl ?_
  refine x_iload_n C dJ9_floorMod_7cf53_5 2 rfl ?_
  refine x_ixor C dJ9_floorMod_7cf53_6 ?_
  refine x_if_ge C 18 dJ9_floorMod_7cf53_7 rfl (fun c7 => ?_) (fun c7 => ?_)
  · refine x_iload_n C dJ9_floorMod_7cf53_18 0 rfl ?_
    exact x_iret C Z rfl rfl (by simp [jfm, c7]) rfl dJ9_floorMod_7cf53_19
  · refine x_iload_n C dJ9_floorMod_7cf53_10 0 rfl ?_
    refine x_if_eq C 18 dJ9_floorMod_7cf53_11 rfl (fun c11 => ?_) (fun c11 => ?_)
    · refine x_iload_n C dJ9_floorMod_7cf53_18 0 rfl ?_
      exact x_iret C Z rfl rfl (by simp [jfm, c7, c11]) rfl dJ9_floorMod_7cf53_19
    · refine x_iload_n C dJ9_floorMod_7cf53_14 0 rfl ?_
      refine x_iload_n C dJ9_floorMod_7cf53_15 2 rfl ?_
      refine x_iadd C dJ9_floorMod_7cf53_16 ?_
      exact x_iret C Z rfl rfl (by simp [jfm, c7, c11]) rfl dJ9_floorMod_7cf53_17


