/-! ===== an order is read ===== -/
def kNum (k : Int32) : Int32 := if k = 102 then 2 else if k = 103 then 1 else if k = 107 then 1 else if k = 115 then 1 else if k = 116 then 3 else if k = 122 then 1 else 0
def kN (k : Int32) : Nat := if k = 102 then 2 else if k = 103 then 1 else if k = 107 then 1 else if k = 115 then 1 else if k = 116 then 3 else if k = 122 then 1 else 0
theorem kN_eq (k : Int32) : kNum k = nI (kN k) := by
  unfold kNum kN
  repeat' split
  all_goals rfl
theorem kN_le (k : Int32) : kN k ≤ 3 := by
  unfold kN
  repeat' split
  all_goals decide
def dgC (t : Int32 → Int32) (e : Int32) : Nat → Nat
  | 0 => 0
  | n + 1 => if isDg (t e) = true then dgC t (e + 1) n + 1 else 0
def dgV (t : Int32 → Int32) (e : Int32) : Nat → Int32
  | 0 => 0
  | n + 1 => dgV t e n * 10 + t (e + nI n) - 48
def rnE1 (ch : Nat → Int32) (tl en mi : Int32) : Int32 := if mi = 0 then en else if tAt ch tl en = 45 then en + 1 else en
def rnK (ch : Nat → Int32) (tl en mi : Int32) : Nat := dgC (tAt ch tl) (rnE1 ch tl en mi) 5
def rnEn (ch : Nat → Int32) (tl en mi : Int32) : Int32 := rnE1 ch tl en mi + nI (rnK ch tl en mi)
def rnWh (ch : Nat → Int32) (tl en mi : Int32) : Int32 := if nI (rnK ch tl en mi) ≤ 0 then 0 else 1
def rnV (ch : Nat → Int32) (tl en mi : Int32) : Int32 := if mi = 0 then dgV (tAt ch tl) (rnE1 ch tl en mi) (rnK ch tl en mi) else if tAt ch tl en = 45 then -dgV (tAt ch tl) (rnE1 ch tl en mi) (rnK ch tl en mi) else dgV (tAt ch tl) (rnE1 ch tl en mi) (rnK ch tl en mi)
def rnNu (nu : Nat → Int32) (ch : Nat → Int32) (tl en idx mi : Int32) : Nat → Int32 := if idx < 0 then nu else if 3 ≤ idx then nu else upd nu idx.toNatClampNeg (rnV ch tl en mi)
def sgW (ch : Nat → Int32) (tl en c : Int32) : Int32 := if tAt ch tl en = c then 1 else 0
def sgE (ch : Nat → Int32) (tl en c : Int32) : Int32 := if tAt ch tl en = c then en + 1 else en
def oFlag (ki : Int32) (n i : Nat) : Int32 := if nI i = nI n - 1 then (if ki = 115 then 1 else if ki = 116 then 1 else 0) else 0
def oSign (n i : Nat) : Int32 := if nI i = nI n - 1 then 59 else 44
def oStep (ch : Nat → Int32) (tl ki : Int32) (n i : Nat) (s : (Nat → Int32) × Int32 × Int32) : (Nat → Int32) × Int32 × Int32 :=
  if rnWh ch tl s.2.1 (oFlag ki n i) = 0 then (rnNu s.1 ch tl s.2.1 (nI i) (oFlag ki n i), rnEn ch tl s.2.1 (oFlag ki n i), rnWh ch tl s.2.1 (oFlag ki n i))
  else (rnNu s.1 ch tl s.2.1 (nI i) (oFlag ki n i), sgE ch tl (rnEn ch tl s.2.1 (oFlag ki n i)) (oSign n i), sgW ch tl (rnEn ch tl s.2.1 (oFlag ki n i)) (oSign n i))
def oRun (ch : Nat → Int32) (tl ki : Int32) (n : Nat) : Nat → Nat → (Nat → Int32) × Int32 × Int32 → (Nat → Int32) × Int32 × Int32
  | 0, _, s => s
  | d + 1, i, s => if s.2.2 = 0 then s else oRun ch tl ki n d (i + 1) (oStep ch tl ki n i s)
def oFin (ch : Nat → Int32) (tl : Int32) (nu : Nat → Int32) (pos : Int32) : (Nat → Int32) × Int32 × Int32 :=
  oRun ch tl (tAt ch tl pos) (kN (tAt ch tl pos)) (kN (tAt ch tl pos)) 0 (nu, (if nI (kN (tAt ch tl pos)) ≤ 0 then pos else pos + 1), (if nI (kN (tAt ch tl pos)) ≤ 0 then 0 else 1))
set_option maxRecDepth 100000 in
set_option maxHeartbeats 4000000 in
theorem c_X3_numbersOfKind (E : XE) (N b : Nat) (G : GW) (nu : Nat → Int32) (ki en wh : Int32) (hb_b : xB E ≤ b) (hn_b : b + 2 ≤ N) : MF E yX3_numbersOfKind cX3_numbersOfKind 1 (some .int) 0 0 0 0 [.ref b] N (ov b (ordC E b nu ki en wh) G) (some (.int (kNum ki))) (ov b (ordC E b nu ki en wh) G) := by
  refine MF.mk RX3 rfl (by decide +kernel) rfl (fun K C Z hin hN => ?_)
  show XW E K 1 N 0 0 _ 0 [(0, .ref b)] []
  refine x_aload_n C dX3_numbersOfKind_0 0 rfl ?_
  refine x_get C (xlo (i := 0) hb_b) (xhi (i := 0) hn_b rfl) (ov_at (i := 0) rfl) f_X3_21 rfl dX3_numbersOfKind_1 ?_
  rcases Decidable.em (ki = 102) with s1_102 | s1_102
  · refine x_v (w := .int 102) (by rw [s1_102]) ?_
    refine x_lookup C 66 dX3_numbersOfKind_4 rfl rfl rfl ?_
    refine x_iconst C 2 dX3_numbersOfKind_66 rfl ?_
    exact x_iret C Z rfl rfl (by simp [kNum, s1_102]) rfl dX3_numbersOfKind_67
  rcases Decidable.em (ki = 103) with s1_103 | s1_103
  · refine x_v (w := .int 103) (by rw [s1_103]) ?_
    refine x_lookup C 64 dX3_numbersOfKind_4 rfl rfl rfl ?_
    refine x_iconst C 1 dX3_numbersOfKind_64 rfl ?_
    exact x_iret C Z rfl rfl (by simp [kNum, s1_102, s1_103]) rfl dX3_numbersOfKind_65
  rcases Decidable.em (ki = 107) with s1_107 | s1_107
  · refine x_v (w := .int 107) (by rw [s1_107]) ?_
    refine x_lookup C 64 dX3_numbersOfKind_4 rfl rfl rfl ?_
    refine x_iconst C 1 dX3_numbersOfKind_64 rfl ?_
    exact x_iret C Z rfl rfl (by simp [kNum, s1_102, s1_103, s1_107]) rfl dX3_numbersOfKind_65
  rcases Decidable.em (ki = 115) with s1_115 | s1_115
  · refine x_v (w := .int 115) (by rw [s1_115]) ?_
    refine x_lookup C 64 dX3_numbersOfKind_4 rfl rfl rfl ?_
    refine x_iconst C 1 dX3_numbersOfKind_64 rfl ?_
    exact x_iret C Z rfl rfl (by simp [kNum, s1_102, s1_103, s1_107, s1_115]) rfl dX3_numbersOfKind_65
  rcases Decidable.em (ki = 116) with s1_116 | s1_116
  · refine x_v (w := .int 116) (by rw [s1_116]) ?_
    refine x_lookup C 68 dX3_numbersOfKind_4 rfl rfl rfl ?_
    refine x_iconst C 3 dX3_numbersOfKind_68 rfl ?_
    exact x_iret C Z rfl rfl (by simp [kNum, s1_102, s1_103, s1_107, s1_115, s1_116]) rfl dX3_numbersOfKind_69
  rcases Decidable.em (ki = 122) with s1_122 | s1_122
  · refine x_v (w := .int 122) (by rw [s1_122]) ?_
    refine x_lookup C 64 dX3_numbersOfKind_4 rfl rfl rfl ?_
    refine x_iconst C 1 dX3_numbersOfKind_64 rfl ?_
    exact x_iret C Z rfl rfl (by simp [kNum, s1_102, s1_103, s1_107, s1_115, s1_116, s1_122]) rfl dX3_numbersOfKind_65
  refine x_lookup C 70 dX3_numbersOfKind_4 rfl ((lv_osw s1_102 rfl).trans ((lv_osw s1_103 rfl).trans ((lv_osw s1_107 rfl).trans ((lv_osw s1_115 rfl).trans ((lv_osw s1_116 rfl).trans ((lv_osw s1_122 rfl).trans (rfl))))))) rfl ?_
  refine x_iconst C 0 dX3_numbersOfKind_70 rfl ?_
  exact x_iret C Z rfl rfl (by simp [kNum, s1_102, s1_103, s1_107, s1_115, s1_116, s1_122]) rfl dX3_numbersOfKind_71

set_option maxRecDepth 100000 in
set_option maxHeartbeats 4000000 in
theorem c_X3_readSign (E : XE) (N b : Nat) (G : GW) (ch : Nat → Int32) (tl : Int32) (nu : Nat → Int32) (ki en wh : Int32) (c : Int32) (hb_b : xB E ≤ b) (hn_b : b + 4 ≤ N) : MF E yX3_readSign cX3_readSign 3 none 1 21 0 0 [.ref (b + 2), .ref b, .int c] N (ov b (toC E b ch tl nu ki en wh) G) none (ov b (toC E b ch tl nu ki (sgE ch tl en c) (sgW ch tl en c)) G) := by
  refine MF.mk RX3 rfl (by decide +kernel) rfl (fun K C Z hin hN => ?_)
  show XW E K 3 N 0 0 _ 0 [(0, .ref (b + 2)), (1, .ref b), (2, .int c)] []
  refine x_aload_n C dX3_readSign_0 0 rfl ?_
  refine x_aload_n C dX3_readSign_1 1 rfl ?_
  refine x_aload_n C dX3_readSign_2 0 rfl ?_
  refine x_get C (xlo (i := 2) hb_b) (xhi (i := 2) hn_b rfl) (ov_at (i := 2) rfl) f_X3_25 rfl dX3_readSign_3 ?_
  refine x_cV1 C (MF.sliceR (i := 0) (n := 2) rfl (c_X7_characterAt E N b _ ch tl en (xlo (i := 0) hb_b) (xhn (i := 0) (n := 2) hn_b rfl))) v_X3_15 hN (xlo (i := 0) hb_b) (xhi (i := 0) hn_b rfl) (ov_at (i := 0) rfl) rfl rfl rfl rfl rfl dX3_readSign_6 ?_
  refine x_iload_n C dX3_readSign_9 2 rfl ?_
  refine x_icmp_ne C 17 dX3_readSign_10 rfl (fun c10 => ?_) (fun c10 => ?_)
  · refine x_iconst C 0 dX3_readSign_17 rfl ?_
    refine x_put (G' := ov b (toC E b ch tl nu ki en 0) G) C (xlo (i := 2) hb_b) (xhi (i := 2) hn_b rfl) (ov_at (i := 2) rfl) f_X3_32 xt_X3 rfl rfl rfl rfl (ov_set (i := 2) rfl rfl) dX3_readSign_18 ?_
    refine x_aload_n C dX3_readSign_21 0 rfl ?_
    refine x_get C (xlo (i := 2) hb_b) (xhi (i := 2) hn_b rfl) (ov_at (i := 2) rfl) f_X3_32 rfl dX3_readSign_22 ?_
    refine x_if_eq C 38 dX3_readSign_25 rfl (fun _ => ?_) (fun c => absurd c (by decide))
    exact x_vret C Z rfl rfl (by simp [sgE, sgW, c10]) dX3_readSign_38
  · refine x_iconst C 1 dX3_readSign_13 rfl ?_
    refine x_goto C 18 dX3_readSign_14 rfl ?_
    refine x_put (G' := ov b (toC E b ch tl nu ki en 1) G) C (xlo (i := 2) hb_b) (xhi (i := 2) hn_b rfl) (ov_at (i := 2) rfl) f_X3_32 xt_X3 rfl rfl rfl rfl (ov_set (i := 2) rfl rfl) dX3_readSign_18 ?_
    refine x_aload_n C dX3_readSign_21 0 rfl ?_
    refine x_get C (xlo (i := 2) hb_b) (xhi (i := 2) hn_b rfl) (ov_at (i := 2) rfl) f_X3_32 rfl dX3_readSign_22 ?_
    refine x_if_eq C 38 dX3_readSign_25 rfl (fun c => absurd c (by decide)) (fun _ => ?_)
    refine x_aload_n C dX3_readSign_28 0 rfl ?_
    refine x_dup C dX3_readSign_29 rfl ?_
    refine x_get C (xlo (i := 2) hb_b) (xhi (i := 2) hn_b rfl) (ov_at (i := 2) rfl) f_X3_25 rfl dX3_readSign_30 ?_
    refine x_iconst C 1 dX3_readSign_33 rfl ?_
    refine x_iadd C dX3_readSign_34 ?_
    refine x_put (G' := ov b (toC E b ch tl nu ki (en + 1) 1) G) C (xlo (i := 2) hb_b) (xhi (i := 2) hn_b rfl) (ov_at (i := 2) rfl) f_X3_25 xt_X3 rfl rfl rfl rfl (ov_set (i := 2) rfl rfl) dX3_readSign_35 ?_
    exact x_vret C Z rfl rfl (by simp [sgE, sgW, c10]) dX3_readSign_38

set_option maxRecDepth 100000 in
set_option maxHeartbeats 4000000 in
theorem c_X3_readNumber (E : XE) (N b : Nat) (G : GW) (ch : Nat → Int32) (tl : Int32) (nu : Nat → Int32) (ki en wh : Int32) (idx mi : Int32) (hb_b : xB E ≤ b) (hn_b : b + 4 ≤ N) : MF E yX3_readNumber cX3_readNumber 7 none 1 21 0 0 [.ref (b + 2), .ref b, .int idx, .int mi] N (ov b (toC E b ch tl nu ki en wh) G) none (ov b (toC E b ch tl (rnNu nu ch tl en idx mi) ki (rnEn ch tl en mi) (rnWh ch tl en mi)) G) := by
  refine MF.mk RX3 rfl (by decide +kernel) rfl (fun K C Z hin hN => ?_)
  show XW E K 7 N 0 0 _ 0 [(0, .ref (b + 2)), (1, .ref b), (2, .int idx), (3, .int mi)] []
  refine x_iload_n C dX3_readNumber_0 3 rfl ?_
  refine x_if_eq C 21 dX3_readNumber_1 rfl (fun c1 => ?_) (fun c1 => ?_)
  · refine x_iconst C 0 dX3_readNumber_21 rfl ?_
    refine x_istore (L' := [(4, .int 0), (0, .ref (b + 2)), (1, .ref b), (2, .int idx), (3, .int mi)]) C dX3_readNumber_22 rfl rfl ?_
    refine x_iload C dX3_readNumber_24 0 rfl ?_
    refine x_if_eq C 39 dX3_readNumber_26 rfl (fun _ => ?_) (fun c => absurd c (by decide))
    refine x_iconst C 0 dX3_readNumber_39 rfl ?_
    refine x_istore (L' := [(5, .int 0), (4, .int 0), (0, .ref (b + 2)), (1, .ref b), (2, .int idx), (3, .int mi)]) C dX3_readNumber_40 rfl rfl ?_
    refine x_iconst C 0 dX3_readNumber_42 rfl ?_
    refine x_istore (L' := [(6, .int 0), (5, .int 0), (4, .int 0), (0, .ref (b + 2)), (1, .ref b), (2, .int idx), (3, .int mi)]) C dX3_readNumber_43 rfl rfl ?_
    refine x_perm (L' := [(0, .ref (b + 2)), (1, .ref b), (2, .int idx), (4, .int 0), (5, .int 0), (6, .int 0)]) [3, 4, 5, 2, 1, 0] rfl ?_
    have lp45_1 : ∀ (d i : Nat), i + d = 5 → i + dgC (tAt ch tl) (en + nI i) d = dgC (tAt ch tl) en 5 → XW E K 7 N 0 0 (ov b (toC E b ch tl nu ki (en + nI i) wh) G) 45 [(0, .ref (b + 2)), (1, .ref b), (2, .int idx), (4, .int 0), (5, .int (dgV (tAt ch tl) en i)), (6, .int (nI i))] [] := by
      intro d
      induction d with
      | zero =>
        intro i hd hq
        have hi : i = 5 := by omega
        refine x_iload C dX3_readNumber_45 5 rfl ?_
        refine x_iconst C 5 dX3_readNumber_47 rfl ?_
        refine x_icmp_ge C 100 dX3_readNumber_48 rfl (fun _ => ?_) (fun c => absurd c (not_not_intro (nI_le (a := 5) (by omega) (by omega))))
        have hE : rnE1 ch tl en mi = en := by simp [rnE1, c1]
        have hk : rnK ch tl en mi = i := by unfold rnK; rw [hE, ← hq]; simp [dgC, c1]
        refine x_aload_n C dX3_readNumber_100 0 rfl ?_
        refine x_iload C dX3_readNumber_101 5 rfl ?_
        refine x_t_if_le C 110 111 1 0 dX3_readNumber_103 rfl dX3_readNumber_106 rfl dX3_readNumber_107 rfl dX3_readNumber_110 rfl rfl ?_
        refine x_put (G' := ov b (toC E b ch tl nu ki (en + nI i) (if (nI i) ≤ 0 then 0 else 1)) G) C (xlo (i := 2) hb_b) (xhi (i := 2) hn_b rfl) (ov_at (i := 2) rfl) f_X3_32 xt_X3 rfl (by split <;> rfl) (by split <;> rfl) rfl (ov_set (i := 2) rfl rfl) dX3_readNumber_111 ?_
        refine x_iload_n C dX3_readNumber_114 2 rfl ?_
        refine x_if_lt C 142 dX3_readNumber_115 rfl (fun c115 => ?_) (fun c115 => ?_)
        · exact x_vret C Z rfl rfl (by simp only [rnEn, rnWh, rnNu, rnV, hE, hk]; simp [if_true, c1, c115]) dX3_readNumber_142
        · refine x_iload_n C dX3_readNumber_118 2 rfl ?_
          refine x_iconst C 3 dX3_readNumber_119 rfl ?_
          refine x_icmp_ge C 142 dX3_readNumber_120 rfl (fun c120 => ?_) (fun c120 => ?_)
          · exact x_vret C Z rfl rfl (by simp only [rnEn, rnWh, rnNu, rnV, hE, hk]; simp [if_true, c1, c115, c120]) dX3_readNumber_142
          · refine x_aload_n C dX3_readNumber_123 0 rfl ?_
            refine x_get C (xlo (i := 2) hb_b) (xhi (i := 2) hn_b rfl) (ov_at (i := 2) rfl) f_X3_9 rfl dX3_readNumber_124 ?_
            refine x_iload_n C dX3_readNumber_127 2 rfl ?_
            refine x_iload C dX3_readNumber_128 3 rfl ?_
            refine x_if_eq C 139 dX3_readNumber_130 rfl (fun _ => ?_) (fun c => absurd c (by decide))
            refine x_iload C dX3_readNumber_139 4 rfl ?_
            refine x_iast (G' := ov b (toC E b ch tl (upd nu idx.toNatClampNeg (dgV (tAt ch tl) en i)) ki (en + nI i) (if (nI i) ≤ 0 then 0 else 1)) G) C idx.toNatClampNeg (xlo (i := 3) hb_b) (xhi (i := 3) hn_b rfl) (ov_at (i := 3) rfl) (vp_in_lt (M := 3) rfl c115 c120) rfl (ov_set (i := 3) rfl rfl) dX3_readNumber_141 ?_
            exact x_vret C Z rfl rfl (by simp only [rnEn, rnWh, rnNu, rnV, hE, hk]; simp [if_true, c1, c115, c120]) dX3_readNumber_142
      | succ d ih =>
        intro i hd hq
        have hi : i < 5 := by omega
        refine x_iload C dX3_readNumber_45 5 rfl ?_
        refine x_iconst C 5 dX3_readNumber_47 rfl ?_
        refine x_icmp_ge C 100 dX3_readNumber_48 rfl (fun c => absurd c (nI_ge (b := 5) (by omega) (by omega))) (fun _ => ?_)
        refine x_aload_n C dX3_readNumber_51 1 rfl ?_
        refine x_aload_n C dX3_readNumber_52 0 rfl ?_
        refine x_get C (xlo (i := 2) hb_b) (xhi (i := 2) hn_b rfl) (ov_at (i := 2) rfl) f_X3_25 rfl dX3_readNumber_53 ?_
        refine x_cV1 C (MF.sliceR (i := 0) (n := 2) rfl (c_X7_characterAt E N b _ ch tl (en + nI i) (xlo (i := 0) hb_b) (xhn (i := 0) (n := 2) hn_b rfl))) v_X3_15 hN (xlo (i := 0) hb_b) (xhi (i := 0) hn_b rfl) (ov_at (i := 0) rfl) rfl rfl rfl rfl rfl dX3_readNumber_56 ?_
        refine x_cS1 C (c_X3_isDigit E N _ (tAt ch tl (en + nI i))) v_X3_44 hN rfl rfl rfl rfl dX3_readNumber_59 ?_
        refine x_ifb_eq C 100 dX3_readNumber_62 rfl (fun c62 => ?_) (fun c62 => ?_)
        · have hE : rnE1 ch tl en mi = en := by simp [rnE1, c1, c62]
          have hk : rnK ch tl en mi = i := by unfold rnK; rw [hE, ← hq]; simp [dgC, c1, c62]
          refine x_aload_n C dX3_readNumber_100 0 rfl ?_
          refine x_iload C dX3_readNumber_101 5 rfl ?_
          refine x_t_if_le C 110 111 1 0 dX3_readNumber_103 rfl dX3_readNumber_106 rfl dX3_readNumber_107 rfl dX3_readNumber_110 rfl rfl ?_
          refine x_put (G' := ov b (toC E b ch tl nu ki (en + nI i) (if (nI i) ≤ 0 then 0 else 1)) G) C (xlo (i := 2) hb_b) (xhi (i := 2) hn_b rfl) (ov_at (i := 2) rfl) f_X3_32 xt_X3 rfl (by split <;> rfl) (by split <;> rfl) rfl (ov_set (i := 2) rfl rfl) dX3_readNumber_111 ?_
          refine x_iload_n C dX3_readNumber_114 2 rfl ?_
          refine x_if_lt C 142 dX3_readNumber_115 rfl (fun c115 => ?_) (fun c115 => ?_)
          · exact x_vret C Z rfl rfl (by simp only [rnEn, rnWh, rnNu, rnV, hE, hk]; simp [if_true, c1, c62, c115]) dX3_readNumber_142
          · refine x_iload_n C dX3_readNumber_118 2 rfl ?_
            refine x_iconst C 3 dX3_readNumber_119 rfl ?_
            refine x_icmp_ge C 142 dX3_readNumber_120 rfl (fun c120 => ?_) (fun c120 => ?_)
            · exact x_vret C Z rfl rfl (by simp only [rnEn, rnWh, rnNu, rnV, hE, hk]; simp [if_true, c1, c62, c115, c120]) dX3_readNumber_142
            · refine x_aload_n C dX3_readNumber_123 0 rfl ?_
              refine x_get C (xlo (i := 2) hb_b) (xhi (i := 2) hn_b rfl) (ov_at (i := 2) rfl) f_X3_9 rfl dX3_readNumber_124 ?_
              refine x_iload_n C dX3_readNumber_127 2 rfl ?_
              refine x_iload C dX3_readNumber_128 3 rfl ?_
              refine x_if_eq C 139 dX3_readNumber_130 rfl (fun _ => ?_) (fun c => absurd c (by decide))
              refine x_iload C dX3_readNumber_139 4 rfl ?_
              refine x_iast (G' := ov b (toC E b ch tl (upd nu idx.toNatClampNeg (dgV (tAt ch tl) en i)) ki (en + nI i) (if (nI i) ≤ 0 then 0 else 1)) G) C idx.toNatClampNeg (xlo (i := 3) hb_b) (xhi (i := 3) hn_b rfl) (ov_at (i := 3) rfl) (vp_in_lt (M := 3) rfl c115 c120) rfl (ov_set (i := 3) rfl rfl) dX3_readNumber_141 ?_
              exact x_vret C Z rfl rfl (by simp only [rnEn, rnWh, rnNu, rnV, hE, hk]; simp [if_true, c1, c62, c115, c120]) dX3_readNumber_142
        · refine x_iload C dX3_readNumber_65 4 rfl ?_
          refine x_bipush C 10 dX3_readNumber_67 rfl ?_
          refine x_imul C dX3_readNumber_69 ?_
          refine x_aload_n C dX3_readNumber_70 1 rfl ?_
          refine x_aload_n C dX3_readNumber_71 0 rfl ?_
          refine x_get C (xlo (i := 2) hb_b) (xhi (i := 2) hn_b rfl) (ov_at (i := 2) rfl) f_X3_25 rfl dX3_readNumber_72 ?_
          refine x_cV1 C (MF.sliceR (i := 0) (n := 2) rfl (c_X7_characterAt E N b _ ch tl (en + nI i) (xlo (i := 0) hb_b) (xhn (i := 0) (n := 2) hn_b rfl))) v_X3_15 hN (xlo (i := 0) hb_b) (xhi (i := 0) hn_b rfl) (ov_at (i := 0) rfl) rfl rfl rfl rfl rfl dX3_readNumber_75 ?_
          refine x_iadd C dX3_readNumber_78 ?_
          refine x_bipush C 48 dX3_readNumber_79 rfl ?_
          refine x_isub C dX3_readNumber_81 ?_
          refine x_istore (L' := [(5, .int ((((dgV (tAt ch tl) en i) * 10) + (tAt ch tl (en + nI i))) - 48)), (0, .ref (b + 2)), (1, .ref b), (2, .int idx), (4, .int 0), (6, .int (nI i))]) C dX3_readNumber_82 rfl rfl ?_
          refine x_iinc (L' := [(6, .int ((nI i) + 1)), (5, .int ((((dgV (tAt ch tl) en i) * 10) + (tAt ch tl (en + nI i))) - 48)), (0, .ref (b + 2)), (1, .ref b), (2, .int idx), (4, .int 0)]) C ((nI i) + 1) dX3_readNumber_84 5 rfl rfl rfl rfl ?_
          refine x_aload_n C dX3_readNumber_87 2 rfl ?_
          refine x_dup C dX3_readNumber_88 rfl ?_
          refine x_get C (xlo (i := 2) hb_b) (xhi (i := 2) hn_b rfl) (ov_at (i := 2) rfl) f_X3_25 rfl dX3_readNumber_89 ?_
          refine x_iconst C 1 dX3_readNumber_92 rfl ?_
          refine x_iadd C dX3_readNumber_93 ?_
          refine x_put (G' := ov b (toC E b ch tl nu ki ((en + nI i) + 1) wh) G) C (xlo (i := 2) hb_b) (xhi (i := 2) hn_b rfl) (ov_at (i := 2) rfl) f_X3_25 xt_X3 rfl rfl rfl rfl (ov_set (i := 2) rfl rfl) dX3_readNumber_94 ?_
          refine x_goto C 45 dX3_readNumber_97 rfl ?_
          refine x_perm (L' := [(0, .ref (b + 2)), (1, .ref b), (2, .int idx), (4, .int 0), (5, .int ((((dgV (tAt ch tl) en i) * 10) + (tAt ch tl (en + nI i))) - 48)), (6, .int ((nI i) + 1))]) [2, 3, 4, 5, 1, 0] rfl ?_
          refine x_to (L' := [(0, .ref (b + 2)), (1, .ref b), (2, .int idx), (4, .int 0), (5, .int (dgV (tAt ch tl) en (i + 1))), (6, .int (nI (i + 1)))]) (G' := ov b (toC E b ch tl nu ki (en + nI (i + 1)) wh) G) (by simp only [nI_succ, dgV]; try rfl) (by simp only [nI_succ, ← Int32.add_assoc]) rfl ?_
          exact ih (i + 1) (by omega) (by rw [← hq]; simp only [dgC, nI_succ, ← Int32.add_assoc, c1, c62]; simp only [if_true]; omega)
    refine x_to (L' := [(0, .ref (b + 2)), (1, .ref b), (2, .int idx), (4, .int 0), (5, .int (dgV (tAt ch tl) en 0)), (6, .int (nI 0))]) (G' := ov b (toC E b ch tl nu ki (en + nI 0) wh) G) rfl (by simp [nI_0]) rfl ?_
    exact lp45_1 _ 0 (Nat.add_sub_cancel' (by omega)) (by simp [nI_0])
  · refine x_aload_n C dX3_readNumber_4 1 rfl ?_
    refine x_aload_n C dX3_readNumber_5 0 rfl ?_
    refine x_get C (xlo (i := 2) hb_b) (xhi (i := 2) hn_b rfl) (ov_at (i := 2) rfl) f_X3_25 rfl dX3_readNumber_6 ?_
    refine x_cV1 C (MF.sliceR (i := 0) (n := 2) rfl (c_X7_characterAt E N b _ ch tl en (xlo (i := 0) hb_b) (xhn (i := 0) (n := 2) hn_b rfl))) v_X3_15 hN (xlo (i := 0) hb_b) (xhi (i := 0) hn_b rfl) (ov_at (i := 0) rfl) rfl rfl rfl rfl rfl dX3_readNumber_9 ?_
    refine x_bipush C 45 dX3_readNumber_12 rfl ?_
    refine x_icmp_ne C 21 dX3_readNumber_14 rfl (fun c14 => ?_) (fun c14 => ?_)
    · refine x_iconst C 0 dX3_readNumber_21 rfl ?_
      refine x_istore (L' := [(4, .int 0), (0, .ref (b + 2)), (1, .ref b), (2, .int idx), (3, .int mi)]) C dX3_readNumber_22 rfl rfl ?_
      refine x_iload C dX3_readNumber_24 0 rfl ?_
      refine x_if_eq C 39 dX3_readNumber_26 rfl (fun _ => ?_) (fun c => absurd c (by decide))
      refine x_iconst C 0 dX3_readNumber_39 rfl ?_
      refine x_istore (L' := [(5, .int 0), (4, .int 0), (0, .ref (b + 2)), (1, .ref b), (2, .int idx), (3, .int mi)]) C dX3_readNumber_40 rfl rfl ?_
      refine x_iconst C 0 dX3_readNumber_42 rfl ?_
      refine x_istore (L' := [(6, .int 0), (5, .int 0), (4, .int 0), (0, .ref (b + 2)), (1, .ref b), (2, .int idx), (3, .int mi)]) C dX3_readNumber_43 rfl rfl ?_
      refine x_perm (L' := [(0, .ref (b + 2)), (1, .ref b), (2, .int idx), (4, .int 0), (5, .int 0), (6, .int 0)]) [3, 4, 5, 2, 1, 0] rfl ?_
      have lp45_2 : ∀ (d i : Nat), i + d = 5 → i + dgC (tAt ch tl) (en + nI i) d = dgC (tAt ch tl) en 5 → XW E K 7 N 0 0 (ov b (toC E b ch tl nu ki (en + nI i) wh) G) 45 [(0, .ref (b + 2)), (1, .ref b), (2, .int idx), (4, .int 0), (5, .int (dgV (tAt ch tl) en i)), (6, .int (nI i))] [] := by
        intro d
        induction d with
        | zero =>
          intro i hd hq
          have hi : i = 5 := by omega
          refine x_iload C dX3_readNumber_45 5 rfl ?_
          refine x_iconst C 5 dX3_readNumber_47 rfl ?_
          refine x_icmp_ge C 100 dX3_readNumber_48 rfl (fun _ => ?_) (fun c => absurd c (not_not_intro (nI_le (a := 5) (by omega) (by omega))))
          have hE : rnE1 ch tl en mi = en := by simp [rnE1, c1, c14]
          have hk : rnK ch tl en mi = i := by unfold rnK; rw [hE, ← hq]; simp [dgC, c1, c14]
          refine x_aload_n C dX3_readNumber_100 0 rfl ?_
          refine x_iload C dX3_readNumber_101 5 rfl ?_
          refine x_t_if_le C 110 111 1 0 dX3_readNumber_103 rfl dX3_readNumber_106 rfl dX3_readNumber_107 rfl dX3_readNumber_110 rfl rfl ?_
          refine x_put (G' := ov b (toC E b ch tl nu ki (en + nI i) (if (nI i) ≤ 0 then 0 else 1)) G) C (xlo (i := 2) hb_b) (xhi (i := 2) hn_b rfl) (ov_at (i := 2) rfl) f_X3_32 xt_X3 rfl (by split <;> rfl) (by split <;> rfl) rfl (ov_set (i := 2) rfl rfl) dX3_readNumber_111 ?_
          refine x_iload_n C dX3_readNumber_114 2 rfl ?_
          refine x_if_lt C 142 dX3_readNumber_115 rfl (fun c115 => ?_) (fun c115 => ?_)
          · exact x_vret C Z rfl rfl (by simp only [rnEn, rnWh, rnNu, rnV, hE, hk]; simp [if_true, c1, c14, c115]) dX3_readNumber_142
          · refine x_iload_n C dX3_readNumber_118 2 rfl ?_
            refine x_iconst C 3 dX3_readNumber_119 rfl ?_
            refine x_icmp_ge C 142 dX3_readNumber_120 rfl (fun c120 => ?_) (fun c120 => ?_)
            · exact x_vret C Z rfl rfl (by simp only [rnEn, rnWh, rnNu, rnV, hE, hk]; simp [if_true, c1, c14, c115, c120]) dX3_readNumber_142
            · refine x_aload_n C dX3_readNumber_123 0 rfl ?_
              refine x_get C (xlo (i := 2) hb_b) (xhi (i := 2) hn_b rfl) (ov_at (i := 2) rfl) f_X3_9 rfl dX3_readNumber_124 ?_
              refine x_iload_n C dX3_readNumber_127 2 rfl ?_
              refine x_iload C dX3_readNumber_128 3 rfl ?_
              refine x_if_eq C 139 dX3_readNumber_130 rfl (fun _ => ?_) (fun c => absurd c (by decide))
              refine x_iload C dX3_readNumber_139 4 rfl ?_
              refine x_iast (G' := ov b (toC E b ch tl (upd nu idx.toNatClampNeg (dgV (tAt ch tl) en i)) ki (en + nI i) (if (nI i) ≤ 0 then 0 else 1)) G) C idx.toNatClampNeg (xlo (i := 3) hb_b) (xhi (i := 3) hn_b rfl) (ov_at (i := 3) rfl) (vp_in_lt (M := 3) rfl c115 c120) rfl (ov_set (i := 3) rfl rfl) dX3_readNumber_141 ?_
              exact x_vret C Z rfl rfl (by simp only [rnEn, rnWh, rnNu, rnV, hE, hk]; simp [if_true, c1, c14, c115, c120]) dX3_readNumber_142
        | succ d ih =>
          intro i hd hq
          have hi : i < 5 := by omega
          refine x_iload C dX3_readNumber_45 5 rfl ?_
          refine x_iconst C 5 dX3_readNumber_47 rfl ?_
          refine x_icmp_ge C 100 dX3_readNumber_48 rfl (fun c => absurd c (nI_ge (b := 5) (by omega) (by omega))) (fun _ => ?_)
          refine x_aload_n C dX3_readNumber_51 1 rfl ?_
          refine x_aload_n C dX3_readNumber_52 0 rfl ?_
          refine x_get C (xlo (i := 2) hb_b) (xhi (i := 2) hn_b rfl) (ov_at (i := 2) rfl) f_X3_25 rfl dX3_readNumber_53 ?_
          refine x_cV1 C (MF.sliceR (i := 0) (n := 2) rfl (c_X7_characterAt E N b _ ch tl (en + nI i) (xlo (i := 0) hb_b) (xhn (i := 0) (n := 2) hn_b rfl))) v_X3_15 hN (xlo (i := 0) hb_b) (xhi (i := 0) hn_b rfl) (ov_at (i := 0) rfl) rfl rfl rfl rfl rfl dX3_readNumber_56 ?_
          refine x_cS1 C (c_X3_isDigit E N _ (tAt ch tl (en + nI i))) v_X3_44 hN rfl rfl rfl rfl dX3_readNumber_59 ?_
          refine x_ifb_eq C 100 dX3_readNumber_62 rfl (fun c62 => ?_) (fun c62 => ?_)
          · have hE : rnE1 ch tl en mi = en := by simp [rnE1, c1, c14, c62]
            have hk : rnK ch tl en mi = i := by unfold rnK; rw [hE, ← hq]; simp [dgC, c1, c14, c62]
            refine x_aload_n C dX3_readNumber_100 0 rfl ?_
            refine x_iload C dX3_readNumber_101 5 rfl ?_
            refine x_t_if_le C 110 111 1 0 dX3_readNumber_103 rfl dX3_readNumber_106 rfl dX3_readNumber_107 rfl dX3_readNumber_110 rfl rfl ?_
            refine x_put (G' := ov b (toC E b ch tl nu ki (en + nI i) (if (nI i) ≤ 0 then 0 else 1)) G) C (xlo (i := 2) hb_b) (xhi (i := 2) hn_b rfl) (ov_at (i := 2) rfl) f_X3_32 xt_X3 rfl (by split <;> rfl) (by split <;> rfl) rfl (ov_set (i := 2) rfl rfl) dX3_readNumber_111 ?_
            refine x_iload_n C dX3_readNumber_114 2 rfl ?_
            refine x_if_lt C 142 dX3_readNumber_115 rfl (fun c115 => ?_) (fun c115 => ?_)
            · exact x_vret C Z rfl rfl (by simp only [rnEn, rnWh, rnNu, rnV, hE, hk]; simp [if_true, c1, c14, c62, c115]) dX3_readNumber_142
            · refine x_iload_n C dX3_readNumber_118 2 rfl ?_
              refine x_iconst C 3 dX3_readNumber_119 rfl ?_
              refine x_icmp_ge C 142 dX3_readNumber_120 rfl (fun c120 => ?_) (fun c120 => ?_)
              · exact x_vret C Z rfl rfl (by simp only [rnEn, rnWh, rnNu, rnV, hE, hk]; simp [if_true, c1, c14, c62, c115, c120]) dX3_readNumber_142
              · refine x_aload_n C dX3_readNumber_123 0 rfl ?_
                refine x_get C (xlo (i := 2) hb_b) (xhi (i := 2) hn_b rfl) (ov_at (i := 2) rfl) f_X3_9 rfl dX3_readNumber_124 ?_
                refine x_iload_n C dX3_readNumber_127 2 rfl ?_
                refine x_iload C dX3_readNumber_128 3 rfl ?_
                refine x_if_eq C 139 dX3_readNumber_130 rfl (fun _ => ?_) (fun c => absurd c (by decide))
                refine x_iload C dX3_readNumber_139 4 rfl ?_
                refine x_iast (G' := ov b (toC E b ch tl (upd nu idx.toNatClampNeg (dgV (tAt ch tl) en i)) ki (en + nI i) (if (nI i) ≤ 0 then 0 else 1)) G) C idx.toNatClampNeg (xlo (i := 3) hb_b) (xhi (i := 3) hn_b rfl) (ov_at (i := 3) rfl) (vp_in_lt (M := 3) rfl c115 c120) rfl (ov_set (i := 3) rfl rfl) dX3_readNumber_141 ?_
                exact x_vret C Z rfl rfl (by simp only [rnEn, rnWh, rnNu, rnV, hE, hk]; simp [if_true, c1, c14, c62, c115, c120]) dX3_readNumber_142
          · refine x_iload C dX3_readNumber_65 4 rfl ?_
            refine x_bipush C 10 dX3_readNumber_67 rfl ?_
            refine x_imul C dX3_readNumber_69 ?_
            refine x_aload_n C dX3_readNumber_70 1 rfl ?_
            refine x_aload_n C dX3_readNumber_71 0 rfl ?_
            refine x_get C (xlo (i := 2) hb_b) (xhi (i := 2) hn_b rfl) (ov_at (i := 2) rfl) f_X3_25 rfl dX3_readNumber_72 ?_
            refine x_cV1 C (MF.sliceR (i := 0) (n := 2) rfl (c_X7_characterAt E N b _ ch tl (en + nI i) (xlo (i := 0) hb_b) (xhn (i := 0) (n := 2) hn_b rfl))) v_X3_15 hN (xlo (i := 0) hb_b) (xhi (i := 0) hn_b rfl) (ov_at (i := 0) rfl) rfl rfl rfl rfl rfl dX3_readNumber_75 ?_
            refine x_iadd C dX3_readNumber_78 ?_
            refine x_bipush C 48 dX3_readNumber_79 rfl ?_
            refine x_isub C dX3_readNumber_81 ?_
            refine x_istore (L' := [(5, .int ((((dgV (tAt ch tl) en i) * 10) + (tAt ch tl (en + nI i))) - 48)), (0, .ref (b + 2)), (1, .ref b), (2, .int idx), (4, .int 0), (6, .int (nI i))]) C dX3_readNumber_82 rfl rfl ?_
            refine x_iinc (L' := [(6, .int ((nI i) + 1)), (5, .int ((((dgV (tAt ch tl) en i) * 10) + (tAt ch tl (en + nI i))) - 48)), (0, .ref (b + 2)), (1, .ref b), (2, .int idx), (4, .int 0)]) C ((nI i) + 1) dX3_readNumber_84 5 rfl rfl rfl rfl ?_
            refine x_aload_n C dX3_readNumber_87 2 rfl ?_
            refine x_dup C dX3_readNumber_88 rfl ?_
            refine x_get C (xlo (i := 2) hb_b) (xhi (i := 2) hn_b rfl) (ov_at (i := 2) rfl) f_X3_25 rfl dX3_readNumber_89 ?_
            refine x_iconst C 1 dX3_readNumber_92 rfl ?_
            refine x_iadd C dX3_readNumber_93 ?_
            refine x_put (G' := ov b (toC E b ch tl nu ki ((en + nI i) + 1) wh) G) C (xlo (i := 2) hb_b) (xhi (i := 2) hn_b rfl) (ov_at (i := 2) rfl) f_X3_25 xt_X3 rfl rfl rfl rfl (ov_set (i := 2) rfl rfl) dX3_readNumber_94 ?_
            refine x_goto C 45 dX3_readNumber_97 rfl ?_
            refine x_perm (L' := [(0, .ref (b + 2)), (1, .ref b), (2, .int idx), (4, .int 0), (5, .int ((((dgV (tAt ch tl) en i) * 10) + (tAt ch tl (en + nI i))) - 48)), (6, .int ((nI i) + 1))]) [2, 3, 4, 5, 1, 0] rfl ?_
            refine x_to (L' := [(0, .ref (b + 2)), (1, .ref b), (2, .int idx), (4, .int 0), (5, .int (dgV (tAt ch tl) en (i + 1))), (6, .int (nI (i + 1)))]) (G' := ov b (toC E b ch tl nu ki (en + nI (i + 1)) wh) G) (by simp only [nI_succ, dgV]; try rfl) (by simp only [nI_succ, ← Int32.add_assoc]) rfl ?_
            exact ih (i + 1) (by omega) (by rw [← hq]; simp only [dgC, nI_succ, ← Int32.add_assoc, c1, c14, c62]; simp only [if_true]; omega)
      refine x_to (L' := [(0, .ref (b + 2)), (1, .ref b), (2, .int idx), (4, .int 0), (5, .int (dgV (tAt ch tl) en 0)), (6, .int (nI 0))]) (G' := ov b (toC E b ch tl nu ki (en + nI 0) wh) G) rfl (by simp [nI_0]) rfl ?_
      exact lp45_2 _ 0 (Nat.add_sub_cancel' (by omega)) (by simp [nI_0])
    · refine x_iconst C 1 dX3_readNumber_17 rfl ?_
      refine x_goto C 22 dX3_readNumber_18 rfl ?_
      refine x_istore (L' := [(4, .int 1), (0, .ref (b + 2)), (1, .ref b), (2, .int idx), (3, .int mi)]) C dX3_readNumber_22 rfl rfl ?_
      refine x_iload C dX3_readNumber_24 0 rfl ?_
      refine x_if_eq C 39 dX3_readNumber_26 rfl (fun c => absurd c (by decide)) (fun _ => ?_)
      refine x_aload_n C dX3_readNumber_29 1 rfl ?_
      refine x_dup C dX3_readNumber_30 rfl ?_
      refine x_get C (xlo (i := 2) hb_b) (xhi (i := 2) hn_b rfl) (ov_at (i := 2) rfl) f_X3_25 rfl dX3_readNumber_31 ?_
      refine x_iconst C 1 dX3_readNumber_34 rfl ?_
      refine x_iadd C dX3_readNumber_35 ?_
      refine x_put (G' := ov b (toC E b ch tl nu ki (en + 1) wh) G) C (xlo (i := 2) hb_b) (xhi (i := 2) hn_b rfl) (ov_at (i := 2) rfl) f_X3_25 xt_X3 rfl rfl rfl rfl (ov_set (i := 2) rfl rfl) dX3_readNumber_36 ?_
      refine x_iconst C 0 dX3_readNumber_39 rfl ?_
      refine x_istore (L' := [(5, .int 0), (4, .int 1), (0, .ref (b + 2)), (1, .ref b), (2, .int idx), (3, .int mi)]) C dX3_readNumber_40 rfl rfl ?_
      refine x_iconst C 0 dX3_readNumber_42 rfl ?_
      refine x_istore (L' := [(6, .int 0), (5, .int 0), (4, .int 1), (0, .ref (b + 2)), (1, .ref b), (2, .int idx), (3, .int mi)]) C dX3_readNumber_43 rfl rfl ?_
      refine x_perm (L' := [(0, .ref (b + 2)), (1, .ref b), (2, .int idx), (4, .int 1), (5, .int 0), (6, .int 0)]) [3, 4, 5, 2, 1, 0] rfl ?_
      have lp45_3 : ∀ (d i : Nat), i + d = 5 → i + dgC (tAt ch tl) ((en + 1) + nI i) d = dgC (tAt ch tl) (en + 1) 5 → XW E K 7 N 0 0 (ov b (toC E b ch tl nu ki ((en + 1) + nI i) wh) G) 45 [(0, .ref (b + 2)), (1, .ref b), (2, .int idx), (4, .int 1), (5, .int (dgV (tAt ch tl) (en + 1) i)), (6, .int (nI i))] [] := by
        intro d
        induction d with
        | zero =>
          intro i hd hq
          have hi : i = 5 := by omega
          refine x_iload C dX3_readNumber_45 5 rfl ?_
          refine x_iconst C 5 dX3_readNumber_47 rfl ?_
          refine x_icmp_ge C 100 dX3_readNumber_48 rfl (fun _ => ?_) (fun c => absurd c (not_not_intro (nI_le (a := 5) (by omega) (by omega))))
          have hE : rnE1 ch tl en mi = en + 1 := by simp [rnE1, c1, c14]
          have hk : rnK ch tl en mi = i := by unfold rnK; rw [hE, ← hq]; simp [dgC, c1, c14]
          refine x_aload_n C dX3_readNumber_100 0 rfl ?_
          refine x_iload C dX3_readNumber_101 5 rfl ?_
          refine x_t_if_le C 110 111 1 0 dX3_readNumber_103 rfl dX3_readNumber_106 rfl dX3_readNumber_107 rfl dX3_readNumber_110 rfl rfl ?_
          refine x_put (G' := ov b (toC E b ch tl nu ki ((en + 1) + nI i) (if (nI i) ≤ 0 then 0 else 1)) G) C (xlo (i := 2) hb_b) (xhi (i := 2) hn_b rfl) (ov_at (i := 2) rfl) f_X3_32 xt_X3 rfl (by split <;> rfl) (by split <;> rfl) rfl (ov_set (i := 2) rfl rfl) dX3_readNumber_111 ?_
          refine x_iload_n C dX3_readNumber_114 2 rfl ?_
          refine x_if_lt C 142 dX3_readNumber_115 rfl (fun c115 => ?_) (fun c115 => ?_)
          · exact x_vret C Z rfl rfl (by simp only [rnEn, rnWh, rnNu, rnV, hE, hk]; simp [if_true, c1, c14, c115]) dX3_readNumber_142
          · refine x_iload_n C dX3_readNumber_118 2 rfl ?_
            refine x_iconst C 3 dX3_readNumber_119 rfl ?_
            refine x_icmp_ge C 142 dX3_readNumber_120 rfl (fun c120 => ?_) (fun c120 => ?_)
            · exact x_vret C Z rfl rfl (by simp only [rnEn, rnWh, rnNu, rnV, hE, hk]; simp [if_true, c1, c14, c115, c120]) dX3_readNumber_142
            · refine x_aload_n C dX3_readNumber_123 0 rfl ?_
              refine x_get C (xlo (i := 2) hb_b) (xhi (i := 2) hn_b rfl) (ov_at (i := 2) rfl) f_X3_9 rfl dX3_readNumber_124 ?_
              refine x_iload_n C dX3_readNumber_127 2 rfl ?_
              refine x_iload C dX3_readNumber_128 3 rfl ?_
              refine x_if_eq C 139 dX3_readNumber_130 rfl (fun c => absurd c (by decide)) (fun _ => ?_)
              refine x_iload C dX3_readNumber_133 4 rfl ?_
              refine x_ineg C dX3_readNumber_135 ?_
              refine x_goto C 141 dX3_readNumber_136 rfl ?_
              refine x_iast (G' := ov b (toC E b ch tl (upd nu idx.toNatClampNeg (-(dgV (tAt ch tl) (en + 1) i))) ki ((en + 1) + nI i) (if (nI i) ≤ 0 then 0 else 1)) G) C idx.toNatClampNeg (xlo (i := 3) hb_b) (xhi (i := 3) hn_b rfl) (ov_at (i := 3) rfl) (vp_in_lt (M := 3) rfl c115 c120) rfl (ov_set (i := 3) rfl rfl) dX3_readNumber_141 ?_
              exact x_vret C Z rfl rfl (by simp only [rnEn, rnWh, rnNu, rnV, hE, hk]; simp [if_true, c1, c14, c115, c120]) dX3_readNumber_142
        | succ d ih =>
          intro i hd hq
          have hi : i < 5 := by omega
          refine x_iload C dX3_readNumber_45 5 rfl ?_
          refine x_iconst C 5 dX3_readNumber_47 rfl ?_
          refine x_icmp_ge C 100 dX3_readNumber_48 rfl (fun c => absurd c (nI_ge (b := 5) (by omega) (by omega))) (fun _ => ?_)
          refine x_aload_n C dX3_readNumber_51 1 rfl ?_
          refine x_aload_n C dX3_readNumber_52 0 rfl ?_
          refine x_get C (xlo (i := 2) hb_b) (xhi (i := 2) hn_b rfl) (ov_at (i := 2) rfl) f_X3_25 rfl dX3_readNumber_53 ?_
          refine x_cV1 C (MF.sliceR (i := 0) (n := 2) rfl (c_X7_characterAt E N b _ ch tl ((en + 1) + nI i) (xlo (i := 0) hb_b) (xhn (i := 0) (n := 2) hn_b rfl))) v_X3_15 hN (xlo (i := 0) hb_b) (xhi (i := 0) hn_b rfl) (ov_at (i := 0) rfl) rfl rfl rfl rfl rfl dX3_readNumber_56 ?_
          refine x_cS1 C (c_X3_isDigit E N _ (tAt ch tl ((en + 1) + nI i))) v_X3_44 hN rfl rfl rfl rfl dX3_readNumber_59 ?_
          refine x_ifb_eq C 100 dX3_readNumber_62 rfl (fun c62 => ?_) (fun c62 => ?_)
          · have hE : rnE1 ch tl en mi = en + 1 := by simp [rnE1, c1, c14, c62]
            have hk : rnK ch tl en mi = i := by unfold rnK; rw [hE, ← hq]; simp [dgC, c1, c14, c62]
            refine x_aload_n C dX3_readNumber_100 0 rfl ?_
            refine x_iload C dX3_readNumber_101 5 rfl ?_
            refine x_t_if_le C 110 111 1 0 dX3_readNumber_103 rfl dX3_readNumber_106 rfl dX3_readNumber_107 rfl dX3_readNumber_110 rfl rfl ?_
            refine x_put (G' := ov b (toC E b ch tl nu ki ((en + 1) + nI i) (if (nI i) ≤ 0 then 0 else 1)) G) C (xlo (i := 2) hb_b) (xhi (i := 2) hn_b rfl) (ov_at (i := 2) rfl) f_X3_32 xt_X3 rfl (by split <;> rfl) (by split <;> rfl) rfl (ov_set (i := 2) rfl rfl) dX3_readNumber_111 ?_
            refine x_iload_n C dX3_readNumber_114 2 rfl ?_
            refine x_if_lt C 142 dX3_readNumber_115 rfl (fun c115 => ?_) (fun c115 => ?_)
            · exact x_vret C Z rfl rfl (by simp only [rnEn, rnWh, rnNu, rnV, hE, hk]; simp [if_true, c1, c14, c62, c115]) dX3_readNumber_142
            · refine x_iload_n C dX3_readNumber_118 2 rfl ?_
              refine x_iconst C 3 dX3_readNumber_119 rfl ?_
              refine x_icmp_ge C 142 dX3_readNumber_120 rfl (fun c120 => ?_) (fun c120 => ?_)
              · exact x_vret C Z rfl rfl (by simp only [rnEn, rnWh, rnNu, rnV, hE, hk]; simp [if_true, c1, c14, c62, c115, c120]) dX3_readNumber_142
              · refine x_aload_n C dX3_readNumber_123 0 rfl ?_
                refine x_get C (xlo (i := 2) hb_b) (xhi (i := 2) hn_b rfl) (ov_at (i := 2) rfl) f_X3_9 rfl dX3_readNumber_124 ?_
                refine x_iload_n C dX3_readNumber_127 2 rfl ?_
                refine x_iload C dX3_readNumber_128 3 rfl ?_
                refine x_if_eq C 139 dX3_readNumber_130 rfl (fun c => absurd c (by decide)) (fun _ => ?_)
                refine x_iload C dX3_readNumber_133 4 rfl ?_
                refine x_ineg C dX3_readNumber_135 ?_
                refine x_goto C 141 dX3_readNumber_136 rfl ?_
                refine x_iast (G' := ov b (toC E b ch tl (upd nu idx.toNatClampNeg (-(dgV (tAt ch tl) (en + 1) i))) ki ((en + 1) + nI i) (if (nI i) ≤ 0 then 0 else 1)) G) C idx.toNatClampNeg (xlo (i := 3) hb_b) (xhi (i := 3) hn_b rfl) (ov_at (i := 3) rfl) (vp_in_lt (M := 3) rfl c115 c120) rfl (ov_set (i := 3) rfl rfl) dX3_readNumber_141 ?_
                exact x_vret C Z rfl rfl (by simp only [rnEn, rnWh, rnNu, rnV, hE, hk]; simp [if_true, c1, c14, c62, c115, c120]) dX3_readNumber_142
          · refine x_iload C dX3_readNumber_65 4 rfl ?_
            refine x_bipush C 10 dX3_readNumber_67 rfl ?_
            refine x_imul C dX3_readNumber_69 ?_
            refine x_aload_n C dX3_readNumber_70 1 rfl ?_
            refine x_aload_n C dX3_readNumber_71 0 rfl ?_
            refine x_get C (xlo (i := 2) hb_b) (xhi (i := 2) hn_b rfl) (ov_at (i := 2) rfl) f_X3_25 rfl dX3_readNumber_72 ?_
            refine x_cV1 C (MF.sliceR (i := 0) (n := 2) rfl (c_X7_characterAt E N b _ ch tl ((en + 1) + nI i) (xlo (i := 0) hb_b) (xhn (i := 0) (n := 2) hn_b rfl))) v_X3_15 hN (xlo (i := 0) hb_b) (xhi (i := 0) hn_b rfl) (ov_at (i := 0) rfl) rfl rfl rfl rfl rfl dX3_readNumber_75 ?_
            refine x_iadd C dX3_readNumber_78 ?_
            refine x_bipush C 48 dX3_readNumber_79 rfl ?_
            refine x_isub C dX3_readNumber_81 ?_
            refine x_istore (L' := [(5, .int ((((dgV (tAt ch tl) (en + 1) i) * 10) + (tAt ch tl ((en + 1) + nI i))) - 48)), (0, .ref (b + 2)), (1, .ref b), (2, .int idx), (4, .int 1), (6, .int (nI i))]) C dX3_readNumber_82 rfl rfl ?_
            refine x_iinc (L' := [(6, .int ((nI i) + 1)), (5, .int ((((dgV (tAt ch tl) (en + 1) i) * 10) + (tAt ch tl ((en + 1) + nI i))) - 48)), (0, .ref (b + 2)), (1, .ref b), (2, .int idx), (4, .int 1)]) C ((nI i) + 1) dX3_readNumber_84 5 rfl rfl rfl rfl ?_
            refine x_aload_n C dX3_readNumber_87 2 rfl ?_
            refine x_dup C dX3_readNumber_88 rfl ?_
            refine x_get C (xlo (i := 2) hb_b) (xhi (i := 2) hn_b rfl) (ov_at (i := 2) rfl) f_X3_25 rfl dX3_readNumber_89 ?_
            refine x_iconst C 1 dX3_readNumber_92 rfl ?_
            refine x_iadd C dX3_readNumber_93 ?_
            refine x_put (G' := ov b (toC E b ch tl nu ki (((en + 1) + nI i) + 1) wh) G) C (xlo (i := 2) hb_b) (xhi (i := 2) hn_b rfl) (ov_at (i := 2) rfl) f_X3_25 xt_X3 rfl rfl rfl rfl (ov_set (i := 2) rfl rfl) dX3_readNumber_94 ?_
            refine x_goto C 45 dX3_readNumber_97 rfl ?_
            refine x_perm (L' := [(0, .ref (b + 2)), (1, .ref b), (2, .int idx), (4, .int 1), (5, .int ((((dgV (tAt ch tl) (en + 1) i) * 10) + (tAt ch tl ((en + 1) + nI i))) - 48)), (6, .int ((nI i) + 1))]) [2, 3, 4, 5, 1, 0] rfl ?_
            refine x_to (L' := [(0, .ref (b + 2)), (1, .ref b), (2, .int idx), (4, .int 1), (5, .int (dgV (tAt ch tl) (en + 1) (i + 1))), (6, .int (nI (i + 1)))]) (G' := ov b (toC E b ch tl nu ki ((en + 1) + nI (i + 1)) wh) G) (by simp only [nI_succ, dgV]; try rfl) (by simp only [nI_succ, ← Int32.add_assoc]) rfl ?_
            exact ih (i + 1) (by omega) (by rw [← hq]; simp only [dgC, nI_succ, ← Int32.add_assoc, c1, c14, c62]; simp only [if_true]; omega)
      refine x_to (L' := [(0, .ref (b + 2)), (1, .ref b), (2, .int idx), (4, .int 1), (5, .int (dgV (tAt ch tl) (en + 1) 0)), (6, .int (nI 0))]) (G' := ov b (toC E b ch tl nu ki ((en + 1) + nI 0) wh) G) rfl (by simp [nI_0]) rfl ?_
      exact lp45_3 _ 0 (Nat.add_sub_cancel' (by omega)) (by simp [nI_0])

set_option maxRecDepth 100000 in
set_option maxHeartbeats 4000000 in
theorem c_X3_read (E : XE) (N b : Nat) (G : GW) (ch : Nat → Int32) (tl : Int32) (nu : Nat → Int32) (ki en wh : Int32) (pos : Int32) (hb_b : xB E ≤ b) (hn_b : b + 4 ≤ N) : MF E yX3_read cX3_read 6 none 2 47 0 0 [.ref (b + 2), .ref b, .int pos] N (ov b (toC E b ch tl nu ki en wh) G) none (ov b (toC E b ch tl ((oFin ch tl nu pos).1) (tAt ch tl pos) ((oFin ch tl nu pos).2.1) ((oFin ch tl nu pos).2.2)) G) := by
  refine MF.mk RX3 rfl (by decide +kernel) rfl (fun K C Z hin hN => ?_)
  show XW E K 6 N 0 0 _ 0 [(0, .ref (b + 2)), (1, .ref b), (2, .int pos)] []
  refine x_aload_n C dX3_read_0 0 rfl ?_
  refine x_aload_n C dX3_read_1 1 rfl ?_
  refine x_iload_n C dX3_read_2 2 rfl ?_
  refine x_cV1 C (MF.sliceR (i := 0) (n := 2) rfl (c_X7_characterAt E N b _ ch tl pos (xlo (i := 0) hb_b) (xhn (i := 0) (n := 2) hn_b rfl))) v_X3_15 hN (xlo (i := 0) hb_b) (xhi (i := 0) hn_b rfl) (ov_at (i := 0) rfl) rfl rfl rfl rfl rfl dX3_read_3 ?_
  refine x_put (G' := ov b (toC E b ch tl nu (tAt ch tl pos) en wh) G) C (xlo (i := 2) hb_b) (xhi (i := 2) hn_b rfl) (ov_at (i := 2) rfl) f_X3_21 xt_X3 rfl rfl rfl rfl (ov_set (i := 2) rfl rfl) dX3_read_6 ?_
  refine x_aload_n C dX3_read_9 0 rfl ?_
  refine x_iload_n C dX3_read_10 2 rfl ?_
  refine x_put (G' := ov b (toC E b ch tl nu (tAt ch tl pos) pos wh) G) C (xlo (i := 2) hb_b) (xhi (i := 2) hn_b rfl) (ov_at (i := 2) rfl) f_X3_25 xt_X3 rfl rfl rfl rfl (ov_set (i := 2) rfl rfl) dX3_read_11 ?_
  refine x_aload_n C dX3_read_14 0 rfl ?_
  refine x_cV1 C (MF.sliceR (i := 2) (n := 2) rfl (c_X3_numbersOfKind E N (b + 2) _ nu (tAt ch tl pos) pos wh (xlo (i := 2) hb_b) (xhn (i := 2) (n := 2) hn_b rfl))) v_X3_28 hN (xlo (i := 2) hb_b) (xhi (i := 2) hn_b rfl) (ov_at (i := 2) rfl) rfl rfl rfl rfl rfl dX3_read_15 ?_
  refine x_v (w := .int (nI (kN (tAt ch tl pos)))) (by rw [kN_eq]) ?_
  refine x_istore_n (L' := [(3, .int (nI (kN (tAt ch tl pos)))), (0, .ref (b + 2)), (1, .ref b), (2, .int pos)]) C dX3_read_18 rfl rfl ?_
  refine x_aload_n C dX3_read_19 1 rfl ?_
  refine x_iload_n C dX3_read_20 0 rfl ?_
  refine x_if_le C 28 dX3_read_21 rfl (fun c21 => ?_) (fun c21 => ?_)
  · refine x_iconst C 0 dX3_read_28 rfl ?_
    refine x_put (G' := ov b (toC E b ch tl nu (tAt ch tl pos) pos 0) G) C (xlo (i := 2) hb_b) (xhi (i := 2) hn_b rfl) (ov_at (i := 2) rfl) f_X3_32 xt_X3 rfl rfl rfl rfl (ov_set (i := 2) rfl rfl) dX3_read_29 ?_
    refine x_aload_n C dX3_read_32 1 rfl ?_
    refine x_get C (xlo (i := 2) hb_b) (xhi (i := 2) hn_b rfl) (ov_at (i := 2) rfl) f_X3_32 rfl dX3_read_33 ?_
    refine x_if_eq C 49 dX3_read_36 rfl (fun _ => ?_) (fun c => absurd c (by decide))
    refine x_iconst C 0 dX3_read_49 rfl ?_
    refine x_istore (L' := [(4, .int 0), (3, .int (nI (kN (tAt ch tl pos)))), (0, .ref (b + 2)), (1, .ref b), (2, .int pos)]) C dX3_read_50 rfl rfl ?_
    refine x_perm (L' := [(0, .ref (b + 2)), (1, .ref b), (2, .int pos), (3, .int (nI (kN (tAt ch tl pos)))), (4, .int 0)]) [2, 3, 4, 1, 0] rfl ?_
    have lp52_1 : ∀ (d i : Nat) (nu1 : Nat → Int32) (en1 : Int32) (wh1 : Int32), i + d = kN (tAt ch tl pos) → oRun ch tl (tAt ch tl pos) (kN (tAt ch tl pos)) d i (nu1, en1, wh1) = oFin ch tl nu pos → XW E K 6 N 0 0 (ov b (toC E b ch tl nu1 (tAt ch tl pos) en1 wh1) G) 52 [(0, .ref (b + 2)), (1, .ref b), (2, .int pos), (3, .int (nI (kN (tAt ch tl pos)))), (4, .int (nI i))] [] := by
      intro d
      induction d with
      | zero =>
        intro i nu1 en1 wh1 hd hq
        have hi : i = kN (tAt ch tl pos) := by omega
        refine x_iload C dX3_read_52 4 rfl ?_
        refine x_iload_n C dX3_read_54 3 rfl ?_
        refine x_icmp_ge C 145 dX3_read_55 rfl (fun _ => ?_) (fun c => absurd c (not_not_intro (nI_le (by have := kN_le (tAt ch tl pos); omega) (by have := kN_le (tAt ch tl pos); omega))))
        have hf : oFin ch tl nu pos = (nu1, en1, wh1) := by rw [← hq]; simp [oRun, c21]
        exact x_vret C Z rfl rfl (by rw [hf]) dX3_read_145
      | succ d ih =>
        intro i nu1 en1 wh1 hd hq
        have hi : i < kN (tAt ch tl pos) := by omega
        refine x_iload C dX3_read_52 4 rfl ?_
        refine x_iload_n C dX3_read_54 3 rfl ?_
        refine x_icmp_ge C 145 dX3_read_55 rfl (fun c => absurd c (nI_ge (by have := kN_le (tAt ch tl pos); omega) (by have := kN_le (tAt ch tl pos); omega))) (fun _ => ?_)
        refine x_aload_n C dX3_read_58 0 rfl ?_
        refine x_get C (xlo (i := 2) hb_b) (xhi (i := 2) hn_b rfl) (ov_at (i := 2) rfl) f_X3_32 rfl dX3_read_59 ?_
        refine x_if_eq C 145 dX3_read_62 rfl (fun c62 => ?_) (fun c62 => ?_)
        · have hf : oFin ch tl nu pos = (nu1, en1, wh1) := by rw [← hq]; simp [oRun, c21, c62]
          exact x_vret C Z rfl rfl (by rw [hf]) dX3_read_145
        · refine x_iload C dX3_read_65 4 rfl ?_
          refine x_iload_n C dX3_read_67 3 rfl ?_
          refine x_iconst C 1 dX3_read_68 rfl ?_
          refine x_isub C dX3_read_69 ?_
          refine x_icmp_ne C 77 dX3_read_70 rfl (fun c70 => ?_) (fun c70 => ?_)
          · refine x_iconst C 0 dX3_read_77 rfl ?_
            refine x_istore (L' := [(5, .int 0), (0, .ref (b + 2)), (1, .ref b), (2, .int pos), (3, .int (nI (kN (tAt ch tl pos)))), (4, .int (nI i))]) C dX3_read_78 rfl rfl ?_
            refine x_aload_n C dX3_read_80 1 rfl ?_
            refine x_aload_n C dX3_read_81 2 rfl ?_
            refine x_iload C dX3_read_82 5 rfl ?_
            refine x_iload C dX3_read_84 0 rfl ?_
            refine x_if_eq C 111 dX3_read_86 rfl (fun _ => ?_) (fun c => absurd c (by decide))
            refine x_iconst C 0 dX3_read_111 rfl ?_
            refine x_cV0 C (c_X3_readNumber E N b _ ch tl nu1 (tAt ch tl pos) en1 wh1 (nI i) 0 hb_b hn_b) v_X3_36 hN (xlo (i := 2) hb_b) (xhi (i := 2) hn_b rfl) (ov_at (i := 2) rfl) rfl rfl rfl rfl rfl dX3_read_112 ?_
            refine x_aload_n C dX3_read_115 1 rfl ?_
            refine x_get C (xlo (i := 2) hb_b) (xhi (i := 2) hn_b rfl) (ov_at (i := 2) rfl) f_X3_32 rfl dX3_read_116 ?_
            refine x_if_eq C 139 dX3_read_119 rfl (fun c119 => ?_) (fun c119 => ?_)
            · refine x_iinc (L' := [(4, .int ((nI i) + 1)), (5, .int 0), (0, .ref (b + 2)), (1, .ref b), (2, .int pos), (3, .int (nI (kN (tAt ch tl pos))))]) C ((nI i) + 1) dX3_read_139 5 rfl rfl rfl rfl ?_
              refine x_goto C 52 dX3_read_142 rfl ?_
              refine x_perm (L' := [(0, .ref (b + 2)), (1, .ref b), (2, .int pos), (3, .int (nI (kN (tAt ch tl pos)))), (4, .int ((nI i) + 1))]) [2, 3, 4, 5, 0] rfl ?_
              refine x_to (L' := [(0, .ref (b + 2)), (1, .ref b), (2, .int pos), (3, .int (nI (kN (tAt ch tl pos)))), (4, .int (nI (i + 1)))]) (G' := ov b (toC E b ch tl (rnNu nu1 ch tl en1 (nI i) 0) (tAt ch tl pos) (rnEn ch tl en1 0) (rnWh ch tl en1 0)) G) (by simp only [nI_succ]) rfl rfl ?_
              exact ih (i + 1) (rnNu nu1 ch tl en1 (nI i) 0) (rnEn ch tl en1 0) (rnWh ch tl en1 0) (by omega) (by rw [← hq]; simp [oRun, oStep, oFlag, oSign, c21, c62, c70, c119])
            · refine x_aload_n C dX3_read_122 1 rfl ?_
              refine x_aload_n C dX3_read_123 2 rfl ?_
              refine x_iload C dX3_read_124 0 rfl ?_
              refine x_if_eq C 134 dX3_read_126 rfl (fun _ => ?_) (fun c => absurd c (by decide))
              refine x_bipush C 44 dX3_read_134 rfl ?_
              refine x_cV0 C (c_X3_readSign E N b _ ch tl (rnNu nu1 ch tl en1 (nI i) 0) (tAt ch tl pos) (rnEn ch tl en1 0) (rnWh ch tl en1 0) 44 hb_b hn_b) v_X3_40 hN (xlo (i := 2) hb_b) (xhi (i := 2) hn_b rfl) (ov_at (i := 2) rfl) rfl rfl rfl rfl rfl dX3_read_136 ?_
              refine x_iinc (L' := [(4, .int ((nI i) + 1)), (5, .int 0), (0, .ref (b + 2)), (1, .ref b), (2, .int pos), (3, .int (nI (kN (tAt ch tl pos))))]) C ((nI i) + 1) dX3_read_139 5 rfl rfl rfl rfl ?_
              refine x_goto C 52 dX3_read_142 rfl ?_
              refine x_perm (L' := [(0, .ref (b + 2)), (1, .ref b), (2, .int pos), (3, .int (nI (kN (tAt ch tl pos)))), (4, .int ((nI i) + 1))]) [2, 3, 4, 5, 0] rfl ?_
              refine x_to (L' := [(0, .ref (b + 2)), (1, .ref b), (2, .int pos), (3, .int (nI (kN (tAt ch tl pos)))), (4, .int (nI (i + 1)))]) (G' := ov b (toC E b ch tl (rnNu nu1 ch tl en1 (nI i) 0) (tAt ch tl pos) (sgE ch tl (rnEn ch tl en1 0) 44) (sgW ch tl (rnEn ch tl en1 0) 44)) G) (by simp only [nI_succ]) rfl rfl ?_
              exact ih (i + 1) (rnNu nu1 ch tl en1 (nI i) 0) (sgE ch tl (rnEn ch tl en1 0) 44) (sgW ch tl (rnEn ch tl en1 0) 44) (by omega) (by rw [← hq]; simp [oRun, oStep, oFlag, oSign, c21, c62, c70, c119])
          · refine x_iconst C 1 dX3_read_73 rfl ?_
            refine x_goto C 78 dX3_read_74 rfl ?_
            refine x_istore (L' := [(5, .int 1), (0, .ref (b + 2)), (1, .ref b), (2, .int pos), (3, .int (nI (kN (tAt ch tl pos)))), (4, .int (nI i))]) C dX3_read_78 rfl rfl ?_
            refine x_aload_n C dX3_read_80 1 rfl ?_
            refine x_aload_n C dX3_read_81 2 rfl ?_
            refine x_iload C dX3_read_82 5 rfl ?_
            refine x_iload C dX3_read_84 0 rfl ?_
            refine x_if_eq C 111 dX3_read_86 rfl (fun c => absurd c (by decide)) (fun _ => ?_)
            refine x_aload_n C dX3_read_89 1 rfl ?_
            refine x_get C (xlo (i := 2) hb_b) (xhi (i := 2) hn_b rfl) (ov_at (i := 2) rfl) f_X3_21 rfl dX3_read_90 ?_
            refine x_bipush C 115 dX3_read_93 rfl ?_
            refine x_icmp_eq C 107 dX3_read_95 rfl (fun c95 => ?_) (fun c95 => ?_)
            · refine x_iconst C 1 dX3_read_107 rfl ?_
              refine x_goto C 112 dX3_read_108 rfl ?_
              refine x_cV0 C (c_X3_readNumber E N b _ ch tl nu1 (tAt ch tl pos) en1 wh1 (nI i) 1 hb_b hn_b) v_X3_36 hN (xlo (i := 2) hb_b) (xhi (i := 2) hn_b rfl) (ov_at (i := 2) rfl) rfl rfl rfl rfl rfl dX3_read_112 ?_
              refine x_aload_n C dX3_read_115 1 rfl ?_
              refine x_get C (xlo (i := 2) hb_b) (xhi (i := 2) hn_b rfl) (ov_at (i := 2) rfl) f_X3_32 rfl dX3_read_116 ?_
              refine x_if_eq C 139 dX3_read_119 rfl (fun c119 => ?_) (fun c119 => ?_)
              · refine x_iinc (L' := [(4, .int ((nI i) + 1)), (5, .int 1), (0, .ref (b + 2)), (1, .ref b), (2, .int pos), (3, .int (nI (kN (tAt ch tl pos))))]) C ((nI i) + 1) dX3_read_139 5 rfl rfl rfl rfl ?_
                refine x_goto C 52 dX3_read_142 rfl ?_
                refine x_perm (L' := [(0, .ref (b + 2)), (1, .ref b), (2, .int pos), (3, .int (nI (kN (tAt ch tl pos)))), (4, .int ((nI i) + 1))]) [2, 3, 4, 5, 0] rfl ?_
                refine x_to (L' := [(0, .ref (b + 2)), (1, .ref b), (2, .int pos), (3, .int (nI (kN (tAt ch tl pos)))), (4, .int (nI (i + 1)))]) (G' := ov b (toC E b ch tl (rnNu nu1 ch tl en1 (nI i) 1) (tAt ch tl pos) (rnEn ch tl en1 1) (rnWh ch tl en1 1)) G) (by simp only [nI_succ]) rfl rfl ?_
                exact ih (i + 1) (rnNu nu1 ch tl en1 (nI i) 1) (rnEn ch tl en1 1) (rnWh ch tl en1 1) (by omega) (by rw [← hq]; simp [oRun, oStep, oFlag, oSign, c21, c62, c70, c95, c119])
              · refine x_aload_n C dX3_read_122 1 rfl ?_
                refine x_aload_n C dX3_read_123 2 rfl ?_
                refine x_iload C dX3_read_124 0 rfl ?_
                refine x_if_eq C 134 dX3_read_126 rfl (fun c => absurd c (by decide)) (fun _ => ?_)
                refine x_bipush C 59 dX3_read_129 rfl ?_
                refine x_goto C 136 dX3_read_131 rfl ?_
                refine x_cV0 C (c_X3_readSign E N b _ ch tl (rnNu nu1 ch tl en1 (nI i) 1) (tAt ch tl pos) (rnEn ch tl en1 1) (rnWh ch tl en1 1) 59 hb_b hn_b) v_X3_40 hN (xlo (i := 2) hb_b) (xhi (i := 2) hn_b rfl) (ov_at (i := 2) rfl) rfl rfl rfl rfl rfl dX3_read_136 ?_
                refine x_iinc (L' := [(4, .int ((nI i) + 1)), (5, .int 1), (0, .ref (b + 2)), (1, .ref b), (2, .int pos), (3, .int (nI (kN (tAt ch tl pos))))]) C ((nI i) + 1) dX3_read_139 5 rfl rfl rfl rfl ?_
                refine x_goto C 52 dX3_read_142 rfl ?_
                refine x_perm (L' := [(0, .ref (b + 2)), (1, .ref b), (2, .int pos), (3, .int (nI (kN (tAt ch tl pos)))), (4, .int ((nI i) + 1))]) [2, 3, 4, 5, 0] rfl ?_
                refine x_to (L' := [(0, .ref (b + 2)), (1, .ref b), (2, .int pos), (3, .int (nI (kN (tAt ch tl pos)))), (4, .int (nI (i + 1)))]) (G' := ov b (toC E b ch tl (rnNu nu1 ch tl en1 (nI i) 1) (tAt ch tl pos) (sgE ch tl (rnEn ch tl en1 1) 59) (sgW ch tl (rnEn ch tl en1 1) 59)) G) (by simp only [nI_succ]) rfl rfl ?_
                exact ih (i + 1) (rnNu nu1 ch tl en1 (nI i) 1) (sgE ch tl (rnEn ch tl en1 1) 59) (sgW ch tl (rnEn ch tl en1 1) 59) (by omega) (by rw [← hq]; simp [oRun, oStep, oFlag, oSign, c21, c62, c70, c95, c119])
            · refine x_aload_n C dX3_read_98 1 rfl ?_
              refine x_get C (xlo (i := 2) hb_b) (xhi (i := 2) hn_b rfl) (ov_at (i := 2) rfl) f_X3_21 rfl dX3_read_99 ?_
              refine x_bipush C 116 dX3_read_102 rfl ?_
              refine x_icmp_ne C 111 dX3_read_104 rfl (fun c104 => ?_) (fun c104 => ?_)
              · refine x_iconst C 0 dX3_read_111 rfl ?_
                refine x_cV0 C (c_X3_readNumber E N b _ ch tl nu1 (tAt ch tl pos) en1 wh1 (nI i) 0 hb_b hn_b) v_X3_36 hN (xlo (i := 2) hb_b) (xhi (i := 2) hn_b rfl) (ov_at (i := 2) rfl) rfl rfl rfl rfl rfl dX3_read_112 ?_
                refine x_aload_n C dX3_read_115 1 rfl ?_
                refine x_get C (xlo (i := 2) hb_b) (xhi (i := 2) hn_b rfl) (ov_at (i := 2) rfl) f_X3_32 rfl dX3_read_116 ?_
                refine x_if_eq C 139 dX3_read_119 rfl (fun c119 => ?_) (fun c119 => ?_)
                · refine x_iinc (L' := [(4, .int ((nI i) + 1)), (5, .int 1), (0, .ref (b + 2)), (1, .ref b), (2, .int pos), (3, .int (nI (kN (tAt ch tl pos))))]) C ((nI i) + 1) dX3_read_139 5 rfl rfl rfl rfl ?_
                  refine x_goto C 52 dX3_read_142 rfl ?_
                  refine x_perm (L' := [(0, .ref (b + 2)), (1, .ref b), (2, .int pos), (3, .int (nI (kN (tAt ch tl pos)))), (4, .int ((nI i) + 1))]) [2, 3, 4, 5, 0] rfl ?_
                  refine x_to (L' := [(0, .ref (b + 2)), (1, .ref b), (2, .int pos), (3, .int (nI (kN (tAt ch tl pos)))), (4, .int (nI (i + 1)))]) (G' := ov b (toC E b ch tl (rnNu nu1 ch tl en1 (nI i) 0) (tAt ch tl pos) (rnEn ch tl en1 0) (rnWh ch tl en1 0)) G) (by simp only [nI_succ]) rfl rfl ?_
                  exact ih (i + 1) (rnNu nu1 ch tl en1 (nI i) 0) (rnEn ch tl en1 0) (rnWh ch tl en1 0) (by omega) (by rw [← hq]; simp [oRun, oStep, oFlag, oSign, c21, c62, c70, c95, c104, c119])
                · refine x_aload_n C dX3_read_122 1 rfl ?_
                  refine x_aload_n C dX3_read_123 2 rfl ?_
                  refine x_iload C dX3_read_124 0 rfl ?_
                  refine x_if_eq C 134 dX3_read_126 rfl (fun c => absurd c (by decide)) (fun _ => ?_)
                  refine x_bipush C 59 dX3_read_129 rfl ?_
                  refine x_goto C 136 dX3_read_131 rfl ?_
                  refine x_cV0 C (c_X3_readSign E N b _ ch tl (rnNu nu1 ch tl en1 (nI i) 0) (tAt ch tl pos) (rnEn ch tl en1 0) (rnWh ch tl en1 0) 59 hb_b hn_b) v_X3_40 hN (xlo (i := 2) hb_b) (xhi (i := 2) hn_b rfl) (ov_at (i := 2) rfl) rfl rfl rfl rfl rfl dX3_read_136 ?_
                  refine x_iinc (L' := [(4, .int ((nI i) + 1)), (5, .int 1), (0, .ref (b + 2)), (1, .ref b), (2, .int pos), (3, .int (nI (kN (tAt ch tl pos))))]) C ((nI i) + 1) dX3_read_139 5 rfl rfl rfl rfl ?_
                  refine x_goto C 52 dX3_read_142 rfl ?_
                  refine x_perm (L' := [(0, .ref (b + 2)), (1, .ref b), (2, .int pos), (3, .int (nI (kN (tAt ch tl pos)))), (4, .int ((nI i) + 1))]) [2, 3, 4, 5, 0] rfl ?_
                  refine x_to (L' := [(0, .ref (b + 2)), (1, .ref b), (2, .int pos), (3, .int (nI (kN (tAt ch tl pos)))), (4, .int (nI (i + 1)))]) (G' := ov b (toC E b ch tl (rnNu nu1 ch tl en1 (nI i) 0) (tAt ch tl pos) (sgE ch tl (rnEn ch tl en1 0) 59) (sgW ch tl (rnEn ch tl en1 0) 59)) G) (by simp only [nI_succ]) rfl rfl ?_
                  exact ih (i + 1) (rnNu nu1 ch tl en1 (nI i) 0) (sgE ch tl (rnEn ch tl en1 0) 59) (sgW ch tl (rnEn ch tl en1 0) 59) (by omega) (by rw [← hq]; simp [oRun, oStep, oFlag, oSign, c21, c62, c70, c95, c104, c119])
              · refine x_iconst C 1 dX3_read_107 rfl ?_
                refine x_goto C 112 dX3_read_108 rfl ?_
                refine x_cV0 C (c_X3_readNumber E N b _ ch tl nu1 (tAt ch tl pos) en1 wh1 (nI i) 1 hb_b hn_b) v_X3_36 hN (xlo (i := 2) hb_b) (xhi (i := 2) hn_b rfl) (ov_at (i := 2) rfl) rfl rfl rfl rfl rfl dX3_read_112 ?_
                refine x_aload_n C dX3_read_115 1 rfl ?_
                refine x_get C (xlo (i := 2) hb_b) (xhi (i := 2) hn_b rfl) (ov_at (i := 2) rfl) f_X3_32 rfl dX3_read_116 ?_
                refine x_if_eq C 139 dX3_read_119 rfl (fun c119 => ?_) (fun c119 => ?_)
                · refine x_iinc (L' := [(4, .int ((nI i) + 1)), (5, .int 1), (0, .ref (b + 2)), (1, .ref b), (2, .int pos), (3, .int (nI (kN (tAt ch tl pos))))]) C ((nI i) + 1) dX3_read_139 5 rfl rfl rfl rfl ?_
                  refine x_goto C 52 dX3_read_142 rfl ?_
                  refine x_perm (L' := [(0, .ref (b + 2)), (1, .ref b), (2, .int pos), (3, .int (nI (kN (tAt ch tl pos)))), (4, .int ((nI i) + 1))]) [2, 3, 4, 5, 0] rfl ?_
                  refine x_to (L' := [(0, .ref (b + 2)), (1, .ref b), (2, .int pos), (3, .int (nI (kN (tAt ch tl pos)))), (4, .int (nI (i + 1)))]) (G' := ov b (toC E b ch tl (rnNu nu1 ch tl en1 (nI i) 1) (tAt ch tl pos) (rnEn ch tl en1 1) (rnWh ch tl en1 1)) G) (by simp only [nI_succ]) rfl rfl ?_
                  exact ih (i + 1) (rnNu nu1 ch tl en1 (nI i) 1) (rnEn ch tl en1 1) (rnWh ch tl en1 1) (by omega) (by rw [← hq]; simp [oRun, oStep, oFlag, oSign, c21, c62, c70, c95, c104, c119])
                · refine x_aload_n C dX3_read_122 1 rfl ?_
                  refine x_aload_n C dX3_read_123 2 rfl ?_
                  refine x_iload C dX3_read_124 0 rfl ?_
                  refine x_if_eq C 134 dX3_read_126 rfl (fun c => absurd c (by decide)) (fun _ => ?_)
                  refine x_bipush C 59 dX3_read_129 rfl ?_
                  refine x_goto C 136 dX3_read_131 rfl ?_
                  refine x_cV0 C (c_X3_readSign E N b _ ch tl (rnNu nu1 ch tl en1 (nI i) 1) (tAt ch tl pos) (rnEn ch tl en1 1) (rnWh ch tl en1 1) 59 hb_b hn_b) v_X3_40 hN (xlo (i := 2) hb_b) (xhi (i := 2) hn_b rfl) (ov_at (i := 2) rfl) rfl rfl rfl rfl rfl dX3_read_136 ?_
                  refine x_iinc (L' := [(4, .int ((nI i) + 1)), (5, .int 1), (0, .ref (b + 2)), (1, .ref b), (2, .int pos), (3, .int (nI (kN (tAt ch tl pos))))]) C ((nI i) + 1) dX3_read_139 5 rfl rfl rfl rfl ?_
                  refine x_goto C 52 dX3_read_142 rfl ?_
                  refine x_perm (L' := [(0, .ref (b + 2)), (1, .ref b), (2, .int pos), (3, .int (nI (kN (tAt ch tl pos)))), (4, .int ((nI i) + 1))]) [2, 3, 4, 5, 0] rfl ?_
                  refine x_to (L' := [(0, .ref (b + 2)), (1, .ref b), (2, .int pos), (3, .int (nI (kN (tAt ch tl pos)))), (4, .int (nI (i + 1)))]) (G' := ov b (toC E b ch tl (rnNu nu1 ch tl en1 (nI i) 1) (tAt ch tl pos) (sgE ch tl (rnEn ch tl en1 1) 59) (sgW ch tl (rnEn ch tl en1 1) 59)) G) (by simp only [nI_succ]) rfl rfl ?_
                  exact ih (i + 1) (rnNu nu1 ch tl en1 (nI i) 1) (sgE ch tl (rnEn ch tl en1 1) 59) (sgW ch tl (rnEn ch tl en1 1) 59) (by omega) (by rw [← hq]; simp [oRun, oStep, oFlag, oSign, c21, c62, c70, c95, c104, c119])
    refine x_to (L' := [(0, .ref (b + 2)), (1, .ref b), (2, .int pos), (3, .int (nI (kN (tAt ch tl pos)))), (4, .int (nI 0))]) (G' := ov b (toC E b ch tl nu (tAt ch tl pos) pos 0) G) rfl rfl rfl ?_
    exact lp52_1 _ 0 nu pos 0 (Nat.add_sub_cancel' (by omega)) (by simp [oFin, c21])
  · refine x_iconst C 1 dX3_read_24 rfl ?_
    refine x_goto C 29 dX3_read_25 rfl ?_
    refine x_put (G' := ov b (toC E b ch tl nu (tAt ch tl pos) pos 1) G) C (xlo (i := 2) hb_b) (xhi (i := 2) hn_b rfl) (ov_at (i := 2) rfl) f_X3_32 xt_X3 rfl rfl rfl rfl (ov_set (i := 2) rfl rfl) dX3_read_29 ?_
    refine x_aload_n C dX3_read_32 1 rfl ?_
    refine x_get C (xlo (i := 2) hb_b) (xhi (i := 2) hn_b rfl) (ov_at (i := 2) rfl) f_X3_32 rfl dX3_read_33 ?_
    refine x_if_eq C 49 dX3_read_36 rfl (fun c => absurd c (by decide)) (fun _ => ?_)
    refine x_aload_n C dX3_read_39 1 rfl ?_
    refine x_dup C dX3_read_40 rfl ?_
    refine x_get C (xlo (i := 2) hb_b) (xhi (i := 2) hn_b rfl) (ov_at (i := 2) rfl) f_X3_25 rfl dX3_read_41 ?_
    refine x_iconst C 1 dX3_read_44 rfl ?_
    refine x_iadd C dX3_read_45 ?_
    refine x_put (G' := ov b (toC E b ch tl nu (tAt ch tl pos) (pos + 1) 1) G) C (xlo (i := 2) hb_b) (xhi (i := 2) hn_b rfl) (ov_at (i := 2) rfl) f_X3_25 xt_X3 rfl rfl rfl rfl (ov_set (i := 2) rfl rfl) dX3_read_46 ?_
    refine x_iconst C 0 dX3_read_49 rfl ?_
    refine x_istore (L' := [(4, .int 0), (3, .int (nI (kN (tAt ch tl pos)))), (0, .ref (b + 2)), (1, .ref b), (2, .int pos)]) C dX3_read_50 rfl rfl ?_
    refine x_perm (L' := [(0, .ref (b + 2)), (1, .ref b), (2, .int pos), (3, .int (nI (kN (tAt ch tl pos)))), (4, .int 0)]) [2, 3, 4, 1, 0] rfl ?_
    have lp52_2 : ∀ (d i : Nat) (nu1 : Nat → Int32) (en1 : Int32) (wh1 : Int32), i + d = kN (tAt ch tl pos) → oRun ch tl (tAt ch tl pos) (kN (tAt ch tl pos)) d i (nu1, en1, wh1) = oFin ch tl nu pos → XW E K 6 N 0 0 (ov b (toC E b ch tl nu1 (tAt ch tl pos) en1 wh1) G) 52 [(0, .ref (b + 2)), (1, .ref b), (2, .int pos), (3, .int (nI (kN (tAt ch tl pos)))), (4, .int (nI i))] [] := by
      intro d
      induction d with
      | zero =>
        intro i nu1 en1 wh1 hd hq
        have hi : i = kN (tAt ch tl pos) := by omega
        refine x_iload C dX3_read_52 4 rfl ?_
        refine x_iload_n C dX3_read_54 3 rfl ?_
        refine x_icmp_ge C 145 dX3_read_55 rfl (fun _ => ?_) (fun c => absurd c (not_not_intro (nI_le (by have := kN_le (tAt ch tl pos); omega) (by have := kN_le (tAt ch tl pos); omega))))
        have hf : oFin ch tl nu pos = (nu1, en1, wh1) := by rw [← hq]; simp [oRun, c21]
        exact x_vret C Z rfl rfl (by rw [hf]) dX3_read_145
      | succ d ih =>
        intro i nu1 en1 wh1 hd hq
        have hi : i < kN (tAt ch tl pos) := by omega
        refine x_iload C dX3_read_52 4 rfl ?_
        refine x_iload_n C dX3_read_54 3 rfl ?_
        refine x_icmp_ge C 145 dX3_read_55 rfl (fun c => absurd c (nI_ge (by have := kN_le (tAt ch tl pos); omega) (by have := kN_le (tAt ch tl pos); omega))) (fun _ => ?_)
        refine x_aload_n C dX3_read_58 0 rfl ?_
        refine x_get C (xlo (i := 2) hb_b) (xhi (i := 2) hn_b rfl) (ov_at (i := 2) rfl) f_X3_32 rfl dX3_read_59 ?_
        refine x_if_eq C 145 dX3_read_62 rfl (fun c62 => ?_) (fun c62 => ?_)
        · have hf : oFin ch tl nu pos = (nu1, en1, wh1) := by rw [← hq]; simp [oRun, c21, c62]
          exact x_vret C Z rfl rfl (by rw [hf]) dX3_read_145
        · refine x_iload C dX3_read_65 4 rfl ?_
          refine x_iload_n C dX3_read_67 3 rfl ?_
          refine x_iconst C 1 dX3_read_68 rfl ?_
          refine x_isub C dX3_read_69 ?_
          refine x_icmp_ne C 77 dX3_read_70 rfl (fun c70 => ?_) (fun c70 => ?_)
          · refine x_iconst C 0 dX3_read_77 rfl ?_
            refine x_istore (L' := [(5, .int 0), (0, .ref (b + 2)), (1, .ref b), (2, .int pos), (3, .int (nI (kN (tAt ch tl pos)))), (4, .int (nI i))]) C dX3_read_78 rfl rfl ?_
            refine x_aload_n C dX3_read_80 1 rfl ?_
            refine x_aload_n C dX3_read_81 2 rfl ?_
            refine x_iload C dX3_read_82 5 rfl ?_
            refine x_iload C dX3_read_84 0 rfl ?_
            refine x_if_eq C 111 dX3_read_86 rfl (fun _ => ?_) (fun c => absurd c (by decide))
            refine x_iconst C 0 dX3_read_111 rfl ?_
            refine x_cV0 C (c_X3_readNumber E N b _ ch tl nu1 (tAt ch tl pos) en1 wh1 (nI i) 0 hb_b hn_b) v_X3_36 hN (xlo (i := 2) hb_b) (xhi (i := 2) hn_b rfl) (ov_at (i := 2) rfl) rfl rfl rfl rfl rfl dX3_read_112 ?_
            refine x_aload_n C dX3_read_115 1 rfl ?_
            refine x_get C (xlo (i := 2) hb_b) (xhi (i := 2) hn_b rfl) (ov_at (i := 2) rfl) f_X3_32 rfl dX3_read_116 ?_
            refine x_if_eq C 139 dX3_read_119 rfl (fun c119 => ?_) (fun c119 => ?_)
            · refine x_iinc (L' := [(4, .int ((nI i) + 1)), (5, .int 0), (0, .ref (b + 2)), (1, .ref b), (2, .int pos), (3, .int (nI (kN (tAt ch tl pos))))]) C ((nI i) + 1) dX3_read_139 5 rfl rfl rfl rfl ?_
              refine x_goto C 52 dX3_read_142 rfl ?_
              refine x_perm (L' := [(0, .ref (b + 2)), (1, .ref b), (2, .int pos), (3, .int (nI (kN (tAt ch tl pos)))), (4, .int ((nI i) + 1))]) [2, 3, 4, 5, 0] rfl ?_
              refine x_to (L' := [(0, .ref (b + 2)), (1, .ref b), (2, .int pos), (3, .int (nI (kN (tAt ch tl pos)))), (4, .int (nI (i + 1)))]) (G' := ov b (toC E b ch tl (rnNu nu1 ch tl en1 (nI i) 0) (tAt ch tl pos) (rnEn ch tl en1 0) (rnWh ch tl en1 0)) G) (by simp only [nI_succ]) rfl rfl ?_
              exact ih (i + 1) (rnNu nu1 ch tl en1 (nI i) 0) (rnEn ch tl en1 0) (rnWh ch tl en1 0) (by omega) (by rw [← hq]; simp [oRun, oStep, oFlag, oSign, c21, c62, c70, c119])
            · refine x_aload_n C dX3_read_122 1 rfl ?_
              refine x_aload_n C dX3_read_123 2 rfl ?_
              refine x_iload C dX3_read_124 0 rfl ?_
              refine x_if_eq C 134 dX3_read_126 rfl (fun _ => ?_) (fun c => absurd c (by decide))
              refine x_bipush C 44 dX3_read_134 rfl ?_
              refine x_cV0 C (c_X3_readSign E N b _ ch tl (rnNu nu1 ch tl en1 (nI i) 0) (tAt ch tl pos) (rnEn ch tl en1 0) (rnWh ch tl en1 0) 44 hb_b hn_b) v_X3_40 hN (xlo (i := 2) hb_b) (xhi (i := 2) hn_b rfl) (ov_at (i := 2) rfl) rfl rfl rfl rfl rfl dX3_read_136 ?_
              refine x_iinc (L' := [(4, .int ((nI i) + 1)), (5, .int 0), (0, .ref (b + 2)), (1, .ref b), (2, .int pos), (3, .int (nI (kN (tAt ch tl pos))))]) C ((nI i) + 1) dX3_read_139 5 rfl rfl rfl rfl ?_
              refine x_goto C 52 dX3_read_142 rfl ?_
              refine x_perm (L' := [(0, .ref (b + 2)), (1, .ref b), (2, .int pos), (3, .int (nI (kN (tAt ch tl pos)))), (4, .int ((nI i) + 1))]) [2, 3, 4, 5, 0] rfl ?_
              refine x_to (L' := [(0, .ref (b + 2)), (1, .ref b), (2, .int pos), (3, .int (nI (kN (tAt ch tl pos)))), (4, .int (nI (i + 1)))]) (G' := ov b (toC E b ch tl (rnNu nu1 ch tl en1 (nI i) 0) (tAt ch tl pos) (sgE ch tl (rnEn ch tl en1 0) 44) (sgW ch tl (rnEn ch tl en1 0) 44)) G) (by simp only [nI_succ]) rfl rfl ?_
              exact ih (i + 1) (rnNu nu1 ch tl en1 (nI i) 0) (sgE ch tl (rnEn ch tl en1 0) 44) (sgW ch tl (rnEn ch tl en1 0) 44) (by omega) (by rw [← hq]; simp [oRun, oStep, oFlag, oSign, c21, c62, c70, c119])
          · refine x_iconst C 1 dX3_read_73 rfl ?_
            refine x_goto C 78 dX3_read_74 rfl ?_
            refine x_istore (L' := [(5, .int 1), (0, .ref (b + 2)), (1, .ref b), (2, .int pos), (3, .int (nI (kN (tAt ch tl pos)))), (4, .int (nI i))]) C dX3_read_78 rfl rfl ?_
            refine x_aload_n C dX3_read_80 1 rfl ?_
            refine x_aload_n C dX3_read_81 2 rfl ?_
            refine x_iload C dX3_read_82 5 rfl ?_
            refine x_iload C dX3_read_84 0 rfl ?_
            refine x_if_eq C 111 dX3_read_86 rfl (fun c => absurd c (by decide)) (fun _ => ?_)
            refine x_aload_n C dX3_read_89 1 rfl ?_
            refine x_get C (xlo (i := 2) hb_b) (xhi (i := 2) hn_b rfl) (ov_at (i := 2) rfl) f_X3_21 rfl dX3_read_90 ?_
            refine x_bipush C 115 dX3_read_93 rfl ?_
            refine x_icmp_eq C 107 dX3_read_95 rfl (fun c95 => ?_) (fun c95 => ?_)
            · refine x_iconst C 1 dX3_read_107 rfl ?_
              refine x_goto C 112 dX3_read_108 rfl ?_
              refine x_cV0 C (c_X3_readNumber E N b _ ch tl nu1 (tAt ch tl pos) en1 wh1 (nI i) 1 hb_b hn_b) v_X3_36 hN (xlo (i := 2) hb_b) (xhi (i := 2) hn_b rfl) (ov_at (i := 2) rfl) rfl rfl rfl rfl rfl dX3_read_112 ?_
              refine x_aload_n C dX3_read_115 1 rfl ?_
              refine x_get C (xlo (i := 2) hb_b) (xhi (i := 2) hn_b rfl) (ov_at (i := 2) rfl) f_X3_32 rfl dX3_read_116 ?_
              refine x_if_eq C 139 dX3_read_119 rfl (fun c119 => ?_) (fun c119 => ?_)
              · refine x_iinc (L' := [(4, .int ((nI i) + 1)), (5, .int 1), (0, .ref (b + 2)), (1, .ref b), (2, .int pos), (3, .int (nI (kN (tAt ch tl pos))))]) C ((nI i) + 1) dX3_read_139 5 rfl rfl rfl rfl ?_
                refine x_goto C 52 dX3_read_142 rfl ?_
                refine x_perm (L' := [(0, .ref (b + 2)), (1, .ref b), (2, .int pos), (3, .int (nI (kN (tAt ch tl pos)))), (4, .int ((nI i) + 1))]) [2, 3, 4, 5, 0] rfl ?_
                refine x_to (L' := [(0, .ref (b + 2)), (1, .ref b), (2, .int pos), (3, .int (nI (kN (tAt ch tl pos)))), (4, .int (nI (i + 1)))]) (G' := ov b (toC E b ch tl (rnNu nu1 ch tl en1 (nI i) 1) (tAt ch tl pos) (rnEn ch tl en1 1) (rnWh ch tl en1 1)) G) (by simp only [nI_succ]) rfl rfl ?_
                exact ih (i + 1) (rnNu nu1 ch tl en1 (nI i) 1) (rnEn ch tl en1 1) (rnWh ch tl en1 1) (by omega) (by rw [← hq]; simp [oRun, oStep, oFlag, oSign, c21, c62, c70, c95, c119])
              · refine x_aload_n C dX3_read_122 1 rfl ?_
                refine x_aload_n C dX3_read_123 2 rfl ?_
                refine x_iload C dX3_read_124 0 rfl ?_
                refine x_if_eq C 134 dX3_read_126 rfl (fun c => absurd c (by decide)) (fun _ => ?_)
                refine x_bipush C 59 dX3_read_129 rfl ?_
                refine x_goto C 136 dX3_read_131 rfl ?_
                refine x_cV0 C (c_X3_readSign E N b _ ch tl (rnNu nu1 ch tl en1 (nI i) 1) (tAt ch tl pos) (rnEn ch tl en1 1) (rnWh ch tl en1 1) 59 hb_b hn_b) v_X3_40 hN (xlo (i := 2) hb_b) (xhi (i := 2) hn_b rfl) (ov_at (i := 2) rfl) rfl rfl rfl rfl rfl dX3_read_136 ?_
                refine x_iinc (L' := [(4, .int ((nI i) + 1)), (5, .int 1), (0, .ref (b + 2)), (1, .ref b), (2, .int pos), (3, .int (nI (kN (tAt ch tl pos))))]) C ((nI i) + 1) dX3_read_139 5 rfl rfl rfl rfl ?_
                refine x_goto C 52 dX3_read_142 rfl ?_
                refine x_perm (L' := [(0, .ref (b + 2)), (1, .ref b), (2, .int pos), (3, .int (nI (kN (tAt ch tl pos)))), (4, .int ((nI i) + 1))]) [2, 3, 4, 5, 0] rfl ?_
                refine x_to (L' := [(0, .ref (b + 2)), (1, .ref b), (2, .int pos), (3, .int (nI (kN (tAt ch tl pos)))), (4, .int (nI (i + 1)))]) (G' := ov b (toC E b ch tl (rnNu nu1 ch tl en1 (nI i) 1) (tAt ch tl pos) (sgE ch tl (rnEn ch tl en1 1) 59) (sgW ch tl (rnEn ch tl en1 1) 59)) G) (by simp only [nI_succ]) rfl rfl ?_
                exact ih (i + 1) (rnNu nu1 ch tl en1 (nI i) 1) (sgE ch tl (rnEn ch tl en1 1) 59) (sgW ch tl (rnEn ch tl en1 1) 59) (by omega) (by rw [← hq]; simp [oRun, oStep, oFlag, oSign, c21, c62, c70, c95, c119])
            · refine x_aload_n C dX3_read_98 1 rfl ?_
              refine x_get C (xlo (i := 2) hb_b) (xhi (i := 2) hn_b rfl) (ov_at (i := 2) rfl) f_X3_21 rfl dX3_read_99 ?_
              refine x_bipush C 116 dX3_read_102 rfl ?_
              refine x_icmp_ne C 111 dX3_read_104 rfl (fun c104 => ?_) (fun c104 => ?_)
              · refine x_iconst C 0 dX3_read_111 rfl ?_
                refine x_cV0 C (c_X3_readNumber E N b _ ch tl nu1 (tAt ch tl pos) en1 wh1 (nI i) 0 hb_b hn_b) v_X3_36 hN (xlo (i := 2) hb_b) (xhi (i := 2) hn_b rfl) (ov_at (i := 2) rfl) rfl rfl rfl rfl rfl dX3_read_112 ?_
                refine x_aload_n C dX3_read_115 1 rfl ?_
                refine x_get C (xlo (i := 2) hb_b) (xhi (i := 2) hn_b rfl) (ov_at (i := 2) rfl) f_X3_32 rfl dX3_read_116 ?_
                refine x_if_eq C 139 dX3_read_119 rfl (fun c119 => ?_) (fun c119 => ?_)
                · refine x_iinc (L' := [(4, .int ((nI i) + 1)), (5, .int 1), (0, .ref (b + 2)), (1, .ref b), (2, .int pos), (3, .int (nI (kN (tAt ch tl pos))))]) C ((nI i) + 1) dX3_read_139 5 rfl rfl rfl rfl ?_
                  refine x_goto C 52 dX3_read_142 rfl ?_
                  refine x_perm (L' := [(0, .ref (b + 2)), (1, .ref b), (2, .int pos), (3, .int (nI (kN (tAt ch tl pos)))), (4, .int ((nI i) + 1))]) [2, 3, 4, 5, 0] rfl ?_
                  refine x_to (L' := [(0, .ref (b + 2)), (1, .ref b), (2, .int pos), (3, .int (nI (kN (tAt ch tl pos)))), (4, .int (nI (i + 1)))]) (G' := ov b (toC E b ch tl (rnNu nu1 ch tl en1 (nI i) 0) (tAt ch tl pos) (rnEn ch tl en1 0) (rnWh ch tl en1 0)) G) (by simp only [nI_succ]) rfl rfl ?_
                  exact ih (i + 1) (rnNu nu1 ch tl en1 (nI i) 0) (rnEn ch tl en1 0) (rnWh ch tl en1 0) (by omega) (by rw [← hq]; simp [oRun, oStep, oFlag, oSign, c21, c62, c70, c95, c104, c119])
                · refine x_aload_n C dX3_read_122 1 rfl ?_
                  refine x_aload_n C dX3_read_123 2 rfl ?_
                  refine x_iload C dX3_read_124 0 rfl ?_
                  refine x_if_eq C 134 dX3_read_126 rfl (fun c => absurd c (by decide)) (fun _ => ?_)
                  refine x_bipush C 59 dX3_read_129 rfl ?_
                  refine x_goto C 136 dX3_read_131 rfl ?_
                  refine x_cV0 C (c_X3_readSign E N b _ ch tl (rnNu nu1 ch tl en1 (nI i) 0) (tAt ch tl pos) (rnEn ch tl en1 0) (rnWh ch tl en1 0) 59 hb_b hn_b) v_X3_40 hN (xlo (i := 2) hb_b) (xhi (i := 2) hn_b rfl) (ov_at (i := 2) rfl) rfl rfl rfl rfl rfl dX3_read_136 ?_
                  refine x_iinc (L' := [(4, .int ((nI i) + 1)), (5, .int 1), (0, .ref (b + 2)), (1, .ref b), (2, .int pos), (3, .int (nI (kN (tAt ch tl pos))))]) C ((nI i) + 1) dX3_read_139 5 rfl rfl rfl rfl ?_
                  refine x_goto C 52 dX3_read_142 rfl ?_
                  refine x_perm (L' := [(0, .ref (b + 2)), (1, .ref b), (2, .int pos), (3, .int (nI (kN (tAt ch tl pos)))), (4, .int ((nI i) + 1))]) [2, 3, 4, 5, 0] rfl ?_
                  refine x_to (L' := [(0, .ref (b + 2)), (1, .ref b), (2, .int pos), (3, .int (nI (kN (tAt ch tl pos)))), (4, .int (nI (i + 1)))]) (G' := ov b (toC E b ch tl (rnNu nu1 ch tl en1 (nI i) 0) (tAt ch tl pos) (sgE ch tl (rnEn ch tl en1 0) 59) (sgW ch tl (rnEn ch tl en1 0) 59)) G) (by simp only [nI_succ]) rfl rfl ?_
                  exact ih (i + 1) (rnNu nu1 ch tl en1 (nI i) 0) (sgE ch tl (rnEn ch tl en1 0) 59) (sgW ch tl (rnEn ch tl en1 0) 59) (by omega) (by rw [← hq]; simp [oRun, oStep, oFlag, oSign, c21, c62, c70, c95, c104, c119])
              · refine x_iconst C 1 dX3_read_107 rfl ?_
                refine x_goto C 112 dX3_read_108 rfl ?_
                refine x_cV0 C (c_X3_readNumber E N b _ ch tl nu1 (tAt ch tl pos) en1 wh1 (nI i) 1 hb_b hn_b) v_X3_36 hN (xlo (i := 2) hb_b) (xhi (i := 2) hn_b rfl) (ov_at (i := 2) rfl) rfl rfl rfl rfl rfl dX3_read_112 ?_
                refine x_aload_n C dX3_read_115 1 rfl ?_
                refine x_get C (xlo (i := 2) hb_b) (xhi (i := 2) hn_b rfl) (ov_at (i := 2) rfl) f_X3_32 rfl dX3_read_116 ?_
                refine x_if_eq C 139 dX3_read_119 rfl (fun c119 => ?_) (fun c119 => ?_)
                · refine x_iinc (L' := [(4, .int ((nI i) + 1)), (5, .int 1), (0, .ref (b + 2)), (1, .ref b), (2, .int pos), (3, .int (nI (kN (tAt ch tl pos))))]) C ((nI i) + 1) dX3_read_139 5 rfl rfl rfl rfl ?_
                  refine x_goto C 52 dX3_read_142 rfl ?_
                  refine x_perm (L' := [(0, .ref (b + 2)), (1, .ref b), (2, .int pos), (3, .int (nI (kN (tAt ch tl pos)))), (4, .int ((nI i) + 1))]) [2, 3, 4, 5, 0] rfl ?_
                  refine x_to (L' := [(0, .ref (b + 2)), (1, .ref b), (2, .int pos), (3, .int (nI (kN (tAt ch tl pos)))), (4, .int (nI (i + 1)))]) (G' := ov b (toC E b ch tl (rnNu nu1 ch tl en1 (nI i) 1) (tAt ch tl pos) (rnEn ch tl en1 1) (rnWh ch tl en1 1)) G) (by simp only [nI_succ]) rfl rfl ?_
                  exact ih (i + 1) (rnNu nu1 ch tl en1 (nI i) 1) (rnEn ch tl en1 1) (rnWh ch tl en1 1) (by omega) (by rw [← hq]; simp [oRun, oStep, oFlag, oSign, c21, c62, c70, c95, c104, c119])
                · refine x_aload_n C dX3_read_122 1 rfl ?_
                  refine x_aload_n C dX3_read_123 2 rfl ?_
                  refine x_iload C dX3_read_124 0 rfl ?_
                  refine x_if_eq C 134 dX3_read_126 rfl (fun c => absurd c (by decide)) (fun _ => ?_)
                  refine x_bipush C 59 dX3_read_129 rfl ?_
                  refine x_goto C 136 dX3_read_131 rfl ?_
                  refine x_cV0 C (c_X3_readSign E N b _ ch tl (rnNu nu1 ch tl en1 (nI i) 1) (tAt ch tl pos) (rnEn ch tl en1 1) (rnWh ch tl en1 1) 59 hb_b hn_b) v_X3_40 hN (xlo (i := 2) hb_b) (xhi (i := 2) hn_b rfl) (ov_at (i := 2) rfl) rfl rfl rfl rfl rfl dX3_read_136 ?_
                  refine x_iinc (L' := [(4, .int ((nI i) + 1)), (5, .int 1), (0, .ref (b + 2)), (1, .ref b), (2, .int pos), (3, .int (nI (kN (tAt ch tl pos))))]) C ((nI i) + 1) dX3_read_139 5 rfl rfl rfl rfl ?_
                  refine x_goto C 52 dX3_read_142 rfl ?_
                  refine x_perm (L' := [(0, .ref (b + 2)), (1, .ref b), (2, .int pos), (3, .int (nI (kN (tAt ch tl pos)))), (4, .int ((nI i) + 1))]) [2, 3, 4, 5, 0] rfl ?_
                  refine x_to (L' := [(0, .ref (b + 2)), (1, .ref b), (2, .int pos), (3, .int (nI (kN (tAt ch tl pos)))), (4, .int (nI (i + 1)))]) (G' := ov b (toC E b ch tl (rnNu nu1 ch tl en1 (nI i) 1) (tAt ch tl pos) (sgE ch tl (rnEn ch tl en1 1) 59) (sgW ch tl (rnEn ch tl en1 1) 59)) G) (by simp only [nI_succ]) rfl rfl ?_
                  exact ih (i + 1) (rnNu nu1 ch tl en1 (nI i) 1) (sgE ch tl (rnEn ch tl en1 1) 59) (sgW ch tl (rnEn ch tl en1 1) 59) (by omega) (by rw [← hq]; simp [oRun, oStep, oFlag, oSign, c21, c62, c70, c95, c104, c119])
    refine x_to (L' := [(0, .ref (b + 2)), (1, .ref b), (2, .int pos), (3, .int (nI (kN (tAt ch tl pos)))), (4, .int (nI 0))]) (G' := ov b (toC E b ch tl nu (tAt ch tl pos) (pos + 1) 1) G) rfl rfl rfl ?_
    exact lp52_2 _ 0 nu (pos + 1) 1 (Nat.add_sub_cancel' (by omega)) (by simp [oFin, c21])

