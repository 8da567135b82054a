/-! ===== the law's method isThere ===== -/
def suD (w : Nat → Int32) (l n : Nat) : Int32 := if n < l then (if 0 ≤ w n then w n else -w n) else 0
def maD (w : Nat → Int32) (l n : Nat) : Int32 := if n < l then (if w n = 0 then 0 else 1) else 0
theorem tap_cut {f : Nat → Int32} {l : Nat} (h : ∀ n, l ≤ n → f n = 0) : ∀ d, tapS f (l + d) = tapS f l
  | 0 => rfl
  | d + 1 => by
    show tapS f (l + d) + f (l + d) = _
    rw [tap_cut h d, h (l + d) (by omega), Int32.add_zero]
theorem su_eq {v : SV} {w : Nat → Int32} {l : Nat} (h : TA v w l) : sumAb (fun j => rAt (vW v) (vFi v) (vLe v) (nI j)) l = tapS (suD w l) 64 := by
  have hl := h.2.1
  have e : ∀ n, n ≤ l → sumAb (fun j => rAt (vW v) (vFi v) (vLe v) (nI j)) n = tapS (suD w l) n := fun n => by
    induction n with
    | zero => exact fun _ => rfl
    | succ n ih =>
      intro hn
      show sumAb (fun j => rAt (vW v) (vFi v) (vLe v) (nI j)) n + iabs (rAt (vW v) (vFi v) (vLe v) (nI n)) = tapS (suD w l) n + suD w l n
      rw [ih (by omega), tq_at h (show n < 64 by omega)]
      congr 1
      unfold suD iabs
      rw [if_pos (show n < l by omega)]
      by_cases c : 0 ≤ w n
      · rw [if_pos c, if_pos c]
      · rw [if_neg c, if_neg c, Int32.zero_sub]
  rw [e l (Nat.le_refl _)]
  have q := tap_cut (f := suD w l) (l := l) (fun n hn => if_neg (by omega)) (64 - l)
  rw [show l + (64 - l) = 64 by omega] at q
  exact q.symm
theorem ma_eq {v : SV} {w : Nat → Int32} {l : Nat} (h : TA v w l) : cntAb (fun j => rAt (vW v) (vFi v) (vLe v) (nI j)) 0 l = tapS (maD w l) 64 := by
  have hl := h.2.1
  have e : ∀ n, n ≤ l → cntAb (fun j => rAt (vW v) (vFi v) (vLe v) (nI j)) 0 n = tapS (maD w l) n := fun n => by
    induction n with
    | zero => exact fun _ => rfl
    | succ n ih =>
      intro hn
      show cntAb (fun j => rAt (vW v) (vFi v) (vLe v) (nI j)) 0 n + (if iabs (rAt (vW v) (vFi v) (vLe v) (nI n)) ≤ 0 then 0 else 1) = tapS (maD w l) n + maD w l n
      have e2 := abs_0 (h.2.2.2.2.2 n (by omega))
      rw [ih (by omega), tq_at h (show n < 64 by omega)]
      congr 1
      unfold maD
      rw [if_pos (show n < l by omega)]
      by_cases c : w n = 0
      · rw [if_pos c, if_pos (e2.mpr c)]
      · rw [if_neg c, if_neg (fun z => c (e2.mp z))]
  rw [e l (Nat.le_refl _)]
  have q := tap_cut (f := maD w l) (l := l) (fun n hn => if_neg (by omega)) (64 - l)
  rw [show l + (64 - l) = 64 by omega] at q
  exact q.symm
theorem k_cnt {E : XE} {u : QV} {w : Nat → Int32} {G0 : GW} {l : Nat} (ha : TA (qNow u) w l) {x rs : Int32} (hr : rCnt u l x = rs) : MF E yX8_count cX8_count 2 (some .int) 4 84 0 0 [.ref (xB E), .int x] (xB E + 57) (LG E u w G0) (some (.int rs)) (LG E u w G0) := k_count x l ha.2.2.1 ha.2.1 hr
theorem cnt_0 {u : QV} {w : Nat → Int32} {l : Nat} (h : TA (qNow u) w l) : rCnt u l 0 = nI l := h.2.2.1
theorem cnt_1 {u : QV} {w : Nat → Int32} {l : Nat} (h : TA (qNow u) w l) : rCnt u l 1 = 64 - nI l := by
  rw [← h.2.2.1]
  rfl
theorem cnt_4 {u : QV} {w : Nat → Int32} {l : Nat} (h : TA (qNow u) w l) : rCnt u l 4 = tapS (suD w l) 64 := (su_eq h).symm ▸ rfl
theorem cnt_5 {u : QV} {w : Nat → Int32} {l : Nat} (h : TA (qNow u) w l) : rCnt u l 5 = tapS (maD w l) 64 := (ma_eq h).symm ▸ rfl
theorem cnt_7 {u : QV} {l : Nat} : rCnt u l 7 = qKe u := rfl
abbrev IX (E : XE) (K : XK) (u : QV) (w : Nat → Int32) (G0 : GW) (pc : Nat) (L : List (Nat × Value)) (st : List Value) : Prop := XW E K 7 (xB E + 57) 0 0 (LG E u w G0) pc L st
abbrev LI (E : XE) (w : Nat → Int32) (l k : Nat) : List (Nat × Value) := [(6, .int (nI k)), (5, .int (tapS (maD w l) k)), (4, .int (tapS (suD w l) k)), (3, .int 1), (2, .int (nI l)), (1, .ref (xB E + 56)), (0, .ref (xB E))]
set_option maxRecDepth 100000 in
set_option maxHeartbeats 4000000 in
theorem it_loop {E : XE} {K : XK} (C : XC E K cL_isThere 7 RL (some .boolean) 5 105 0 0) {u : QV} {w : Nat → Int32} {l : Nat} {G0 : GW} (ha : TA (qNow u) w l) (kend : IX E K u w G0 140 (LI E w l 64) []) : ∀ d k, k + d = 64 → IX E K u w G0 36 (LI E w l k) [] := by
  have hl := ha.2.1
  intro d
  induction d with
  | zero =>
    intro k hkd
    have h64 : k = 64 := by omega
    subst h64
    refine x_iload C dL_isThere_36 0 rfl ?_
    refine x_bipush C 64 dL_isThere_38 rfl ?_
    exact x_icmp_ge C 140 dL_isThere_40 rfl (fun _ => kend) (fun c => absurd (show (64 : Int32) ≤ nI 64 by decide) c)
  | succ d ih =>
    intro k hkd
    have hk : k < 64 := by omega
    refine x_iload C dL_isThere_36 0 rfl ?_
    refine x_bipush C 64 dL_isThere_38 rfl ?_
    refine x_icmp_ge C 140 dL_isThere_40 rfl (fun c => absurd c (nI_ge (b := 64) hk (by omega))) (fun _ => ?_)
    refine x_iload_n C dL_isThere_43 3 rfl ?_
    refine x_if_eq C 140 dL_isThere_44 rfl (fun c => absurd c (by decide)) (fun _ => ?_)
    refine x_aload_n C dL_isThere_47 6 rfl ?_
    refine x_iload C dL_isThere_48 0 rfl ?_
    refine x_cV1 (As := [.int (nI k)]) C (k_wordOf (nI k) (q_wof ha hk)) v_L_14 (Nat.le_add_right _ _) (Nat.le_refl _) (by omega) (ov_at (i := 0) rfl) rfl rfl rfl rfl rfl dL_isThere_50 ?_
    refine x_iload C dL_isThere_53 0 rfl ?_
    refine x_iload_n C dL_isThere_55 4 rfl ?_
    suffices hj1 : IX E K u w G0 68 [(6, .int (nI k)), (5, .int (tapS (maD w l) k)), (4, .int (tapS (suD w l) k)), (3, .int 1), (2, .int (nI l)), (1, .ref (xB E + 56)), (0, .ref (xB E))] [.int (if k < l then w k else -1000004), .int (if k < l then w k else -1000004)] by
      refine x_icmp_ge C 66 dL_isThere_56 rfl (fun c => ?_) (fun c => ?_)
      · refine x_ldc C (-1000004) m_400 dL_isThere_66 ?_
        exact x_v (congrArg Value.int (show (-1000004 : Int32) = _ from (if_neg (fun z => nI_ge z (by omega) c)).symm)) hj1
      · refine x_aload_n C dL_isThere_59 5 rfl ?_
        refine x_iload C dL_isThere_60 0 rfl ?_
        refine x_iald C (w k) (Nat.le_add_right _ _) (by omega) lg_w (vp_in_nI hk (by omega)) (by rw [nI_clamp (by omega)]) dL_isThere_62 ?_
        refine x_goto C 68 dL_isThere_63 rfl ?_
        exact x_v (congrArg Value.int (show w k = _ from (if_pos (Nat.lt_of_not_le (fun z => c (nI_le z (by omega))))).symm)) hj1
    refine x_icmp_ne C 75 dL_isThere_68 rfl (fun c => absurd (rfl) c) (fun _ => ?_)
    refine x_iconst C 1 dL_isThere_71 rfl ?_
    refine x_goto C 76 dL_isThere_72 rfl ?_
    refine x_istore_n (L' := [(3, .int 1), (6, .int (nI k)), (5, .int (tapS (maD w l) k)), (4, .int (tapS (suD w l) k)), (2, .int (nI l)), (1, .ref (xB E + 56)), (0, .ref (xB E))]) C dL_isThere_76 rfl rfl ?_
    refine x_iload C dL_isThere_77 3 rfl ?_
    refine x_iload C dL_isThere_79 1 rfl ?_
    refine x_iload_n C dL_isThere_81 4 rfl ?_
    suffices hj2 : IX E K u w G0 108 [(3, .int 1), (6, .int (nI k)), (5, .int (tapS (maD w l) k)), (4, .int (tapS (suD w l) k)), (2, .int (nI l)), (1, .ref (xB E + 56)), (0, .ref (xB E))] [.int (suD w l k), .int (tapS (suD w l) k)] by
      refine x_icmp_ge C 107 dL_isThere_82 rfl (fun c => ?_) (fun c => ?_)
      · refine x_iconst C 0 dL_isThere_107 rfl ?_
        exact x_v (congrArg Value.int (show (0 : Int32) = _ from (if_neg (fun z => nI_ge z (by omega) c)).symm)) hj2
      · have hkl : k < l := Nat.lt_of_not_le (fun z => c (nI_le z (by omega)))
        refine x_aload_n C dL_isThere_85 5 rfl ?_
        refine x_iload C dL_isThere_86 1 rfl ?_
        refine x_iald C (w k) (Nat.le_add_right _ _) (by omega) lg_w (vp_in_nI hk (by omega)) (by rw [nI_clamp (by omega)]) dL_isThere_88 ?_
        refine x_if_ge C 100 dL_isThere_89 rfl (fun c2 => ?_) (fun c2 => ?_)
        · refine x_aload_n C dL_isThere_100 5 rfl ?_
          refine x_iload C dL_isThere_101 1 rfl ?_
          refine x_iald C (w k) (Nat.le_add_right _ _) (by omega) lg_w (vp_in_nI hk (by omega)) (by rw [nI_clamp (by omega)]) dL_isThere_103 ?_
          refine x_goto C 108 dL_isThere_104 rfl ?_
          exact x_v (congrArg Value.int (show w k = suD w l k from (if_pos c2).symm.trans (if_pos hkl).symm)) hj2
        · refine x_aload_n C dL_isThere_92 5 rfl ?_
          refine x_iload C dL_isThere_93 1 rfl ?_
          refine x_iald C (w k) (Nat.le_add_right _ _) (by omega) lg_w (vp_in_nI hk (by omega)) (by rw [nI_clamp (by omega)]) dL_isThere_95 ?_
          refine x_ineg C dL_isThere_96 ?_
          refine x_goto C 108 dL_isThere_97 rfl ?_
          exact x_v (congrArg Value.int (show -w k = suD w l k from (if_neg c2).symm.trans (if_pos hkl).symm)) hj2
    refine x_iadd C dL_isThere_108 ?_
    refine x_v (w := .int (tapS (suD w l) (k + 1))) (congrArg Value.int (rfl)) ?_
    refine x_istore (L' := [(4, .int (tapS (suD w l) (k + 1))), (3, .int 1), (6, .int (nI k)), (5, .int (tapS (maD w l) k)), (2, .int (nI l)), (1, .ref (xB E + 56)), (0, .ref (xB E))]) C dL_isThere_109 rfl rfl ?_
    refine x_iload C dL_isThere_111 3 rfl ?_
    refine x_iload C dL_isThere_113 2 rfl ?_
    refine x_iload_n C dL_isThere_115 4 rfl ?_
    suffices hj3 : IX E K u w G0 131 [(4, .int (tapS (suD w l) (k + 1))), (3, .int 1), (6, .int (nI k)), (5, .int (tapS (maD w l) k)), (2, .int (nI l)), (1, .ref (xB E + 56)), (0, .ref (xB E))] [.int (maD w l k), .int (tapS (maD w l) k)] by
      refine x_icmp_ge C 130 dL_isThere_116 rfl (fun c => ?_) (fun c => ?_)
      · refine x_iconst C 0 dL_isThere_130 rfl ?_
        exact x_v (congrArg Value.int (show (0 : Int32) = _ from (if_neg (fun z => nI_ge z (by omega) c)).symm)) hj3
      · have hkl : k < l := Nat.lt_of_not_le (fun z => c (nI_le z (by omega)))
        refine x_aload_n C dL_isThere_119 5 rfl ?_
        refine x_iload C dL_isThere_120 2 rfl ?_
        refine x_iald C (w k) (Nat.le_add_right _ _) (by omega) lg_w (vp_in_nI hk (by omega)) (by rw [nI_clamp (by omega)]) dL_isThere_122 ?_
        refine x_if_eq C 130 dL_isThere_123 rfl (fun c2 => ?_) (fun c2 => ?_)
        · refine x_iconst C 0 dL_isThere_130 rfl ?_
          exact x_v (congrArg Value.int (show (0 : Int32) = maD w l k from (if_pos c2).symm.trans (if_pos hkl).symm)) hj3
        · refine x_iconst C 1 dL_isThere_126 rfl ?_
          refine x_goto C 131 dL_isThere_127 rfl ?_
          exact x_v (congrArg Value.int (show (1 : Int32) = maD w l k from (if_neg c2).symm.trans (if_pos hkl).symm)) hj3
    refine x_iadd C dL_isThere_131 ?_
    refine x_v (w := .int (tapS (maD w l) (k + 1))) (congrArg Value.int (rfl)) ?_
    refine x_istore (L' := [(5, .int (tapS (maD w l) (k + 1))), (4, .int (tapS (suD w l) (k + 1))), (3, .int 1), (6, .int (nI k)), (2, .int (nI l)), (1, .ref (xB E + 56)), (0, .ref (xB E))]) C dL_isThere_132 rfl rfl ?_
    refine x_iinc (L' := LI E w l (k + 1)) C (nI (k + 1)) dL_isThere_134 3 rfl (natAdd (b := 1) rfl) rfl rfl ?_
    refine x_goto C 36 dL_isThere_137 rfl ?_
    exact ih (k + 1) (by omega)
set_option maxRecDepth 100000 in
set_option maxHeartbeats 4000000 in
theorem c_isThere {E : XE} {u : QV} {w : Nat → Int32} {l : Nat} {G0 : GW} (ha : TA (qNow u) w l) : MF E yL_isThere cL_isThere 7 (some .boolean) 5 105 0 0 [.ref (xB E), .ref (xB E + 56), .int (nI l)] (xB E + 57) (LG E u w G0) (some (.int 1)) (LG E u w G0) := by
  refine MF.mk RL rfl (by decide +kernel) rfl (fun K C Z hin hN => ?_)
  show IX E K u w G0 0 [(0, .ref (xB E)), (1, .ref (xB E + 56)), (2, .int (nI l))] []
  refine x_aload_n C dL_isThere_0 0 rfl ?_
  refine x_iconst C 0 dL_isThere_1 rfl ?_
  refine x_cV1 (As := [.int 0]) C (k_cnt ha (cnt_0 ha)) v_L_8 (Nat.le_add_right _ _) (Nat.le_refl _) (by omega) (ov_at (i := 0) rfl) rfl rfl rfl rfl rfl dL_isThere_2 ?_
  refine x_iload_n C dL_isThere_5 2 rfl ?_
  refine x_icmp_ne C 25 dL_isThere_6 rfl (fun c => absurd (rfl) c) (fun _ => ?_)
  refine x_aload_n C dL_isThere_9 0 rfl ?_
  refine x_iconst C 1 dL_isThere_10 rfl ?_
  refine x_cV1 (As := [.int 1]) C (k_cnt ha (cnt_1 ha)) v_L_8 (Nat.le_add_right _ _) (Nat.le_refl _) (by omega) (ov_at (i := 0) rfl) rfl rfl rfl rfl rfl dL_isThere_11 ?_
  refine x_bipush C 64 dL_isThere_14 rfl ?_
  refine x_iload_n C dL_isThere_16 2 rfl ?_
  refine x_isub C dL_isThere_17 ?_
  refine x_icmp_ne C 25 dL_isThere_18 rfl (fun c => absurd (rfl) c) (fun _ => ?_)
  refine x_iconst C 1 dL_isThere_21 rfl ?_
  refine x_goto C 26 dL_isThere_22 rfl ?_
  refine x_istore_n (L' := [(3, .int 1), (0, .ref (xB E)), (1, .ref (xB E + 56)), (2, .int (nI l))]) C dL_isThere_26 rfl rfl ?_
  refine x_iconst C 0 dL_isThere_27 rfl ?_
  refine x_istore (L' := [(4, .int 0), (3, .int 1), (0, .ref (xB E)), (1, .ref (xB E + 56)), (2, .int (nI l))]) C dL_isThere_28 rfl rfl ?_
  refine x_iconst C 0 dL_isThere_30 rfl ?_
  refine x_istore (L' := [(5, .int 0), (4, .int 0), (3, .int 1), (0, .ref (xB E)), (1, .ref (xB E + 56)), (2, .int (nI l))]) C dL_isThere_31 rfl rfl ?_
  refine x_iconst C 0 dL_isThere_33 rfl ?_
  refine x_istore (L' := [(6, .int 0), (5, .int 0), (4, .int 0), (3, .int 1), (0, .ref (xB E)), (1, .ref (xB E + 56)), (2, .int (nI l))]) C dL_isThere_34 rfl rfl ?_
  refine x_perm [0, 1, 2, 3, 6, 5, 4] rfl ?_
  refine it_loop C ha ?_ 64 0 rfl
  refine x_iload_n C dL_isThere_140 3 rfl ?_
  refine x_if_eq C 168 dL_isThere_141 rfl (fun c => absurd c (by decide)) (fun _ => ?_)
  refine x_aload_n C dL_isThere_144 6 rfl ?_
  refine x_iconst C 4 dL_isThere_145 rfl ?_
  refine x_cV1 (As := [.int 4]) C (k_cnt ha (cnt_4 ha)) v_L_8 (Nat.le_add_right _ _) (Nat.le_refl _) (by omega) (ov_at (i := 0) rfl) rfl rfl rfl rfl rfl dL_isThere_146 ?_
  refine x_iload C dL_isThere_149 2 rfl ?_
  refine x_icmp_ne C 168 dL_isThere_151 rfl (fun c => absurd (rfl) c) (fun _ => ?_)
  refine x_aload_n C dL_isThere_154 6 rfl ?_
  refine x_iconst C 5 dL_isThere_155 rfl ?_
  refine x_cV1 (As := [.int 5]) C (k_cnt ha (cnt_5 ha)) v_L_8 (Nat.le_add_right _ _) (Nat.le_refl _) (by omega) (ov_at (i := 0) rfl) rfl rfl rfl rfl rfl dL_isThere_156 ?_
  refine x_iload C dL_isThere_159 1 rfl ?_
  refine x_icmp_ne C 168 dL_isThere_161 rfl (fun c => absurd (rfl) c) (fun _ => ?_)
  refine x_iconst C 1 dL_isThere_164 rfl ?_
  refine x_goto C 169 dL_isThere_165 rfl ?_
  exact x_iret C Z rfl rfl rfl rfl dL_isThere_169
