/-! ===== the law: its loop, its end ===== -/
set_option maxRecDepth 100000 in
set_option maxHeartbeats 4000000 in
theorem l_turn {E : XE} {K : XK} (C : XC E K cL_law 19 RL ret 8 262 600000 7302250) {b Ln : Nat} {xs : Nat → Int32} (hJ : LJ E K b Ln xs) {P : TP} {G0 : GW} (hP : POK P) {u : QV} {w : Nat → Int32} {l sa dn k : Nat} (h : TQ P 3 u w l sa dn) (hs : sa ≤ k) (hd : dn ≤ 5 + k) (hk : k < 26) (kk : ∀ u w l sa2 dn2, TQ P 3 u w l sa2 dn2 → dn ≤ dn2 ∧ dn2 ≤ dn + 1 → sa2 ≤ sa + 1 → LX E K u w G0 166 (LM E b P l sa2 dn2 (k + 1)) []) : LX E K u w G0 166 (LM E b P l sa dn k) [] := by
  refine x_iload C dL_law_166 0 rfl ?_
  refine x_bipush C 26 dL_law_168 rfl ?_
  refine x_icmp_ge C 790 dL_law_170 rfl (fun c => absurd c (nI_ge (b := 26) hk (by omega))) (fun _ => ?_)
  refine x_iload C dL_law_173 3 rfl ?_
  refine x_if_eq C 790 dL_law_175 rfl (fun c => absurd c (by decide)) (fun _ => ?_)
  refine x_aload_n C dL_law_178 10 rfl ?_
  refine x_bipush C 6 dL_law_179 rfl ?_
  refine x_iload C dL_law_181 0 rfl ?_
  refine x_iadd C dL_law_183 ?_
  refine x_v (w := .int (nI (6 + k))) (congrArg Value.int (natAdd (a := 6) rfl)) ?_
  refine x_cSX1 (As := [.ref b, .int (nI (6 + k))]) C hJ (c_cell E _ _ xs hJ.2.2.1 hJ.2.2.2 (6 + k) (by omega)) v_L_19 (Nat.le_add_right _ _) rfl rfl rfl rfl dL_law_184 ?_
  have hy := cV_lt xs Ln (6 + k)
  generalize cV xs Ln (6 + k) = y at hy ⊢
  refine x_istore (L' := [(11, .int (nI y)), (10, .int (nI k)), (9, .int (nI sa)), (8, .int (nI dn)), (7, .int 1), (6, .int (nI (pF P))), (5, .int (pB P)), (4, .int (pL P)), (3, .int (nI l)), (2, .ref (xB E + 56)), (1, .ref (xB E)), (0, .ref b)]) C dL_law_187 rfl rfl ?_
  refine x_iload C dL_law_189 0 rfl ?_
  refine x_bipush C 8 dL_law_191 rfl ?_
  refine x_idiv C dL_law_193 (by decide) ?_
  refine x_v (w := .int (nI (y / 8))) (congrArg Value.int (n_dv (n := 8) rfl (by decide) hy)) ?_
  refine x_istore (L' := [(12, .int (nI (y / 8))), (11, .int (nI y)), (10, .int (nI k)), (9, .int (nI sa)), (8, .int (nI dn)), (7, .int 1), (6, .int (nI (pF P))), (5, .int (pB P)), (4, .int (pL P)), (3, .int (nI l)), (2, .ref (xB E + 56)), (1, .ref (xB E)), (0, .ref b)]) C dL_law_194 rfl rfl ?_
  refine x_iload C dL_law_196 1 rfl ?_
  refine x_bipush C 8 dL_law_198 rfl ?_
  refine x_irem C dL_law_200 (by decide) ?_
  refine x_v (w := .int (nI (y % 8))) (congrArg Value.int (n_rm (n := 8) rfl (by omega) (by decide) hy)) ?_
  have hz : y / 8 < 2 ^ 31 := by omega
  have kq : ∀ (w1 : QV) (w2 : Nat → Int32) (l2 sa2 dn2 : Nat), TQ P 3 w1 w2 l2 sa2 dn2 → dn ≤ dn2 ∧ dn2 ≤ dn + 1 → sa2 ≤ sa + 1 → LX E K w1 w2 G0 732 (LM E b P l2 sa2 dn2 k) [] := fun u w l sa2 dn2 h2 q1 q2 => l_tail C h2 (by omega) (by omega) (kk u w l sa2 dn2 h2 q1 q2)
  by_cases y0 : y % 8 = 0
  · rw [y0]
    refine x_if_ne C 331 dL_law_201 rfl (fun c => absurd rfl c) (fun _ => ?_)
    refine x_perm [0, 2, 3, 4, 5, 6, 7, 8, 9, 10, 11, 12] rfl ?_
    have kq2 : ∀ u w l dn2, TQ P 3 u w l sa dn2 → dn ≤ dn2 ∧ dn2 ≤ dn + 1 → LX E K u w G0 732 (LM E b P l sa dn2 k) [] := fun u w l dn2 h2 q1 => kq u w l sa dn2 h2 q1 (by omega)
    by_cases hc : 64 - l + (1 + y / 8 % 20) ≤ 48
    · exact l_ste2 C h (by omega) hz rfl kq2 hc
    · exact l_ste1 C h (by omega) hz rfl kq2 (by omega)
  · refine x_if_ne C 331 dL_law_201 rfl (fun _ => ?_) (fun c => absurd c (nI_ne0 (by omega) (by omega)))
    refine x_iload C dL_law_331 1 rfl ?_
    refine x_bipush C 8 dL_law_333 rfl ?_
    refine x_irem C dL_law_335 (by decide) ?_
    refine x_v (w := .int (nI (y % 8))) (congrArg Value.int (n_rm (n := 8) rfl (by omega) (by decide) hy)) ?_
    refine x_iconst C 1 dL_law_336 rfl ?_
    by_cases y1 : y % 8 = 1
    · rw [y1]
      refine x_icmp_ne C 437 dL_law_337 rfl (fun c => absurd rfl c) (fun _ => ?_)
      refine x_perm [0, 2, 3, 4, 5, 6, 7, 8, 9, 10, 11, 12] rfl ?_
      have kq2 : ∀ u w l dn2, TQ P 3 u w l sa dn2 → dn ≤ dn2 ∧ dn2 ≤ dn + 1 → LX E K u w G0 732 (LM E b P l sa dn2 k) [] := fun u w l dn2 h2 q1 => kq u w l sa dn2 h2 q1 (by omega)
      by_cases hc : 1 + y / 8 % 20 ≤ 64 - l
      · exact l_giv2 C h (by omega) hz rfl kq2 hc
      · exact l_giv1 C h (by omega) hz rfl kq2 (by omega)
    · refine x_icmp_ne C 437 dL_law_337 rfl (fun _ => ?_) (fun c => absurd ((nI_eqI (b := 1) (by omega) (by omega)).mp c) y1)
      refine x_perm [0, 2, 3, 4, 5, 6, 7, 8, 9, 10, 11, 12] rfl ?_
      exact l_sam C hP h (by omega) kq hz
set_option maxRecDepth 100000 in
set_option maxHeartbeats 4000000 in
theorem l_loop {E : XE} {K : XK} (C : XC E K cL_law 19 RL ret 8 262 600000 7302250) {b Ln : Nat} {xs : Nat → Int32} (hJ : LJ E K b Ln xs) {P : TP} {G0 : GW} (hP : POK P) (kend : ∀ u w l sa dn, TQ P 3 u w l sa dn → 5 ≤ dn → sa ≤ 26 → LX E K u w G0 790 (LM E b P l sa dn 26) []) : ∀ d k, k + d = 26 → ∀ u w l sa dn, TQ P 3 u w l sa dn → 5 ≤ dn → dn ≤ 5 + k → sa ≤ k → LX E K u w G0 166 (LM E b P l sa dn k) [] := by
  intro d
  induction d with
  | zero =>
    intro k hk u w l sa dn h h1 h2 h3
    have e : k = 26 := by omega
    subst e
    refine x_iload C dL_law_166 0 rfl ?_
    refine x_bipush C 26 dL_law_168 rfl ?_
    exact x_icmp_ge C 790 dL_law_170 rfl (fun _ => kend u w l sa dn h h1 h3) (fun c => absurd (show (26 : Int32) ≤ nI 26 by decide) c)
  | succ d ih =>
    intro k hk u w l sa dn h h1 h2 h3
    exact l_turn C hJ hP h h3 h2 (by omega) (fun u2 w2 l2 sa2 dn2 h4 h5 h6 => ih (k + 1) (by omega) u2 w2 l2 sa2 dn2 h4 (by omega) (by omega) (by omega))
set_option maxRecDepth 100000 in
set_option maxHeartbeats 4000000 in
theorem l_end {E : XE} {K : XK} (C : XC E K cL_law 19 RL ret 8 262 600000 7302250) {b : Nat} {P : TP} {G0 : GW} (hP : POK P) {u : QV} {w : Nat → Int32} {l sa dn : Nat} (h : TQ P 3 u w l sa dn) (hd : 5 ≤ dn) (hs : sa ≤ 26) (kend : ∀ (G : GW) (L : List (Nat × Value)), XW E K 19 (xB E + 57) 57 780 G 950 L [.int 1]) : LX E K u w G0 790 (LM E b P l sa dn 26) [] := by
  have t0 := (q_tof (t := 0) hP h (by omega)).1
  obtain ⟨u2, u3, r7, e1, e2, e3, e4, e5, e6, e7, e8, e9, e10, e11, e12⟩ := e_all hP h hd (by omega)
  refine x_aload_n C dL_law_790 8 rfl ?_
  refine x_iconst C (nI 0) dL_law_791 rfl ?_
  refine x_iald C (w 0) (Nat.le_add_right _ _) (by omega) lg_w (vp_in_nI (show 0 < 64 by omega) (by omega)) (by rw [nI_clamp (by omega)]) dL_law_792 ?_
  refine x_istore (L' := [(10, .int (w 0)), (9, .int (nI sa)), (8, .int (nI dn)), (7, .int 1), (6, .int (nI (pF P))), (5, .int (pB P)), (4, .int (pL P)), (3, .int (nI l)), (2, .ref (xB E + 56)), (1, .ref (xB E)), (0, .ref b)]) C dL_law_793 rfl rfl ?_
  refine x_iload C dL_law_795 3 rfl ?_
  refine x_if_eq C 809 dL_law_797 rfl (fun c => absurd c (by decide)) (fun _ => ?_)
  refine x_aload_n C dL_law_800 9 rfl ?_
  refine x_iconst C 0 dL_law_801 rfl ?_
  refine x_iconst C 0 dL_law_802 rfl ?_
  refine x_cV1 (As := [.int 0, .int 0]) C (k_tapOf 0 0 t0) v_L_49 (Nat.le_add_right _ _) (Nat.le_refl _) (by omega) (ov_at (i := 0) rfl) rfl rfl rfl rfl rfl dL_law_803 ?_
  refine x_goto C 810 dL_law_806 rfl ?_
  refine x_istore (L' := [(11, .int (nI (pD P 0))), (10, .int (w 0)), (9, .int (nI sa)), (8, .int (nI dn)), (7, .int 1), (6, .int (nI (pF P))), (5, .int (pB P)), (4, .int (pL P)), (3, .int (nI l)), (2, .ref (xB E + 56)), (1, .ref (xB E)), (0, .ref b)]) C dL_law_810 rfl rfl ?_
  refine x_iload C dL_law_812 4 rfl ?_
  refine x_if_eq C 884 dL_law_814 rfl (fun c => absurd c (by decide)) (fun _ => ?_)
  refine x_aload_n C dL_law_817 10 rfl ?_
  refine x_bipush C 7 dL_law_818 rfl ?_
  refine x_cV1 (As := [.int 7]) C (k_sample 7 e1 rfl) v_L_52 (Nat.le_add_right _ _) (Nat.le_refl _) (by omega) (ov_at (i := 0) rfl) rfl rfl rfl rfl rfl dL_law_820 ?_
  refine x_ldc C (-1000001) m_404 dL_law_823 ?_
  refine x_icmp_le C 884 dL_law_825 rfl (fun c => absurd c e2) (fun _ => ?_)
  refine x_aload_n C dL_law_828 10 rfl ?_
  refine x_cV1 (As := []) C (k_undo e3 e4 e5) v_L_66 (Nat.le_add_right _ _) (Nat.le_refl _) (by omega) (ov_at (i := 0) rfl) rfl rfl rfl rfl rfl dL_law_829 ?_
  refine x_iconst C 3 dL_law_832 rfl ?_
  refine x_icmp_ne C 884 dL_law_833 rfl (fun c => absurd (rfl) c) (fun _ => ?_)
  refine x_aload_n C dL_law_836 10 rfl ?_
  refine x_iconst C (nI 0) dL_law_837 rfl ?_
  refine x_cV1 (As := [.int (nI 0)]) C (k_wordOf (nI 0) e6) v_L_14 (Nat.le_add_right _ _) (Nat.le_refl _) (by omega) (ov_at (i := 0) rfl) rfl rfl rfl rfl rfl dL_law_838 ?_
  refine x_iload C dL_law_841 1 rfl ?_
  refine x_icmp_ne C 884 dL_law_843 rfl (fun c => absurd (rfl) c) (fun _ => ?_)
  refine x_aload_n C dL_law_846 10 rfl ?_
  refine x_sipush C 20001 dL_law_847 rfl ?_
  refine x_cV1 (As := [.int 20001]) C (k_sample 20001 (ref_1 u2).1 (ref_1 u2).2) v_L_52 (Nat.le_add_right _ _) (Nat.le_refl _) (by omega) (ov_at (i := 0) rfl) rfl rfl rfl rfl rfl dL_law_850 ?_
  refine x_ldc C (-1000001) m_404 dL_law_853 ?_
  refine x_icmp_ne C 884 dL_law_855 rfl (fun c => absurd (rfl) c) (fun _ => ?_)
  refine x_aload_n C dL_law_858 10 rfl ?_
  refine x_iconst C 0 dL_law_859 rfl ?_
  refine x_cV1 (As := [.int 0]) C (k_steal 0 (ref_2 u2).1 (ref_2 u2).2) v_L_40 (Nat.le_add_right _ _) (Nat.le_refl _) (by omega) (ov_at (i := 0) rfl) rfl rfl rfl rfl rfl dL_law_860 ?_
  refine x_ldc C (-1000001) m_404 dL_law_863 ?_
  refine x_icmp_ne C 884 dL_law_865 rfl (fun c => absurd (rfl) c) (fun _ => ?_)
  refine x_aload_n C dL_law_868 10 rfl ?_
  refine x_iconst C 4 dL_law_869 rfl ?_
  refine x_iconst C 1 dL_law_870 rfl ?_
  refine x_iconst C 1 dL_law_871 rfl ?_
  refine x_cV1 (As := [.int 4, .int 1, .int 1]) C (k_tap 4 1 1 (ref_3 u2).1 (ref_3 u2).2) v_L_36 (Nat.le_add_right _ _) (Nat.le_refl _) (by omega) (ov_at (i := 0) rfl) rfl rfl rfl rfl rfl dL_law_872 ?_
  refine x_ldc C (-1000001) m_404 dL_law_875 ?_
  refine x_icmp_ne C 884 dL_law_877 rfl (fun c => absurd (rfl) c) (fun _ => ?_)
  refine x_iconst C 1 dL_law_880 rfl ?_
  refine x_goto C 885 dL_law_881 rfl ?_
  refine x_istore (L' := [(7, .int 1), (11, .int (nI (pD P 0))), (10, .int (w 0)), (9, .int (nI sa)), (8, .int (nI dn)), (6, .int (nI (pF P))), (5, .int (pB P)), (4, .int (pL P)), (3, .int (nI l)), (2, .ref (xB E + 56)), (1, .ref (xB E)), (0, .ref b)]) C dL_law_885 rfl rfl ?_
  refine x_iload C dL_law_887 0 rfl ?_
  refine x_if_eq C 949 dL_law_889 rfl (fun c => absurd c (by decide)) (fun _ => ?_)
  refine x_aload_n C dL_law_892 10 rfl ?_
  refine x_iconst C 3 dL_law_893 rfl ?_
  refine x_cV1 (As := [.int 3]) C (k_off 3 e7 e8) v_L_69 (Nat.le_add_right _ _) (Nat.le_refl _) (by omega) (ov_at (i := 0) rfl) rfl rfl rfl rfl rfl dL_law_894 ?_
  refine x_ldc C (-1000002) m_402 dL_law_897 ?_
  refine x_icmp_ne C 949 dL_law_899 rfl (fun c => absurd (rfl) c) (fun _ => ?_)
  refine x_aload_n C dL_law_902 10 rfl ?_
  refine x_iconst C 0 dL_law_903 rfl ?_
  refine x_cV1 (As := [.int 0]) C (k_off 0 e9 e10) v_L_69 (Nat.le_add_right _ _) (Nat.le_refl _) (by omega) (ov_at (i := 0) rfl) rfl rfl rfl rfl rfl dL_law_904 ?_
  refine x_iload C dL_law_907 1 rfl ?_
  refine x_icmp_ne C 949 dL_law_909 rfl (fun c => absurd (rfl) c) (fun _ => ?_)
  refine x_aload_n C dL_law_912 10 rfl ?_
  refine x_iconst C 0 dL_law_913 rfl ?_
  refine x_iconst C 0 dL_law_914 rfl ?_
  refine x_cV1 (As := [.int 0, .int 0]) C (k_tapOf 0 0 e11) v_L_49 (Nat.le_add_right _ _) (Nat.le_refl _) (by omega) (ov_at (i := 0) rfl) rfl rfl rfl rfl rfl dL_law_915 ?_
  refine x_ldc C (-1000004) m_400 dL_law_918 ?_
  refine x_icmp_ne C 949 dL_law_920 rfl (fun c => absurd (rfl) c) (fun _ => ?_)
  refine x_aload_n C dL_law_923 10 rfl ?_
  refine x_iconst C 3 dL_law_924 rfl ?_
  refine x_iconst C 1 dL_law_925 rfl ?_
  refine x_cV1 (As := [.int 3, .int 1]) C (k_tapOf 3 1 e12) v_L_49 (Nat.le_add_right _ _) (Nat.le_refl _) (by omega) (ov_at (i := 0) rfl) rfl rfl rfl rfl rfl dL_law_926 ?_
  refine x_ldc C (-1000004) m_400 dL_law_929 ?_
  refine x_icmp_ne C 949 dL_law_931 rfl (fun c => absurd (rfl) c) (fun _ => ?_)
  refine x_aload_n C dL_law_934 10 rfl ?_
  refine x_iconst C 5 dL_law_935 rfl ?_
  refine x_iconst C 0 dL_law_936 rfl ?_
  refine x_cV1 (As := [.int 5, .int 0]) C (k_tapOf 5 0 (tof_5 u3)) v_L_49 (Nat.le_add_right _ _) (Nat.le_refl _) (by omega) (ov_at (i := 0) rfl) rfl rfl rfl rfl rfl dL_law_937 ?_
  refine x_ldc C (-1000001) m_404 dL_law_940 ?_
  refine x_icmp_ne C 949 dL_law_942 rfl (fun c => absurd (rfl) c) (fun _ => ?_)
  refine x_iconst C 1 dL_law_945 rfl ?_
  refine x_goto C 950 dL_law_946 rfl ?_
  exact kend _ _
