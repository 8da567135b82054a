/-! ===== the law: its start; the claim ===== -/
theorem arr_int {s : State} {args : Array Value} (h : (Cond.arrayClass .int).before args s = true) : ∃ cA, ArrOfT s cA .int ∧ va_RA s cA .int := by
  obtain ⟨cA, kA, comp, h1, h2, h3⟩ := Cond.arrayClass_spec h
  exact ⟨cA, fun n z => ⟨fun k q => (by cases q), kA, h2, comp, h3⟩, h1⟩
theorem arr_obj {s : State} {args : Array Value} {nm : String} (h : (Cond.arrayOver (.object nm)).before args s = true) : ∃ cA, ArrOfT s cA (.object nm) ∧ va_RA s cA (.object nm) := by
  obtain ⟨comp, cA, kA, h1, h2, h3, h4, h5⟩ := Cond.arrayOver_spec h
  exact ⟨cA, fun n z => ⟨fun k q => (by cases q), kA, h3, comp, h4⟩, kA, comp, h3, h4, h1, h5⟩
theorem gup_1 (G : GW) (a : Nat) (e : va_E) : gup G a e = ov a [e] G := by
  funext q
  unfold gup ov
  by_cases h : q = a
  · subst h
    rw [if_pos rfl, if_pos (Nat.le_refl _), Nat.sub_self]
    rfl
  · rw [if_neg h]
    by_cases h2 : a ≤ q
    · rw [if_pos h2, List.getElem?_eq_none (show [e].length ≤ q - a from (by show 1 ≤ q - a; omega))]
    · rw [if_neg h2]
theorem wl_nil (E : XE) (G : GW) : wl E (xB E) G = [] := by
  unfold wl
  rw [Nat.sub_self]
  rfl
set_option maxRecDepth 100000 in
set_option maxHeartbeats 4000000 in
theorem world_0 {s : State} {b : Nat} (hts0 : ∀ w ∈ lw_tbl, w.before #[Value.ref b] s = true) : ∃ E : XE, xB E = s.heap.size ∧ va_K E.1 vwCl (xtys E) s := by
  have hts : ∀ w ∈ LW, w.before #[Value.ref b] s = true := fun w h => hts0 w (LW_tbl w h)
  obtain ⟨c0, i0, k0⟩ := u_known (C := RX0) (T := TX0) (N := 4) (n := 4) hts in_X0 (hts _ m_128)
  obtain ⟨c1, i1, k1⟩ := u_known (C := RX1) (T := TX1) (N := 3) (n := 3) hts in_X1 (hts _ m_94)
  obtain ⟨c2, i2, k2⟩ := u_known (C := RX2) (T := TX2) (N := 5) (n := 5) hts in_X2 (hts _ m_53)
  obtain ⟨c3, i3, k3⟩ := u_known (C := RX3) (T := TX3) (N := 4) (n := 4) hts in_X3 (hts _ m_118)
  obtain ⟨c4, i4, k4⟩ := u_known (C := RX4) (T := TX4) (N := 3) (n := 3) hts in_X4 (hts _ m_41)
  obtain ⟨c5, i5, k5⟩ := u_known (C := RX5) (T := TX5) (N := 3) (n := 3) hts in_X5 (hts _ m_27)
  obtain ⟨c6, i6, k6⟩ := u_known (C := RX6) (T := TX6) (N := 8) (n := 8) hts in_X6 (hts _ m_21)
  obtain ⟨c7, i7, k7⟩ := u_known (C := RX7) (T := TX7) (N := 2) (n := 2) hts in_X7 (hts _ m_109)
  obtain ⟨c8, i8, k8⟩ := u_known (C := RX8) (T := TX8) (N := 6) (n := 6) hts in_X8 (hts _ m_13)
  obtain ⟨cI, aI⟩ := arr_int (hts _ x_arr_int)
  obtain ⟨cQ, aQ⟩ := arr_obj (hts0 _ nwt_ao)
  refine ⟨((fun k => if k = 0 then c0 else if k = 1 then c1 else if k = 2 then c2 else if k = 3 then c3 else if k = 4 then c4 else if k = 5 then c5 else if k = 6 then c6 else if k = 7 then c7 else c8, fun k => if k = 0 then i0 else if k = 1 then i1 else if k = 2 then i2 else if k = 3 then i3 else if k = 4 then i4 else if k = 5 then i5 else if k = 6 then i6 else if k = 7 then i7 else i8), (cI, cI, cI, cQ), s.heap.size), rfl, ?_, ?_⟩
  · intro k q hq
    match k, hq with
    | 0, hq => cases hq; exact k0
    | 1, hq => cases hq; exact k1
    | 2, hq => cases hq; exact k2
    | 3, hq => cases hq; exact k3
    | 4, hq => cases hq; exact k4
    | 5, hq => cases hq; exact k5
    | 6, hq => cases hq; exact k6
    | 7, hq => cases hq; exact k7
    | 8, hq => cases hq; exact k8
    | k + 9, hq => simp [vwCl] at hq
  · intro k q hq
    match k, hq with
    | 0, hq => cases hq; exact aI
    | 1, hq => cases hq; exact aI
    | 2, hq => cases hq; exact aI
    | 3, hq => cases hq; exact aQ
    | k + 4, hq => simp [xtys] at hq
set_option maxRecDepth 100000 in
set_option maxHeartbeats 4000000 in
theorem l_set {E : XE} {K : XK} (C : XC E K cL_law 19 RL ret 8 262 600000 7302250) {b Ln : Nat} {xs : Nat → Int32} (hJ : LJ E K b Ln xs) {G0 : GW} {w : Nat → Int32} (kend : ∀ u, TQ (PX xs Ln) 3 u w 64 0 5 → LX E K u w G0 157 [(8, .int (nI 3)), (7, .int 1), (6, .int (nI (pF (PX xs Ln)))), (5, .int (pB (PX xs Ln))), (4, .int (pL (PX xs Ln))), (3, .int (nI 64)), (2, .ref (xB E + 56)), (1, .ref (xB E)), (0, .ref b)] []) : ∀ d t, t + d = 3 → ∀ u, TQ (PX xs Ln) t u w 64 0 (t + 2) → LX E K u w G0 94 [(8, .int (nI t)), (7, .int 1), (6, .int (nI (pF (PX xs Ln)))), (5, .int (pB (PX xs Ln))), (4, .int (pL (PX xs Ln))), (3, .int (nI 64)), (2, .ref (xB E + 56)), (1, .ref (xB E)), (0, .ref b)] [] := by
  intro d
  induction d with
  | zero =>
    intro t ht u h
    have h3 : t = 3 := by omega
    subst h3
    refine x_iload C dL_law_94 0 rfl ?_
    refine x_iconst C 3 dL_law_96 rfl ?_
    exact x_icmp_ge C 157 dL_law_97 rfl (fun _ => kend u h) (fun c => absurd (show (3 : Int32) ≤ nI 3 by decide) c)
  | succ d ih =>
    intro t ht u h
    have ht3 : t < 3 := by omega
    obtain ⟨q1, q2⟩ := q_tap (px_ok xs Ln) ht3 h
    refine x_iload C dL_law_94 0 rfl ?_
    refine x_iconst C 3 dL_law_96 rfl ?_
    refine x_icmp_ge C 157 dL_law_97 rfl (fun c => absurd c (nI_ge (b := 3) ht3 (by omega))) (fun _ => ?_)
    refine x_iload C dL_law_100 1 rfl ?_
    refine x_if_eq C 157 dL_law_102 rfl (fun c => absurd c (by decide)) (fun _ => ?_)
    refine x_aload_n C dL_law_105 8 rfl ?_
    refine x_iconst C 3 dL_law_106 rfl ?_
    refine x_iload C dL_law_107 0 rfl ?_
    refine x_iadd C dL_law_109 ?_
    refine x_v (w := .int (nI (3 + t))) (congrArg Value.int (natAdd (a := 3) rfl)) ?_
    refine x_cSX1 (As := [.ref b, .int (nI (3 + t))]) C hJ (c_cell E _ _ xs hJ.2.2.1 hJ.2.2.2 (3 + t) (by omega)) v_L_19 (Nat.le_add_right _ _) rfl rfl rfl rfl dL_law_110 ?_
    have hy := cV_lt xs Ln (3 + t)
    refine x_istore (L' := [(9, .int (nI (cV xs Ln (3 + t)))), (8, .int (nI t)), (7, .int 1), (6, .int (nI (pF (PX xs Ln)))), (5, .int (pB (PX xs Ln))), (4, .int (pL (PX xs Ln))), (3, .int (nI 64)), (2, .ref (xB E + 56)), (1, .ref (xB E)), (0, .ref b)]) C dL_law_113 rfl rfl ?_
    refine x_aload_n C dL_law_115 8 rfl ?_
    refine x_iload C dL_law_116 1 rfl ?_
    refine x_iconst C 1 dL_law_118 rfl ?_
    refine x_iload C dL_law_119 0 rfl ?_
    refine x_bipush C 64 dL_law_121 rfl ?_
    refine x_irem C dL_law_123 (by decide) ?_
    refine x_v (w := .int (nI (cV xs Ln (3 + t) % 64))) (congrArg Value.int (n_rm (n := 64) rfl (by omega) (by decide) hy)) ?_
    refine x_iadd C dL_law_124 ?_
    refine x_v (w := .int (nI (pD (PX xs Ln) t))) (congrArg Value.int (natAdd (a := 1) rfl)) ?_
    refine x_iload C dL_law_125 0 rfl ?_
    refine x_bipush C 64 dL_law_127 rfl ?_
    refine x_idiv C dL_law_129 (by decide) ?_
    refine x_v (w := .int (nI (cV xs Ln (3 + t) / 64))) (congrArg Value.int (n_dv (n := 64) rfl (by decide) hy)) ?_
    refine x_sipush C 1801 dL_law_130 rfl ?_
    refine x_irem C dL_law_133 (by decide) ?_
    refine x_v (w := .int (nI (cV xs Ln (3 + t) / 64 % 1801))) (congrArg Value.int (n_rm (n := 1801) rfl (by omega) (by decide) (by omega))) ?_
    refine x_sipush C 900 dL_law_134 rfl ?_
    refine x_isub C dL_law_137 ?_
    refine x_v (w := .int (pG (PX xs Ln) t)) (congrArg Value.int (rfl)) ?_
    refine x_cV1 (As := [.int (nI t), .int (nI (pD (PX xs Ln) t)), .int (pG (PX xs Ln) t)]) C (k_tap (nI t) (nI (pD (PX xs Ln) t)) (pG (PX xs Ln) t) q1 rfl) v_L_36 (Nat.le_add_right _ _) (Nat.le_refl _) (by omega) (ov_at (i := 0) rfl) rfl rfl rfl rfl rfl dL_law_138 ?_
    refine x_if_ne C 148 dL_law_141 rfl (fun c => absurd (rfl) c) (fun _ => ?_)
    refine x_iconst C 1 dL_law_144 rfl ?_
    refine x_goto C 149 dL_law_145 rfl ?_
    refine x_istore (L' := [(7, .int 1), (9, .int (nI (cV xs Ln (3 + t)))), (8, .int (nI t)), (6, .int (nI (pF (PX xs Ln)))), (5, .int (pB (PX xs Ln))), (4, .int (pL (PX xs Ln))), (3, .int (nI 64)), (2, .ref (xB E + 56)), (1, .ref (xB E)), (0, .ref b)]) C dL_law_149 rfl rfl ?_
    refine x_iinc (L' := [(8, .int (nI (t + 1))), (7, .int 1), (9, .int (nI (cV xs Ln (3 + t)))), (6, .int (nI (pF (PX xs Ln)))), (5, .int (pB (PX xs Ln))), (4, .int (pL (PX xs Ln))), (3, .int (nI 64)), (2, .ref (xB E + 56)), (1, .ref (xB E)), (0, .ref b)]) C (nI (t + 1)) dL_law_151 2 rfl (natAdd (b := 1) rfl) rfl rfl ?_
    refine x_perm [0, 1, 3, 4, 5, 6, 7, 8, 9] rfl ?_
    refine x_goto C 94 dL_law_154 rfl ?_
    exact ih (t + 1) (by omega) _ q2
set_option maxRecDepth 100000 in
set_option maxHeartbeats 4000000 in
theorem law_walk0 {E : XE} {K : XK} (C : XC E K cL_law 19 RL ret 8 262 600000 7302250) {b Ln : Nat} {xs : Nat → Int32} (hJ : LJ E K b Ln xs) (G0 : GW) (kend : ∀ (G : GW) (L : List (Nat × Value)), XW E K 19 (xB E + 57) 57 780 G 950 L [.int 1]) : XW E K 19 (xB E) 0 0 G0 0 [(0, .ref b)] [] := by
  have hP := px_ok xs Ln
  refine x_new (ci := 8) (G' := ov (xB E) [.inr (8, [.null, .null, .null, .null, .null, .null])] G0) C [.null, .null, .null, .null, .null, .null] rfl in_X8 xt_X8 m_12 m_13 m_1 (by intro j hj; have h9 : j = 0 ∨ j = 1 ∨ j = 2 ∨ j = 3 ∨ j = 4 ∨ j = 5 := (by omega); rcases h9 with rfl | rfl | rfl | rfl | rfl | rfl <;> rfl) rfl rfl (gup_1 _ _ _) dL_law_0 ?_
  refine x_dup C dL_law_3 rfl ?_
  refine x_callI (b := xB E) (As := []) C (c_X8_init E (xB E) G0 (Nat.le_refl _)) v_L_18 (Nat.le_add_right _ _) rfl rfl rfl rfl dL_law_4 ?_
  show XW E K 19 (xB E + 56) 56 716 (ov (xB E) (qT E (xB E) u00) G0) 7 [(0, .ref b)] [.ref (xB E)]
  refine x_astore_n (L' := [(1, .ref (xB E)), (0, .ref b)]) C dL_law_7 rfl rfl ?_
  refine x_bipush C 64 dL_law_8 rfl ?_
  refine x_newi (G' := LG E u00 zF G0) C 64 (by decide) rfl (by decide) rfl rfl ((gup_ov (n := 56) rfl (Or.inr (Nat.le_refl _))).trans (congrArg _ (gup_1 _ _ _))) dL_law_10 ?_
  show LX E K u00 zF G0 12 [(1, .ref (xB E)), (0, .ref b)] [.ref (xB E + 56)]
  refine x_astore_n (L' := [(2, .ref (xB E + 56)), (1, .ref (xB E)), (0, .ref b)]) C dL_law_12 rfl rfl ?_
  refine x_bipush C (nI 64) dL_law_13 rfl ?_
  refine x_istore_n (L' := [(3, .int (nI 64)), (2, .ref (xB E + 56)), (1, .ref (xB E)), (0, .ref b)]) C dL_law_15 rfl rfl ?_
  refine x_bipush C 100 dL_law_16 rfl ?_
  refine x_aload_n C dL_law_18 3 rfl ?_
  refine x_iconst C (nI 0) dL_law_19 rfl ?_
  refine x_cSX1 (As := [.ref b, .int (nI 0)]) C hJ (c_cell E _ _ xs hJ.2.2.1 hJ.2.2.2 0 (by omega)) v_L_19 (Nat.le_add_right _ _) rfl rfl rfl rfl dL_law_20 ?_
  refine x_sipush C 20000 dL_law_23 rfl ?_
  refine x_irem C dL_law_26 (by decide) ?_
  refine x_v (w := .int (nI (cV xs Ln 0 % 20000))) (congrArg Value.int (n_rm (n := 20000) rfl (by omega) (by decide) (cV_lt xs Ln 0))) ?_
  refine x_iadd C dL_law_27 ?_
  refine x_v (w := .int (pL (PX xs Ln))) (congrArg Value.int (natAdd (a := 100) rfl)) ?_
  refine x_istore (L' := [(4, .int (pL (PX xs Ln))), (3, .int (nI 64)), (2, .ref (xB E + 56)), (1, .ref (xB E)), (0, .ref b)]) C dL_law_28 rfl rfl ?_
  refine x_aload_n C dL_law_30 4 rfl ?_
  refine x_iconst C (nI 1) dL_law_31 rfl ?_
  refine x_cSX1 (As := [.ref b, .int (nI 1)]) C hJ (c_cell E _ _ xs hJ.2.2.1 hJ.2.2.2 1 (by omega)) v_L_19 (Nat.le_add_right _ _) rfl rfl rfl rfl dL_law_32 ?_
  refine x_sipush C 951 dL_law_35 rfl ?_
  refine x_irem C dL_law_38 (by decide) ?_
  refine x_v (w := .int (pB (PX xs Ln))) (congrArg Value.int (n_rm (n := 951) rfl (by omega) (by decide) (cV_lt xs Ln 1))) ?_
  refine x_istore (L' := [(5, .int (pB (PX xs Ln))), (4, .int (pL (PX xs Ln))), (3, .int (nI 64)), (2, .ref (xB E + 56)), (1, .ref (xB E)), (0, .ref b)]) C dL_law_39 rfl rfl ?_
  refine x_iconst C 1 dL_law_41 rfl ?_
  refine x_aload_n C dL_law_42 5 rfl ?_
  refine x_iconst C (nI 2) dL_law_43 rfl ?_
  refine x_cSX1 (As := [.ref b, .int (nI 2)]) C hJ (c_cell E _ _ xs hJ.2.2.1 hJ.2.2.2 2 (by omega)) v_L_19 (Nat.le_add_right _ _) rfl rfl rfl rfl dL_law_44 ?_
  refine x_bipush C 64 dL_law_47 rfl ?_
  refine x_irem C dL_law_49 (by decide) ?_
  refine x_v (w := .int (nI (cV xs Ln 2 % 64))) (congrArg Value.int (n_rm (n := 64) rfl (by omega) (by decide) (cV_lt xs Ln 2))) ?_
  refine x_iadd C dL_law_50 ?_
  refine x_v (w := .int (nI (pF (PX xs Ln)))) (congrArg Value.int (natAdd (a := 1) rfl)) ?_
  refine x_istore (L' := [(6, .int (nI (pF (PX xs Ln)))), (5, .int (pB (PX xs Ln))), (4, .int (pL (PX xs Ln))), (3, .int (nI 64)), (2, .ref (xB E + 56)), (1, .ref (xB E)), (0, .ref b)]) C dL_law_51 rfl rfl ?_
  refine x_aload_n C dL_law_53 5 rfl ?_
  refine x_iconst C 0 dL_law_54 rfl ?_
  refine x_iload C dL_law_55 2 rfl ?_
  refine x_cV1 (As := [.int 0, .int (pL (PX xs Ln))]) C (k_set 0 (pL (PX xs Ln)) (q_set hP).1 rfl) v_L_25 (Nat.le_add_right _ _) (Nat.le_refl _) (by omega) (ov_at (i := 0) rfl) rfl rfl rfl rfl rfl dL_law_57 ?_
  refine x_sipush C 16000 dL_law_60 rfl ?_
  refine x_icmp_ne C 88 dL_law_63 rfl (fun c => absurd (rfl) c) (fun _ => ?_)
  refine x_aload_n C dL_law_66 5 rfl ?_
  refine x_iload C dL_law_67 0 rfl ?_
  refine x_iload C dL_law_69 1 rfl ?_
  refine x_cV1 (As := [.int (nI (pF (PX xs Ln))), .int (pB (PX xs Ln))]) C (k_feedback (nI (pF (PX xs Ln))) (pB (PX xs Ln)) (q_fee hP).1 rfl) v_L_29 (Nat.le_add_right _ _) (Nat.le_refl _) (by omega) (ov_at (i := 0) rfl) rfl rfl rfl rfl rfl dL_law_71 ?_
  refine x_if_ne C 88 dL_law_74 rfl (fun c => absurd (rfl) c) (fun _ => ?_)
  refine x_aload_n C dL_law_77 5 rfl ?_
  refine x_cV1 (As := []) C (k_loudest (q_loud (q_fee hP).2)) v_L_32 (Nat.le_add_right _ _) (Nat.le_refl _) (by omega) (ov_at (i := 0) rfl) rfl rfl rfl rfl rfl dL_law_78 ?_
  refine x_if_ne C 88 dL_law_81 rfl (fun c => absurd (rfl) c) (fun _ => ?_)
  refine x_iconst C 1 dL_law_84 rfl ?_
  refine x_goto C 89 dL_law_85 rfl ?_
  refine x_istore (L' := [(7, .int 1), (6, .int (nI (pF (PX xs Ln)))), (5, .int (pB (PX xs Ln))), (4, .int (pL (PX xs Ln))), (3, .int (nI 64)), (2, .ref (xB E + 56)), (1, .ref (xB E)), (0, .ref b)]) C dL_law_89 rfl rfl ?_
  refine x_iconst C (nI 0) dL_law_91 rfl ?_
  refine x_istore (L' := [(8, .int (nI 0)), (7, .int 1), (6, .int (nI (pF (PX xs Ln)))), (5, .int (pB (PX xs Ln))), (4, .int (pL (PX xs Ln))), (3, .int (nI 64)), (2, .ref (xB E + 56)), (1, .ref (xB E)), (0, .ref b)]) C dL_law_92 rfl rfl ?_
  refine x_perm [0, 1, 2, 3, 4, 5, 6, 7, 8] rfl ?_
  refine l_set C hJ (fun u h => ?_) 3 0 rfl _ (q_fee hP).2
  refine x_iconst C (nI 5) dL_law_157 rfl ?_
  refine x_istore (L' := [(8, .int (nI 5)), (7, .int 1), (6, .int (nI (pF (PX xs Ln)))), (5, .int (pB (PX xs Ln))), (4, .int (pL (PX xs Ln))), (3, .int (nI 64)), (2, .ref (xB E + 56)), (1, .ref (xB E)), (0, .ref b)]) C dL_law_158 rfl rfl ?_
  refine x_iconst C (nI 0) dL_law_160 rfl ?_
  refine x_istore (L' := [(9, .int (nI 0)), (8, .int (nI 5)), (7, .int 1), (6, .int (nI (pF (PX xs Ln)))), (5, .int (pB (PX xs Ln))), (4, .int (pL (PX xs Ln))), (3, .int (nI 64)), (2, .ref (xB E + 56)), (1, .ref (xB E)), (0, .ref b)]) C dL_law_161 rfl rfl ?_
  refine x_iconst C (nI 0) dL_law_163 rfl ?_
  refine x_istore (L' := [(10, .int (nI 0)), (9, .int (nI 0)), (8, .int (nI 5)), (7, .int 1), (6, .int (nI (pF (PX xs Ln)))), (5, .int (pB (PX xs Ln))), (4, .int (pL (PX xs Ln))), (3, .int (nI 64)), (2, .ref (xB E + 56)), (1, .ref (xB E)), (0, .ref b)]) C dL_law_164 rfl rfl ?_
  refine x_perm [0, 1, 2, 3, 4, 5, 6, 7, 8, 9, 10] rfl ?_
  exact l_loop C hJ hP (fun u w l sa dn h1 h2 h3 => l_end C hP h1 h2 h3 kend) 26 0 rfl u zF 64 0 5 h (by omega) (by omega) (by omega)
set_option maxRecDepth 100000 in
set_option maxHeartbeats 4000000 in
theorem whole_start {p : Program} {e : Env} {s : State} {m : MethodId} {below : List Frame} {meth : Method} {c : Code} (l : Launch) (hflags : l.flags = flags0) {b L : Nat} {xs : Nat → Int32} (hL : L ≤ 260) (C0 : lw_At p s m meth c b L xs) : W p l e room_1 s m #[Value.ref b] below meth c s.heap [] 0 0 (lw_Z below #[Value.ref b] s) (entryFrame m ([Value.ref b] : List Value).toArray 19) := by
  obtain ⟨hx, hb, hr, hml, hown, hts0, hX, hbl, hlocks, hgv⟩ := id C0
  obtain ⟨E, hE, hK⟩ := world_0 hts0
  have hts : ∀ w ∈ LW, w.before #[Value.ref b] s = true := fun w h => hts0 w (LW_tbl w h)
  have hNw : XNw s := ⟨fun w hw => va_Nw.of (NW_on w hw) (hts0 w (NW_tbl w hw)), va_AO.of (hts0 _ nwt_ao)⟩
  have C : XC E (p, l, e, room_1, s, m, #[Value.ref b], below, meth, c, lw_Z below #[Value.ref b] s) cL_law 19 RL ret 8 262 600000 7302250 := ⟨hx, hb, hml, hown, hts, hr, hlocks, hK, Nat.le_of_eq hE, hNw, rfl⟩
  have hJ : LJ E (p, l, e, room_1, s, m, #[Value.ref b], below, meth, c, lw_Z below #[Value.ref b] s) b L xs := ⟨hX, hbl, by rw [hE]; omega, by omega⟩
  have key := law_walk0 C hJ (fun _ => .inr (0, [])) (fun G L => x_lret hx hb hr hlocks hE (by omega) (by omega) dL_law_950)
  rw [lg_entry_eq]
  exact key s.heap [] _ hE.symm (by rw [wl_nil]; exact fun k q h => by simp at h) va_S.rf (lv_entry [Value.ref b] (Nat.le_of_ble_eq_true rfl))
set_option maxHeartbeats 4000000 in
theorem lw_walk (l : Launch) (hflags : l.flags = flags0) (b : Addr) (xs : List Int32) : MetFree l x (headSpec (Jvm.Cond.code x code maxLocals ret :: tables_1) room_1) (lw_P b xs) (fun _ _ _ _ _ => True) lw_Q := by
  refine MetFree.of_bodyS (code := code) (maxLocals := maxLocals) (ret := ret) (by decide) ?_ ?_
  · intro args s m h hn
    obtain ⟨meth, c, h1, h2, h3, h4, h5, h6, -, -⟩ := Cond.code_spec hn (atoms_spec (ws := Jvm.Cond.code x code maxLocals ret :: tables_1) h _ List.mem_cons_self)
    exact ⟨meth, c, h1, h2, h3, h4, h5, h6⟩
  · intro p e s m args below meth c s₁ B hml0 hP _
    obtain ⟨rfl, hx, hbd, hgv⟩ := hP
    obtain ⟨scr, harrAt, hlist, hof, hsmall⟩ := hx
    obtain ⟨hcb, hkn, -, -⟩ := State.arrayAt?_spec harrAt
    have hown : s.vm.findClass R_law = some m.cls := findClass_of_methodNamed B.named
    have hts0 : ∀ c ∈ (Jvm.Cond.code x code maxLocals ret :: tables_1), c.before #[Value.ref b] s = true := atoms_spec (ws := Jvm.Cond.code x code maxLocals ret :: tables_1) B.pre
    have hts : ∀ w ∈ lw_tbl, w.before #[Value.ref b] s = true := k2_hts_sels lw_privs (fun w hw => hts0 w (List.mem_cons_of_mem _ hw)) lw_privs_ok
    have hml : c.maxLocals = 19 := B.maxLocals_eq (hts0 _ List.mem_cons_self)
    have X₀ : Stand p l e room_1 s m #[Value.ref b] below meth c s₁ [] 0 0 := Stand.of_body B
    have hh0 : s₁.heap = s.heap := by rw [B.state]; rfl
    have hsz : scr.slots.size = xs.length := by rw [← Array.length_toList, hlist, List.length_map]
    have hval : ∀ j : Nat, j < xs.length → scr.slots[j]? = some (.int (xs.getD j 0)) := fun j hj => by
      rw [← Array.getElem?_toList, hlist]
      simp [hj]
    have hbl : b < s.heap.size := (Array.getElem?_eq_some_iff.mp hcb).1
    have hX : va_X b xs.length (fun j => xs.getD j 0) s s.heap := ⟨scr, hcb, hof, hkn, hsz, hval⟩
    have K : W p l e room_1 s m #[Value.ref b] below meth c s₁.heap [] 0 0 (lw_Z below #[Value.ref b] s) (entryFrame m ([Value.ref b] : List Value).toArray 19) := by
      rw [hh0]
      exact whole_start l hflags hbd ⟨B.exec, B.bytes, B.returns, hml, hown, hts, hX, hbl, B.notSynchronized, hgv⟩
    obtain ⟨t, a1, o, b1, b2, b3⟩ := K s₁ rfl X₀
    exact ⟨t, o, a1, b1, b2, b3⟩
theorem lw_pre_spec {args : Array Value} {s : State} (h : (Jvm.Cond.and given_1 narrow_1).before args s = true) (hr : rest_1_c.before args s = true) : ∃ (b : Addr) (xs : List Int32), lw_P b xs args s := by
  have hs := flat_of_before _ h
  have hq := flat_of_before _ hr
  have hc : (Cond.count 1).before args s = true := hs _ (by decide +kernel)
  have harr : (Cond.arrayOf (.arg 0) .int).before args s = true := hs _ (by decide +kernel)
  have hle : (Cond.le (.length (.arg 0)) (.int 260)).before args s = true := hs _ (by decide +kernel)
  have hlen : (Cond.isInt (.length (.arg 0))).before args s = true := hq _ (by decide +kernel)
  have hall : (Cond.all (.arg 0) (.isInt (.elem (.arg 0) (.index 0)))).before args s = true := hq _ (by decide +kernel)
  obtain ⟨b, xs, hb, hx⟩ := State.ints_of_pre rfl harr hlen hall
  have hsm : xs.length < 2 ^ 31 := hx.choose_spec.2.2.2
  have hev : (Term.length (.arg 0)).eval args s none [] s = some (.int xs.length.toInt32) := hx.length_eval hb
  have hv := Cond.le_ints hev (show (Term.int 260).eval args s none [] s = some (.int 260) from rfl)
  have hd : xs.length.toInt32 ≤ 260 := by
    simpa [Cond.before, Cond.holds, hv] using hle
  have hN : xs.length ≤ 260 := (Int32.ofNat_le_ofNat hsm (by decide)).mp (show Int32.ofNat xs.length ≤ Int32.ofNat 260 from hd)
  exact ⟨b, xs, Cond.one_arg hc (show args[0]? = some (.ref b) from hb), hx, hN, h⟩
theorem lw_comes (l : Launch) (hflags : l.flags = flags0) : Comes l x (Jvm.Cond.code x code maxLocals ret :: tables_1) room_1 (fun tb e args s => Calls_1 tb e args s ∧ rest_1 tb e args s ∧ Pre_1 tb e args s)
    (fun _ _ args s o t => lw_Q args s o t) := by
  intro p e ha hc hk s m args below hf hfit hheap happ hpre
  obtain ⟨b, xs, hP⟩ := lw_pre_spec hpre.2.2 hpre.2.1
  obtain ⟨k, o, h1, h2, h3, hQ⟩ := lw_walk l hflags b xs p e ha hc hk s m args below hf ((Spec.applies_iff_loose hf).mp happ).1 hP trivial
  exact ⟨k, o, h1, h2, h3, hQ⟩
theorem lw_frame {s t : State} {o : Outcome} {args : Array Value} (h : State.butDraws s t lw_cs (fun t1 => Framed s o t1 [] 600000 7302250)) :
    State.butDraws s t [Jvm.Choice.named "NaN.bits"] (fun t1 => Framed s o t1 (fieldLocs frame_1_writes args s ++ arrayLocs frame_1_arrays args s ++ staticLocs frame_1_statics s) 600000 7302250) := h
theorem lw_limb (L : Cond) (hL : ∀ (args : Array Value) (s t : State), L.after args s (.returned (some (.int 1))) t = true) :
    ArmFor flags0 classFile x code maxLocals ret World_1 tables_1 room_1 Calls_1 rest_1 Pre_1
      (fun tb e a s o t => postC L tb e a s o t ∧ State.butDraws s t [Jvm.Choice.named "NaN.bits"] (fun t1 => Framed s o t1 (fieldLocs frame_1_writes a s ++ arrayLocs frame_1_arrays a s ++ staticLocs frame_1_statics s) 600000 7302250)) := by
  intro l hflags _ _ p e ha hc hk s m args below hf hfit hheap happ hpre
  obtain ⟨k, o, h1, h2, h3, rfl, hF⟩ := lw_comes l hflags p e ha hc hk s m args below hf hfit hheap happ hpre
  exact ⟨k, _, h1, h2, h3, hL args s _, lw_frame hF⟩
theorem i_vc : Claimed_1_1 ∧ Claimed_1_2 := ⟨lw_limb limb_1_1 (fun args s t => by simp [limb_1_1, Cond.after, Cond.holds, Cond.value]), lw_limb limb_1_2 (fun args s t => Cond.after_iff.mpr (by
  first | (rw [show limb_1_2 = Cond.eq .result (.int 1) from rfl, Cond.eq_ints (x := 1) (y := 1) rfl rfl]; simp; done) | (simp [limb_1_2, Cond.value, Term.eval]; done)))⟩
