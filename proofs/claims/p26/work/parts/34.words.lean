/-! ===== the law: behind each call; words that are stolen and given back ===== -/
abbrev LX (E : XE) (K : XK) (u : QV) (w : Nat → Int32) (G0 : GW) (pc : Nat) (L : List (Nat × Value)) (st : List Value) : Prop := XW E K 19 (xB E + 57) 57 780 (LG E u w G0) pc L st
abbrev LM (E : XE) (b : Nat) (P : TP) (l sa dn k : Nat) : List (Nat × Value) := [(10, .int (nI k)), (9, .int (nI sa)), (8, .int (nI dn)), (7, .int 1), (6, .int (nI (pF P))), (5, .int (pB P)), (4, .int (pL P)), (3, .int (nI l)), (2, .ref (xB E + 56)), (1, .ref (xB E)), (0, .ref b)]
theorem x_cSX1 {E : XE} {K : XK} {nL N cells slots : Nat} {G : GW} {pc : Nat} {L : List (Nat × Value)} {st : List Value} {cc : ByteArray} {own : String} {ret : Option FieldType} {fr lo mc ms : Nat} (C : XC E K cc nL own ret fr lo mc ms) {b Ln : Nat} {xs : Nat → Int32} (hJ : LJ E K b Ln xs) {index n : Nat} {y : MethodName} {bytes : ByteArray} {maxL' : Nat} {ret' : Option FieldType} {fr' lo' : Nat} {v : Value} {As : List Value} {G' : GW} {st0 : List Value} (hM : MX E b Ln xs y bytes maxL' ret' fr' lo' 0 0 As N G (some v) G') (hl : XS own index y bytes maxL' ret' n) (hN : xB E ≤ N) (hR9 : XR fr lo mc ms cells slots fr' lo' maxL' 0 0 = true) (hn : As.length = n) (hw : Nat.ble ((st.map fun v => v.category).sum) 8 = true) (hst : st0 = As.reverse ++ st) (hd : decode cc pc = .ok (.invokestatic index, 3)) (k : XW E K nL N cells slots G' (pc + 3) L (v :: st)) : XW E K nL N cells slots G pc L st0 := x_callSX C hJ hM hl hN hR9 hn hw hst hd k
set_option maxRecDepth 100000 in
set_option maxHeartbeats 4000000 in
theorem l_tail {E : XE} {K : XK} (C : XC E K cL_law 19 RL ret 8 262 600000 7302250) {b : Nat} {P : TP} {G0 : GW} {u : QV} {w : Nat → Int32} {l sa dn k : Nat} (h : TQ P 3 u w l sa dn) (hs : sa ≤ 1000) (hd : dn ≤ 1000) (kk : LX E K u w G0 166 (LM E b P l sa dn (k + 1)) []) : LX E K u w G0 732 (LM E b P l sa dn k) [] := by
  obtain ⟨m1, m2⟩ := met_0 h hs
  refine x_iload C dL_law_732 3 rfl ?_
  refine x_if_eq C 781 dL_law_734 rfl (fun c => absurd c (by decide)) (fun _ => ?_)
  refine x_aload_n C dL_law_737 9 rfl ?_
  refine x_aload_n C dL_law_738 8 rfl ?_
  refine x_iload_n C dL_law_739 7 rfl ?_
  refine x_cS1 (As := [.ref (xB E), .ref (xB E + 56), .int (nI l)]) C (c_isThere h.1) v_L_58 (Nat.le_add_right _ _) rfl rfl rfl rfl dL_law_740 ?_
  refine x_if_eq C 781 dL_law_743 rfl (fun c => absurd c (by decide)) (fun _ => ?_)
  refine x_aload_n C dL_law_746 9 rfl ?_
  refine x_iconst C 0 dL_law_747 rfl ?_
  refine x_cV1 (As := [.int 0]) C (k_meter 0 m2 m1) v_L_62 (Nat.le_add_right _ _) (Nat.le_refl _) (by omega) (ov_at (i := 0) rfl) rfl rfl rfl rfl rfl dL_law_748 ?_
  refine x_iload C dL_law_751 1 rfl ?_
  refine x_icmp_ne C 781 dL_law_753 rfl (fun c => absurd (rfl) c) (fun _ => ?_)
  refine x_aload_n C dL_law_756 9 rfl ?_
  refine x_bipush C 7 dL_law_757 rfl ?_
  refine x_cV1 (As := [.int 7]) C (k_count 7 l h.1.2.2.1 h.1.2.1 (cnt_7.trans h.2.2.2.2.1)) v_L_8 (Nat.le_add_right _ _) (Nat.le_refl _) (by omega) (ov_at (i := 0) rfl) rfl rfl rfl rfl rfl dL_law_759 ?_
  refine x_iload C dL_law_762 2 rfl ?_
  refine x_iconst C 4 dL_law_764 rfl ?_
  suffices hj1 : LX E K u w G0 774 [(10, .int (nI k)), (9, .int (nI sa)), (8, .int (nI dn)), (7, .int 1), (6, .int (nI (pF P))), (5, .int (pB P)), (4, .int (pL P)), (3, .int (nI l)), (2, .ref (xB E + 56)), (1, .ref (xB E)), (0, .ref b)] [.int (nI (min dn 4)), .int (nI (min dn 4))] by
    refine x_icmp_le C 772 dL_law_765 rfl (fun c => ?_) (fun c => ?_)
    · have c4 : dn ≤ 4 := (nI_leI (b := 4) (by omega) (by omega)).mp c
      refine x_iload C dL_law_772 2 rfl ?_
      exact x_v (congrArg Value.int (show nI dn = nI (min dn 4) from congrArg nI (by omega))) hj1
    · have c4 : ¬ dn ≤ 4 := fun z => c ((nI_leI (b := 4) (by omega) (by omega)).mpr z)
      refine x_iconst C 4 dL_law_768 rfl ?_
      refine x_goto C 774 dL_law_769 rfl ?_
      exact x_v (congrArg Value.int (show nI 4 = nI (min dn 4) from congrArg nI (by omega))) hj1
  refine x_icmp_ne C 781 dL_law_774 rfl (fun c => absurd (rfl) c) (fun _ => ?_)
  refine x_iconst C 1 dL_law_777 rfl ?_
  refine x_goto C 782 dL_law_778 rfl ?_
  refine x_istore (L' := [(7, .int 1), (10, .int (nI k)), (9, .int (nI sa)), (8, .int (nI dn)), (6, .int (nI (pF P))), (5, .int (pB P)), (4, .int (pL P)), (3, .int (nI l)), (2, .ref (xB E + 56)), (1, .ref (xB E)), (0, .ref b)]) C dL_law_782 rfl rfl ?_
  refine x_iinc (L' := [(10, .int (nI (k + 1))), (7, .int 1), (9, .int (nI sa)), (8, .int (nI dn)), (6, .int (nI (pF P))), (5, .int (pB P)), (4, .int (pL P)), (3, .int (nI l)), (2, .ref (xB E + 56)), (1, .ref (xB E)), (0, .ref b)]) C (nI (k + 1)) dL_law_784 1 rfl (natAdd (b := 1) rfl) rfl rfl ?_
  refine x_perm [0, 2, 3, 1, 4, 5, 6, 7, 8, 9, 10] rfl ?_
  refine x_goto C 166 dL_law_787 rfl ?_
  exact kk
set_option maxRecDepth 100000 in
set_option maxHeartbeats 4000000 in
theorem l_zero {E : XE} {K : XK} (C : XC E K cL_law 19 RL ret 8 262 600000 7302250) {b : Nat} {P : TP} {G0 : GW} {u : QV} {w : Nat → Int32} {l sa dn k a : Nat} (kend : LX E K u (zrT w a 64) G0 732 (LM E b P l sa dn k) []) : ∀ d m, m + d = 64 → a ≤ m → LX E K u (zrT w a m) G0 310 ((14, .int (nI m)) :: LM E b P l sa dn k) [] := by
  intro d
  induction d with
  | zero =>
    intro m hm0 hm
    have h64 : m = 64 := by omega
    subst h64
    refine x_iload C dL_law_310 0 rfl ?_
    refine x_bipush C 64 dL_law_312 rfl ?_
    refine x_icmp_ge C 328 dL_law_314 rfl (fun _ => ?_) (fun c => absurd (show (64 : Int32) ≤ nI 64 by decide) c)
    refine x_goto C 732 dL_law_328 rfl ?_
    exact x_perm [1, 2, 3, 4, 5, 6, 7, 8, 9, 10, 11] rfl kend
  | succ d ih =>
    intro m hm0 hm
    have hm2 : m < 64 := by omega
    refine x_iload C dL_law_310 0 rfl ?_
    refine x_bipush C 64 dL_law_312 rfl ?_
    refine x_icmp_ge C 328 dL_law_314 rfl (fun c => absurd c (nI_ge (b := 64) hm2 (by omega))) (fun _ => ?_)
    refine x_aload_n C dL_law_317 9 rfl ?_
    refine x_iload C dL_law_318 0 rfl ?_
    refine x_iconst C 0 dL_law_320 rfl ?_
    refine x_iast (G' := LG E u (zrT w a (m + 1)) G0) C (m) (Nat.le_add_right _ _) (by omega) lg_w (vp_in_nI hm2 (by omega)) (nI_clamp (by omega)) (lg_up.trans (congrArg (fun q => LG E u q G0) (zrT_step hm))) dL_law_321 ?_
    refine x_iinc (L' := (14, .int (nI (m + 1))) :: LM E b P l sa dn k) C (nI (m + 1)) dL_law_322 0 rfl (natAdd (b := 1) rfl) rfl rfl ?_
    refine x_goto C 310 dL_law_325 rfl ?_
    exact ih (m + 1) (by omega) (by omega)
set_option maxRecDepth 100000 in
set_option maxHeartbeats 4000000 in
theorem l_ste1 {E : XE} {K : XK} (C : XC E K cL_law 19 RL ret 8 262 600000 7302250) {b : Nat} {P : TP} {G0 : GW} {u : QV} {w : Nat → Int32} {l sa dn k z y : Nat} (h : TQ P 3 u w l sa dn) (hd : dn ≤ 1000) (hz : z < 2 ^ 31) (hy : y = 1 + z % 20) (kk : ∀ u w l dn2, TQ P 3 u w l sa dn2 → dn ≤ dn2 ∧ dn2 ≤ dn + 1 → LX E K u w G0 732 (LM E b P l sa dn2 k) []) (hk : 48 < 64 - l + y) : LX E K u w G0 204 ((12, .int (nI z)) :: LM E b P l sa dn k) [] := by
  have hl := h.1.2.1
  have hl1 := h.1.1
  obtain ⟨q1, q2⟩ := q_ste1 h (show 1 ≤ y by omega) (by omega) hk
  refine x_iconst C 1 dL_law_204 rfl ?_
  refine x_iload C dL_law_205 0 rfl ?_
  refine x_bipush C 20 dL_law_207 rfl ?_
  refine x_irem C dL_law_209 (by decide) ?_
  refine x_v (w := .int (nI (z % 20))) (congrArg Value.int (n_rm (n := 20) rfl (by omega) (by decide) hz)) ?_
  refine x_iadd C dL_law_210 ?_
  refine x_v (w := .int (nI (1 + z % 20))) (congrArg Value.int (natAdd (a := 1) rfl)) ?_
  rw [← hy]
  refine x_istore (L' := [(13, .int (nI y)), (12, .int (nI z)), (10, .int (nI k)), (9, .int (nI sa)), (8, .int (nI dn)), (7, .int 1), (6, .int (nI (pF P))), (5, .int (pB P)), (4, .int (pL P)), (3, .int (nI l)), (2, .ref (xB E + 56)), (1, .ref (xB E)), (0, .ref b)]) C dL_law_211 rfl rfl ?_
  refine x_bipush C 64 dL_law_213 rfl ?_
  refine x_iload_n C dL_law_215 9 rfl ?_
  refine x_isub C dL_law_216 ?_
  refine x_v (w := .int (nI (64 - l))) (congrArg Value.int (natSub (a := 64) (by omega))) ?_
  refine x_iload C dL_law_217 0 rfl ?_
  refine x_iadd C dL_law_219 ?_
  refine x_v (w := .int (nI (64 - l + y))) (congrArg Value.int (nI_add _ _)) ?_
  refine x_bipush C 48 dL_law_220 rfl ?_
  refine x_icmp_le C 244 dL_law_222 rfl (fun c => absurd c (nI_ge (b := 64 - l + y) (a := 48) (by omega) (by omega))) (fun _ => ?_)
  refine x_aload_n C dL_law_225 11 rfl ?_
  refine x_iload C dL_law_226 0 rfl ?_
  refine x_cV1 (As := [.int (nI y)]) C (k_steal (nI y) q1 q2) v_L_40 (Nat.le_add_right _ _) (Nat.le_refl _) (by omega) (ov_at (i := 0) rfl) rfl rfl rfl rfl rfl dL_law_228 ?_
  refine x_ldc C (-1000003) m_401 dL_law_231 ?_
  refine x_icmp_ne C 240 dL_law_233 rfl (fun c => absurd (rfl) c) (fun _ => ?_)
  refine x_iconst C 1 dL_law_236 rfl ?_
  refine x_goto C 262 dL_law_237 rfl ?_
  refine x_istore (L' := [(7, .int 1), (13, .int (nI y)), (12, .int (nI z)), (10, .int (nI k)), (9, .int (nI sa)), (8, .int (nI dn)), (6, .int (nI (pF P))), (5, .int (pB P)), (4, .int (pL P)), (3, .int (nI l)), (2, .ref (xB E + 56)), (1, .ref (xB E)), (0, .ref b)]) C dL_law_262 rfl rfl ?_
  refine x_iload C dL_law_264 5 rfl ?_
  refine x_bipush C 64 dL_law_266 rfl ?_
  refine x_iload_n C dL_law_268 9 rfl ?_
  refine x_isub C dL_law_269 ?_
  refine x_v (w := .int (nI (64 - l))) (congrArg Value.int (natSub (a := 64) (by omega))) ?_
  refine x_iload C dL_law_270 1 rfl ?_
  refine x_iadd C dL_law_272 ?_
  refine x_v (w := .int (nI (64 - l + y))) (congrArg Value.int (nI_add _ _)) ?_
  refine x_bipush C 48 dL_law_273 rfl ?_
  refine x_icmp_le C 282 dL_law_275 rfl (fun c => absurd c (nI_ge (b := 64 - l + y) (a := 48) (by omega) (by omega))) (fun _ => ?_)
  refine x_iconst C 0 dL_law_278 rfl ?_
  refine x_goto C 283 dL_law_279 rfl ?_
  refine x_iadd C dL_law_283 ?_
  refine x_v (w := .int (nI dn)) (congrArg Value.int (Int32.add_zero _)) ?_
  refine x_istore (L' := [(8, .int (nI dn)), (7, .int 1), (13, .int (nI y)), (12, .int (nI z)), (10, .int (nI k)), (9, .int (nI sa)), (6, .int (nI (pF P))), (5, .int (pB P)), (4, .int (pL P)), (3, .int (nI l)), (2, .ref (xB E + 56)), (1, .ref (xB E)), (0, .ref b)]) C dL_law_284 rfl rfl ?_
  refine x_iload_n C dL_law_286 9 rfl ?_
  refine x_bipush C 64 dL_law_287 rfl ?_
  refine x_iload_n C dL_law_289 9 rfl ?_
  refine x_isub C dL_law_290 ?_
  refine x_v (w := .int (nI (64 - l))) (congrArg Value.int (natSub (a := 64) (by omega))) ?_
  refine x_iload C dL_law_291 2 rfl ?_
  refine x_iadd C dL_law_293 ?_
  refine x_v (w := .int (nI (64 - l + y))) (congrArg Value.int (nI_add _ _)) ?_
  refine x_bipush C 48 dL_law_294 rfl ?_
  refine x_icmp_le C 303 dL_law_296 rfl (fun c => absurd c (nI_ge (b := 64 - l + y) (a := 48) (by omega) (by omega))) (fun _ => ?_)
  refine x_iconst C 0 dL_law_299 rfl ?_
  refine x_goto C 305 dL_law_300 rfl ?_
  refine x_isub C dL_law_305 ?_
  refine x_v (w := .int (nI l)) (congrArg Value.int (Int32.sub_zero _)) ?_
  refine x_istore_n (L' := [(3, .int (nI l)), (8, .int (nI dn)), (7, .int 1), (13, .int (nI y)), (12, .int (nI z)), (10, .int (nI k)), (9, .int (nI sa)), (6, .int (nI (pF P))), (5, .int (pB P)), (4, .int (pL P)), (2, .ref (xB E + 56)), (1, .ref (xB E)), (0, .ref b)]) C dL_law_306 rfl rfl ?_
  refine x_iload_n C dL_law_307 0 rfl ?_
  refine x_istore (L' := [(14, .int (nI l)), (3, .int (nI l)), (8, .int (nI dn)), (7, .int 1), (13, .int (nI y)), (12, .int (nI z)), (10, .int (nI k)), (9, .int (nI sa)), (6, .int (nI (pF P))), (5, .int (pB P)), (4, .int (pL P)), (2, .ref (xB E + 56)), (1, .ref (xB E)), (0, .ref b)]) C dL_law_308 rfl rfl ?_
  refine x_perm [0, 6, 7, 2, 3, 8, 9, 10, 1, 11, 12, 13] rfl ?_
  refine x_G (by rw [zrT_top]) (l_zero C (w := w) (a := l) (kk _ _ _ _ (tq_zr h) (by omega)) (64 - (l)) (l) (by omega) (Nat.le_refl _))
set_option maxRecDepth 100000 in
set_option maxHeartbeats 4000000 in
theorem l_ste2 {E : XE} {K : XK} (C : XC E K cL_law 19 RL ret 8 262 600000 7302250) {b : Nat} {P : TP} {G0 : GW} {u : QV} {w : Nat → Int32} {l sa dn k z y : Nat} (h : TQ P 3 u w l sa dn) (hd : dn ≤ 1000) (hz : z < 2 ^ 31) (hy : y = 1 + z % 20) (kk : ∀ u w l dn2, TQ P 3 u w l sa dn2 → dn ≤ dn2 ∧ dn2 ≤ dn + 1 → LX E K u w G0 732 (LM E b P l sa dn2 k) []) (hk : 64 - l + y ≤ 48) : LX E K u w G0 204 ((12, .int (nI z)) :: LM E b P l sa dn k) [] := by
  have hl := h.1.2.1
  have hl1 := h.1.1
  obtain ⟨q1, q2⟩ := q_ste2 h (show 1 ≤ y by omega) hk
  refine x_iconst C 1 dL_law_204 rfl ?_
  refine x_iload C dL_law_205 0 rfl ?_
  refine x_bipush C 20 dL_law_207 rfl ?_
  refine x_irem C dL_law_209 (by decide) ?_
  refine x_v (w := .int (nI (z % 20))) (congrArg Value.int (n_rm (n := 20) rfl (by omega) (by decide) hz)) ?_
  refine x_iadd C dL_law_210 ?_
  refine x_v (w := .int (nI (1 + z % 20))) (congrArg Value.int (natAdd (a := 1) rfl)) ?_
  rw [← hy]
  refine x_istore (L' := [(13, .int (nI y)), (12, .int (nI z)), (10, .int (nI k)), (9, .int (nI sa)), (8, .int (nI dn)), (7, .int 1), (6, .int (nI (pF P))), (5, .int (pB P)), (4, .int (pL P)), (3, .int (nI l)), (2, .ref (xB E + 56)), (1, .ref (xB E)), (0, .ref b)]) C dL_law_211 rfl rfl ?_
  refine x_bipush C 64 dL_law_213 rfl ?_
  refine x_iload_n C dL_law_215 9 rfl ?_
  refine x_isub C dL_law_216 ?_
  refine x_v (w := .int (nI (64 - l))) (congrArg Value.int (natSub (a := 64) (by omega))) ?_
  refine x_iload C dL_law_217 0 rfl ?_
  refine x_iadd C dL_law_219 ?_
  refine x_v (w := .int (nI (64 - l + y))) (congrArg Value.int (nI_add _ _)) ?_
  refine x_bipush C 48 dL_law_220 rfl ?_
  refine x_icmp_le C 244 dL_law_222 rfl (fun _ => ?_) (fun c => absurd (nI_le (a := 64 - l + y) (b := 48) (by omega) (by omega)) c)
  refine x_aload_n C dL_law_244 11 rfl ?_
  refine x_iload C dL_law_245 0 rfl ?_
  refine x_cV1 (As := [.int (nI y)]) C (k_steal (nI y) q1 rfl) v_L_40 (Nat.le_add_right _ _) (Nat.le_refl _) (by omega) (ov_at (i := 0) rfl) rfl rfl rfl rfl rfl dL_law_247 ?_
  refine x_iload_n C dL_law_250 9 rfl ?_
  refine x_iload C dL_law_251 0 rfl ?_
  refine x_isub C dL_law_253 ?_
  refine x_v (w := .int (nI (l - y))) (congrArg Value.int (n_sub (by omega))) ?_
  refine x_icmp_ne C 261 dL_law_254 rfl (fun c => absurd (rfl) c) (fun _ => ?_)
  refine x_iconst C 1 dL_law_257 rfl ?_
  refine x_goto C 262 dL_law_258 rfl ?_
  refine x_istore (L' := [(7, .int 1), (13, .int (nI y)), (12, .int (nI z)), (10, .int (nI k)), (9, .int (nI sa)), (8, .int (nI dn)), (6, .int (nI (pF P))), (5, .int (pB P)), (4, .int (pL P)), (3, .int (nI l)), (2, .ref (xB E + 56)), (1, .ref (xB E)), (0, .ref b)]) C dL_law_262 rfl rfl ?_
  refine x_iload C dL_law_264 5 rfl ?_
  refine x_bipush C 64 dL_law_266 rfl ?_
  refine x_iload_n C dL_law_268 9 rfl ?_
  refine x_isub C dL_law_269 ?_
  refine x_v (w := .int (nI (64 - l))) (congrArg Value.int (natSub (a := 64) (by omega))) ?_
  refine x_iload C dL_law_270 1 rfl ?_
  refine x_iadd C dL_law_272 ?_
  refine x_v (w := .int (nI (64 - l + y))) (congrArg Value.int (nI_add _ _)) ?_
  refine x_bipush C 48 dL_law_273 rfl ?_
  refine x_icmp_le C 282 dL_law_275 rfl (fun _ => ?_) (fun c => absurd (nI_le (a := 64 - l + y) (b := 48) (by omega) (by omega)) c)
  refine x_iconst C 1 dL_law_282 rfl ?_
  refine x_iadd C dL_law_283 ?_
  refine x_v (w := .int (nI (dn + 1))) (congrArg Value.int ((nI_succ dn).symm)) ?_
  refine x_istore (L' := [(8, .int (nI (dn + 1))), (7, .int 1), (13, .int (nI y)), (12, .int (nI z)), (10, .int (nI k)), (9, .int (nI sa)), (6, .int (nI (pF P))), (5, .int (pB P)), (4, .int (pL P)), (3, .int (nI l)), (2, .ref (xB E + 56)), (1, .ref (xB E)), (0, .ref b)]) C dL_law_284 rfl rfl ?_
  refine x_iload_n C dL_law_286 9 rfl ?_
  refine x_bipush C 64 dL_law_287 rfl ?_
  refine x_iload_n C dL_law_289 9 rfl ?_
  refine x_isub C dL_law_290 ?_
  refine x_v (w := .int (nI (64 - l))) (congrArg Value.int (natSub (a := 64) (by omega))) ?_
  refine x_iload C dL_law_291 2 rfl ?_
  refine x_iadd C dL_law_293 ?_
  refine x_v (w := .int (nI (64 - l + y))) (congrArg Value.int (nI_add _ _)) ?_
  refine x_bipush C 48 dL_law_294 rfl ?_
  refine x_icmp_le C 303 dL_law_296 rfl (fun _ => ?_) (fun c => absurd (nI_le (a := 64 - l + y) (b := 48) (by omega) (by omega)) c)
  refine x_iload C dL_law_303 2 rfl ?_
  refine x_isub C dL_law_305 ?_
  refine x_v (w := .int (nI (l - y))) (congrArg Value.int (n_sub (by omega))) ?_
  refine x_istore_n (L' := [(3, .int (nI (l - y))), (8, .int (nI (dn + 1))), (7, .int 1), (13, .int (nI y)), (12, .int (nI z)), (10, .int (nI k)), (9, .int (nI sa)), (6, .int (nI (pF P))), (5, .int (pB P)), (4, .int (pL P)), (2, .ref (xB E + 56)), (1, .ref (xB E)), (0, .ref b)]) C dL_law_306 rfl rfl ?_
  refine x_iload_n C dL_law_307 0 rfl ?_
  refine x_istore (L' := [(14, .int (nI (l - y))), (3, .int (nI (l - y))), (8, .int (nI (dn + 1))), (7, .int 1), (13, .int (nI y)), (12, .int (nI z)), (10, .int (nI k)), (9, .int (nI sa)), (6, .int (nI (pF P))), (5, .int (pB P)), (4, .int (pL P)), (2, .ref (xB E + 56)), (1, .ref (xB E)), (0, .ref b)]) C dL_law_308 rfl rfl ?_
  refine x_perm [0, 6, 7, 2, 3, 8, 9, 10, 1, 11, 12, 13] rfl ?_
  refine x_G (by rw [zrT_top]) (l_zero C (w := w) (a := l - y) (kk _ _ _ _ q2 (by omega)) (64 - (l - y)) (l - y) (by omega) (Nat.le_refl _))
set_option maxRecDepth 100000 in
set_option maxHeartbeats 4000000 in
theorem l_giv1 {E : XE} {K : XK} (C : XC E K cL_law 19 RL ret 8 262 600000 7302250) {b : Nat} {P : TP} {G0 : GW} {u : QV} {w : Nat → Int32} {l sa dn k z y : Nat} (h : TQ P 3 u w l sa dn) (hd : dn ≤ 1000) (hz : z < 2 ^ 31) (hy : y = 1 + z % 20) (kk : ∀ u w l dn2, TQ P 3 u w l sa dn2 → dn ≤ dn2 ∧ dn2 ≤ dn + 1 → LX E K u w G0 732 (LM E b P l sa dn2 k) []) (hk : 64 - l < y) : LX E K u w G0 340 ((12, .int (nI z)) :: LM E b P l sa dn k) [] := by
  have hl := h.1.2.1
  have hl1 := h.1.1
  obtain ⟨q1, q2⟩ := q_giv1 h (show 1 ≤ y by omega) (by omega) hk
  refine x_iconst C 1 dL_law_340 rfl ?_
  refine x_iload C dL_law_341 0 rfl ?_
  refine x_bipush C 20 dL_law_343 rfl ?_
  refine x_irem C dL_law_345 (by decide) ?_
  refine x_v (w := .int (nI (z % 20))) (congrArg Value.int (n_rm (n := 20) rfl (by omega) (by decide) hz)) ?_
  refine x_iadd C dL_law_346 ?_
  refine x_v (w := .int (nI (1 + z % 20))) (congrArg Value.int (natAdd (a := 1) rfl)) ?_
  rw [← hy]
  refine x_istore (L' := [(13, .int (nI y)), (12, .int (nI z)), (10, .int (nI k)), (9, .int (nI sa)), (8, .int (nI dn)), (7, .int 1), (6, .int (nI (pF P))), (5, .int (pB P)), (4, .int (pL P)), (3, .int (nI l)), (2, .ref (xB E + 56)), (1, .ref (xB E)), (0, .ref b)]) C dL_law_347 rfl rfl ?_
  refine x_bipush C 64 dL_law_349 rfl ?_
  refine x_iload_n C dL_law_351 9 rfl ?_
  refine x_isub C dL_law_352 ?_
  refine x_v (w := .int (nI (64 - l))) (congrArg Value.int (natSub (a := 64) (by omega))) ?_
  refine x_iload C dL_law_353 0 rfl ?_
  refine x_icmp_ge C 377 dL_law_355 rfl (fun c => absurd c (nI_ge (b := y) (a := 64 - l) (by omega) (by omega))) (fun _ => ?_)
  refine x_aload_n C dL_law_358 11 rfl ?_
  refine x_iload C dL_law_359 0 rfl ?_
  refine x_cV1 (As := [.int (nI y)]) C (k_giveBack (nI y) l h.1.2.2.1 h.1.2.1 q1 q2) v_L_44 (Nat.le_add_right _ _) (Nat.le_refl _) (by omega) (ov_at (i := 0) rfl) rfl rfl rfl rfl rfl dL_law_361 ?_
  refine x_ldc C (-1000002) m_402 dL_law_364 ?_
  refine x_icmp_ne C 373 dL_law_366 rfl (fun c => absurd (rfl) c) (fun _ => ?_)
  refine x_iconst C 1 dL_law_369 rfl ?_
  refine x_goto C 395 dL_law_370 rfl ?_
  refine x_istore (L' := [(7, .int 1), (13, .int (nI y)), (12, .int (nI z)), (10, .int (nI k)), (9, .int (nI sa)), (8, .int (nI dn)), (6, .int (nI (pF P))), (5, .int (pB P)), (4, .int (pL P)), (3, .int (nI l)), (2, .ref (xB E + 56)), (1, .ref (xB E)), (0, .ref b)]) C dL_law_395 rfl rfl ?_
  refine x_iload C dL_law_397 5 rfl ?_
  refine x_bipush C 64 dL_law_399 rfl ?_
  refine x_iload_n C dL_law_401 9 rfl ?_
  refine x_isub C dL_law_402 ?_
  refine x_v (w := .int (nI (64 - l))) (congrArg Value.int (natSub (a := 64) (by omega))) ?_
  refine x_iload C dL_law_403 1 rfl ?_
  refine x_icmp_ge C 412 dL_law_405 rfl (fun c => absurd c (nI_ge (b := y) (a := 64 - l) (by omega) (by omega))) (fun _ => ?_)
  refine x_iconst C 0 dL_law_408 rfl ?_
  refine x_goto C 413 dL_law_409 rfl ?_
  refine x_iadd C dL_law_413 ?_
  refine x_v (w := .int (nI dn)) (congrArg Value.int (Int32.add_zero _)) ?_
  refine x_istore (L' := [(8, .int (nI dn)), (7, .int 1), (13, .int (nI y)), (12, .int (nI z)), (10, .int (nI k)), (9, .int (nI sa)), (6, .int (nI (pF P))), (5, .int (pB P)), (4, .int (pL P)), (3, .int (nI l)), (2, .ref (xB E + 56)), (1, .ref (xB E)), (0, .ref b)]) C dL_law_414 rfl rfl ?_
  refine x_iload_n C dL_law_416 9 rfl ?_
  refine x_bipush C 64 dL_law_417 rfl ?_
  refine x_iload_n C dL_law_419 9 rfl ?_
  refine x_isub C dL_law_420 ?_
  refine x_v (w := .int (nI (64 - l))) (congrArg Value.int (natSub (a := 64) (by omega))) ?_
  refine x_iload C dL_law_421 2 rfl ?_
  refine x_icmp_ge C 430 dL_law_423 rfl (fun c => absurd c (nI_ge (b := y) (a := 64 - l) (by omega) (by omega))) (fun _ => ?_)
  refine x_iconst C 0 dL_law_426 rfl ?_
  refine x_goto C 432 dL_law_427 rfl ?_
  refine x_iadd C dL_law_432 ?_
  refine x_v (w := .int (nI l)) (congrArg Value.int (Int32.add_zero _)) ?_
  refine x_istore_n (L' := [(3, .int (nI l)), (8, .int (nI dn)), (7, .int 1), (13, .int (nI y)), (12, .int (nI z)), (10, .int (nI k)), (9, .int (nI sa)), (6, .int (nI (pF P))), (5, .int (pB P)), (4, .int (pL P)), (2, .ref (xB E + 56)), (1, .ref (xB E)), (0, .ref b)]) C dL_law_433 rfl rfl ?_
  refine x_goto C 732 dL_law_434 rfl ?_
  refine x_perm [5, 6, 1, 2, 7, 8, 9, 0, 10, 11, 12] rfl ?_
  exact kk _ _ _ _ h (by omega)
set_option maxRecDepth 100000 in
set_option maxHeartbeats 4000000 in
theorem l_giv2 {E : XE} {K : XK} (C : XC E K cL_law 19 RL ret 8 262 600000 7302250) {b : Nat} {P : TP} {G0 : GW} {u : QV} {w : Nat → Int32} {l sa dn k z y : Nat} (h : TQ P 3 u w l sa dn) (hd : dn ≤ 1000) (hz : z < 2 ^ 31) (hy : y = 1 + z % 20) (kk : ∀ u w l dn2, TQ P 3 u w l sa dn2 → dn ≤ dn2 ∧ dn2 ≤ dn + 1 → LX E K u w G0 732 (LM E b P l sa dn2 k) []) (hk : y ≤ 64 - l) : LX E K u w G0 340 ((12, .int (nI z)) :: LM E b P l sa dn k) [] := by
  have hl := h.1.2.1
  have hl1 := h.1.1
  obtain ⟨q1, q2⟩ := q_giv2 h (show 1 ≤ y by omega) (by omega) hk
  refine x_iconst C 1 dL_law_340 rfl ?_
  refine x_iload C dL_law_341 0 rfl ?_
  refine x_bipush C 20 dL_law_343 rfl ?_
  refine x_irem C dL_law_345 (by decide) ?_
  refine x_v (w := .int (nI (z % 20))) (congrArg Value.int (n_rm (n := 20) rfl (by omega) (by decide) hz)) ?_
  refine x_iadd C dL_law_346 ?_
  refine x_v (w := .int (nI (1 + z % 20))) (congrArg Value.int (natAdd (a := 1) rfl)) ?_
  rw [← hy]
  refine x_istore (L' := [(13, .int (nI y)), (12, .int (nI z)), (10, .int (nI k)), (9, .int (nI sa)), (8, .int (nI dn)), (7, .int 1), (6, .int (nI (pF P))), (5, .int (pB P)), (4, .int (pL P)), (3, .int (nI l)), (2, .ref (xB E + 56)), (1, .ref (xB E)), (0, .ref b)]) C dL_law_347 rfl rfl ?_
  refine x_bipush C 64 dL_law_349 rfl ?_
  refine x_iload_n C dL_law_351 9 rfl ?_
  refine x_isub C dL_law_352 ?_
  refine x_v (w := .int (nI (64 - l))) (congrArg Value.int (natSub (a := 64) (by omega))) ?_
  refine x_iload C dL_law_353 0 rfl ?_
  refine x_icmp_ge C 377 dL_law_355 rfl (fun _ => ?_) (fun c => absurd (nI_le (a := y) (b := 64 - l) (by omega) (by omega)) c)
  refine x_aload_n C dL_law_377 11 rfl ?_
  refine x_iload C dL_law_378 0 rfl ?_
  refine x_cV1 (As := [.int (nI y)]) C (k_giveBack (nI y) l h.1.2.2.1 h.1.2.1 q1 rfl) v_L_44 (Nat.le_add_right _ _) (Nat.le_refl _) (by omega) (ov_at (i := 0) rfl) rfl rfl rfl rfl rfl dL_law_380 ?_
  refine x_iload_n C dL_law_383 9 rfl ?_
  refine x_iload C dL_law_384 0 rfl ?_
  refine x_iadd C dL_law_386 ?_
  refine x_v (w := .int (nI (l + y))) (congrArg Value.int (nI_add _ _)) ?_
  refine x_icmp_ne C 394 dL_law_387 rfl (fun c => absurd (rfl) c) (fun _ => ?_)
  refine x_iconst C 1 dL_law_390 rfl ?_
  refine x_goto C 395 dL_law_391 rfl ?_
  refine x_istore (L' := [(7, .int 1), (13, .int (nI y)), (12, .int (nI z)), (10, .int (nI k)), (9, .int (nI sa)), (8, .int (nI dn)), (6, .int (nI (pF P))), (5, .int (pB P)), (4, .int (pL P)), (3, .int (nI l)), (2, .ref (xB E + 56)), (1, .ref (xB E)), (0, .ref b)]) C dL_law_395 rfl rfl ?_
  refine x_iload C dL_law_397 5 rfl ?_
  refine x_bipush C 64 dL_law_399 rfl ?_
  refine x_iload_n C dL_law_401 9 rfl ?_
  refine x_isub C dL_law_402 ?_
  refine x_v (w := .int (nI (64 - l))) (congrArg Value.int (natSub (a := 64) (by omega))) ?_
  refine x_iload C dL_law_403 1 rfl ?_
  refine x_icmp_ge C 412 dL_law_405 rfl (fun _ => ?_) (fun c => absurd (nI_le (a := y) (b := 64 - l) (by omega) (by omega)) c)
  refine x_iconst C 1 dL_law_412 rfl ?_
  refine x_iadd C dL_law_413 ?_
  refine x_v (w := .int (nI (dn + 1))) (congrArg Value.int ((nI_succ dn).symm)) ?_
  refine x_istore (L' := [(8, .int (nI (dn + 1))), (7, .int 1), (13, .int (nI y)), (12, .int (nI z)), (10, .int (nI k)), (9, .int (nI sa)), (6, .int (nI (pF P))), (5, .int (pB P)), (4, .int (pL P)), (3, .int (nI l)), (2, .ref (xB E + 56)), (1, .ref (xB E)), (0, .ref b)]) C dL_law_414 rfl rfl ?_
  refine x_iload_n C dL_law_416 9 rfl ?_
  refine x_bipush C 64 dL_law_417 rfl ?_
  refine x_iload_n C dL_law_419 9 rfl ?_
  refine x_isub C dL_law_420 ?_
  refine x_v (w := .int (nI (64 - l))) (congrArg Value.int (natSub (a := 64) (by omega))) ?_
  refine x_iload C dL_law_421 2 rfl ?_
  refine x_icmp_ge C 430 dL_law_423 rfl (fun _ => ?_) (fun c => absurd (nI_le (a := y) (b := 64 - l) (by omega) (by omega)) c)
  refine x_iload C dL_law_430 2 rfl ?_
  refine x_iadd C dL_law_432 ?_
  refine x_v (w := .int (nI (l + y))) (congrArg Value.int (nI_add _ _)) ?_
  refine x_istore_n (L' := [(3, .int (nI (l + y))), (8, .int (nI (dn + 1))), (7, .int 1), (13, .int (nI y)), (12, .int (nI z)), (10, .int (nI k)), (9, .int (nI sa)), (6, .int (nI (pF P))), (5, .int (pB P)), (4, .int (pL P)), (2, .ref (xB E + 56)), (1, .ref (xB E)), (0, .ref b)]) C dL_law_433 rfl rfl ?_
  refine x_goto C 732 dL_law_434 rfl ?_
  refine x_perm [5, 6, 1, 2, 7, 8, 9, 0, 10, 11, 12] rfl ?_
  exact kk _ _ _ _ q2 (by omega)
