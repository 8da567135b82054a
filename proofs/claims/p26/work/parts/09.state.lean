/-! ===== what the cells hold ===== -/
abbrev SV : Type := (Nat → Int32) × Int32 × Int32 × (Nat → Int32) × Int32 × Int32 × Int32 × Int32 × Int32 × Int32 × Int64 × (Nat → Int32) × (Nat → Int32) × Int32 × Int32 × Int32
/-- a state: words, first, length; row, next, kept; samples, greatest, held outputs, held words, sum; delays, gains; limit, shape, stolen -/
abbrev mkS (w : Nat → Int32) (fi le : Int32) (ro : Nat → Int32) (ne ke sa gr ho hw : Int32) (su : Int64) (de ga : Nat → Int32) (li sh sl : Int32) : SV := (w, fi, le, ro, ne, ke, sa, gr, ho, hw, su, de, ga, li, sh, sl)
abbrev vW (v : SV) : Nat → Int32 := v.1
abbrev vFi (v : SV) : Int32 := v.2.1
abbrev vLe (v : SV) : Int32 := v.2.2.1
abbrev vRo (v : SV) : Nat → Int32 := v.2.2.2.1
abbrev vNe (v : SV) : Int32 := v.2.2.2.2.1
abbrev vKe (v : SV) : Int32 := v.2.2.2.2.2.1
abbrev vSa (v : SV) : Int32 := v.2.2.2.2.2.2.1
abbrev vGr (v : SV) : Int32 := v.2.2.2.2.2.2.2.1
abbrev vHo (v : SV) : Int32 := v.2.2.2.2.2.2.2.2.1
abbrev vHw (v : SV) : Int32 := v.2.2.2.2.2.2.2.2.2.1
abbrev vSu (v : SV) : Int64 := v.2.2.2.2.2.2.2.2.2.2.1
abbrev vDe (v : SV) : Nat → Int32 := v.2.2.2.2.2.2.2.2.2.2.2.1
abbrev vGa (v : SV) : Nat → Int32 := v.2.2.2.2.2.2.2.2.2.2.2.2.1
abbrev vLi (v : SV) : Int32 := v.2.2.2.2.2.2.2.2.2.2.2.2.2.1
abbrev vSh (v : SV) : Int32 := v.2.2.2.2.2.2.2.2.2.2.2.2.2.2.1
abbrev vSl (v : SV) : Int32 := v.2.2.2.2.2.2.2.2.2.2.2.2.2.2.2
abbrev ia (E : XE) (n : Nat) (f : Nat → Int32) : va_E := .inl (xI E, n, .inl f)
def ringC (E : XE) (b : Nat) (w : Nat → Int32) (fi le : Int32) : List va_E := [.inr (5, [.ref (b + 1), .int fi, .int le]), ia E 64 w]
def outC (E : XE) (b : Nat) (ro : Nat → Int32) (ne ke : Int32) : List va_E := [.inr (4, [.ref (b + 1), .int ne, .int ke]), ia E 12 ro]
def metC (E : XE) (b : Nat) (sa gr ho hw : Int32) (su : Int64) : List va_E := [.inr (2, [.int sa, .int gr, .int ho, .int hw, .long su])]
def stC (E : XE) (b : Nat) (w : Nat → Int32) (fi le : Int32) (ro : Nat → Int32) (ne ke sa gr ho hw : Int32) (su : Int64) (de ga : Nat → Int32) (li sh sl : Int32) : List va_E :=
  .inr (6, [.ref (b + 1), .ref (b + 3), .ref (b + 5), .ref (b + 6), .ref (b + 7), .int li, .int sh, .int sl]) :: (ringC E (b + 1) w fi le ++ (outC E (b + 3) ro ne ke ++ (metC E (b + 5) sa gr ho hw su ++ [ia E 5 de, ia E 5 ga])))
def stT (E : XE) (b : Nat) (v : SV) : List va_E := stC E b (vW v) (vFi v) (vLe v) (vRo v) (vNe v) (vKe v) (vSa v) (vGr v) (vHo v) (vHw v) (vSu v) (vDe v) (vGa v) (vLi v) (vSh v) (vSl v)
def txtC (E : XE) (b : Nat) (ch : Nat → Int32) (tl : Int32) : List va_E := [.inr (7, [.ref (b + 1), .int tl]), ia E 60 ch]
def ordC (E : XE) (b : Nat) (nu : Nat → Int32) (ki en wh : Int32) : List va_E := [.inr (3, [.ref (b + 1), .int ki, .int en, .int wh]), ia E 3 nu]
def fltC (E : XE) (b : Nat) (ft fp fr fc : Int32) : List va_E := [.inr (0, [.int ft, .int fp, .int fr, .int fc])]
def toC (E : XE) (b : Nat) (ch : Nat → Int32) (tl : Int32) (nu : Nat → Int32) (ki en wh : Int32) : List va_E := txtC E b ch tl ++ ordC E (b + 2) nu ki en wh
def hArr (b : Nat) : Nat → Option Nat := fun i => if i = 0 then some b else if i = 1 then some (b + 8) else if i = 2 then some (b + 16) else if i = 3 then some (b + 24) else none
def hisC (E : XE) (b : Nat) (h0 h1 h2 h3 : SV) (ol ke : Int32) : List va_E := .inr (1, [.ref (b + 1), .int ol, .int ke]) :: .inl (xQ E, 4, .inr (.inr (.inr (.inr (hArr (b + 2)))))) :: (stT E (b + 2) h0 ++ (stT E (b + 10) h1 ++ (stT E (b + 18) h2 ++ stT E (b + 26) h3)))
def xC (E : XE) (b : Nat) (now trial h0 h1 h2 h3 : SV) (ol ke : Int32) (ch : Nat → Int32) (tl : Int32) (nu : Nat → Int32) (ki en wh ft fp fr fc : Int32) : List va_E :=
  .inr (8, [.ref (b + 1), .ref (b + 9), .ref (b + 17), .ref (b + 51), .ref (b + 53), .ref (b + 55)]) :: (stT E (b + 1) now ++ (stT E (b + 9) trial ++ (hisC E (b + 17) h0 h1 h2 h3 ol ke ++ (txtC E (b + 51) ch tl ++ (ordC E (b + 53) nu ki en wh ++ fltC E (b + 55) ft fp fr fc)))))
theorem xlo {E : XE} {b i : Nat} (h : xB E ≤ b) : xB E ≤ b + i := Nat.le_trans h (Nat.le_add_right b i)
theorem xhi {b N n i : Nat} (h : b + n ≤ N) (hi : Nat.blt i n = true) : b + i < N := Nat.lt_of_lt_of_le (Nat.add_lt_add_left (Nat.le_of_ble_eq_true hi) b) h
theorem xhn {b N n m i : Nat} (h : b + m ≤ N) (hi : Nat.ble (i + n) m = true) : b + i + n ≤ N := by have := Nat.le_of_ble_eq_true hi; omega
/-! contracts over a slice of a world -/
theorem MF.sliceR {E : XE} {y : MethodName} {cc : ByteArray} {maxL : Nat} {ret : Option FieldType} {fr lo mc ms : Nat} {As : List Value} {N b i n : Nat} {cs sub : List va_E} {G : GW} {res : Option Value} (h1 : (cs.drop i).take n = sub) (hM : MF E y cc maxL ret fr lo mc ms As N (ov (b + i) sub (ov b cs G)) res (ov (b + i) sub (ov b cs G))) : MF E y cc maxL ret fr lo mc ms As N (ov b cs G) res (ov b cs G) := by
  rw [ov_slice h1] at hM
  exact hM
theorem MF.slice {E : XE} {y : MethodName} {cc : ByteArray} {maxL : Nat} {ret : Option FieldType} {fr lo mc ms : Nat} {As : List Value} {N b i n : Nat} {cs sub sub' cs' : List va_E} {G : GW} {res : Option Value} (h1 : (cs.drop i).take n = sub) (h2 : sub'.length = n) (h3 : i + n ≤ cs.length) (h4 : cs.take i ++ (sub' ++ cs.drop (i + n)) = cs') (hM : MF E y cc maxL ret fr lo mc ms As N (ov (b + i) sub (ov b cs G)) res (ov (b + i) sub' (ov b cs G))) : MF E y cc maxL ret fr lo mc ms As N (ov b cs G) res (ov b cs' G) := by
  rw [ov_slice h1, ov_paste h2 h3 h4] at hM
  exact hM
theorem MF.slice2s {E : XE} {y : MethodName} {cc : ByteArray} {maxL : Nat} {ret : Option FieldType} {fr lo mc ms : Nat} {As : List Value} {N b i j n k : Nat} {cs sub sub' tub cs' : List va_E} {G : GW} {res : Option Value} (h1 : (cs.drop i).take n = sub) (h5 : (cs.drop j).take k = tub) (h2 : sub'.length = n) (h3 : i + n ≤ cs.length) (h4 : cs.take i ++ (sub' ++ cs.drop (i + n)) = cs') (hM : MF E y cc maxL ret fr lo mc ms As N (ov (b + i) sub (ov (b + j) tub (ov b cs G))) res (ov (b + i) sub' (ov (b + j) tub (ov b cs G)))) : MF E y cc maxL ret fr lo mc ms As N (ov b cs G) res (ov b cs' G) := by
  rw [ov_slice h5, ov_slice h1, ov_paste h2 h3 h4] at hM
  exact hM
theorem MF.slice2 {E : XE} {y : MethodName} {cc : ByteArray} {maxL : Nat} {ret : Option FieldType} {fr lo mc ms : Nat} {As : List Value} {N a b i j n k p : Nat} {cs ds sub sub' tub cs' : List va_E} {G : GW} {res : Option Value} (h1 : (cs.drop i).take n = sub) (h5 : (ds.drop j).take k = tub) (ht : tub.length = k) (hp : cs.length = p) (h2 : sub'.length = n) (h3 : i + n ≤ cs.length) (h4 : cs.take i ++ (sub' ++ cs.drop (i + n)) = cs') (hd : a + p ≤ b + j ∨ b + j + k ≤ a) (hM : MF E y cc maxL ret fr lo mc ms As N (ov (a + i) sub (ov (b + j) tub (ov a cs (ov b ds G)))) res (ov (a + i) sub' (ov (b + j) tub (ov a cs (ov b ds G))))) : MF E y cc maxL ret fr lo mc ms As N (ov a cs (ov b ds G)) res (ov a cs' (ov b ds G)) := by
  have e : ov (b + j) tub (ov a cs (ov b ds G)) = ov a cs (ov b ds G) := by
    rw [← ov_comm hp ht hd, ov_slice h5]
  rw [e, ov_slice h1, ov_paste h2 h3 h4] at hM
  exact hM
theorem x_cV0 {E : XE} {K : XK} {nL N cells slots : Nat} {G : GW} {pc : Nat} {L : List (Nat × Value)} {st : List Value} {cc : ByteArray} {own : String} {ret : Option FieldType} {fr lo mc ms : Nat} (C : XC E K cc nL own ret fr lo mc ms) {index b ci n n2 : Nat} {y : MethodName} {bytes : ByteArray} {maxL' : Nat} {ret' : Option FieldType} {fr' lo' : Nat} {As : List Value} {G' : GW} {st0 : List Value} {fs : List Value} {T1 : u_T} (hM : MF E y bytes maxL' ret' fr' lo' 0 0 (.ref b :: As) N G none G') (hl : XV own index y bytes maxL' ret' n) (hN : xB E ≤ N) (hb1 : xB E ≤ b) (hb2 : b < N) (he : G b = .inr (ci, fs)) (hc : vwCl[ci]? = some (y.cls, T1, n2)) (hR9 : XR fr lo mc ms cells slots fr' lo' maxL' 0 0 = true) (hn : As.length = n) (hw : Nat.ble ((st.map fun v => v.category).sum) 8 = true) (hst : st0 = As.reverse ++ .ref b :: st) (hd : decode cc pc = .ok (.invokevirtual index, 3)) (k : XW E K nL N cells slots G' (pc + 3) L st) : XW E K nL N cells slots G pc L st0 := x_callV C hM hl hN hb1 hb2 he hc hR9 hn hw hst hd k
theorem x_cV1 {E : XE} {K : XK} {nL N cells slots : Nat} {G : GW} {pc : Nat} {L : List (Nat × Value)} {st : List Value} {cc : ByteArray} {own : String} {ret : Option FieldType} {fr lo mc ms : Nat} (C : XC E K cc nL own ret fr lo mc ms) {v : Value} {index b ci n n2 : Nat} {y : MethodName} {bytes : ByteArray} {maxL' : Nat} {ret' : Option FieldType} {fr' lo' : Nat} {As : List Value} {G' : GW} {st0 : List Value} {fs : List Value} {T1 : u_T} (hM : MF E y bytes maxL' ret' fr' lo' 0 0 (.ref b :: As) N G (some v) G') (hl : XV own index y bytes maxL' ret' n) (hN : xB E ≤ N) (hb1 : xB E ≤ b) (hb2 : b < N) (he : G b = .inr (ci, fs)) (hc : vwCl[ci]? = some (y.cls, T1, n2)) (hR9 : XR fr lo mc ms cells slots fr' lo' maxL' 0 0 = true) (hn : As.length = n) (hw : Nat.ble ((st.map fun v => v.category).sum) 8 = true) (hst : st0 = As.reverse ++ .ref b :: st) (hd : decode cc pc = .ok (.invokevirtual index, 3)) (k : XW E K nL N cells slots G' (pc + 3) L (v :: st)) : XW E K nL N cells slots G pc L st0 := x_callV C hM hl hN hb1 hb2 he hc hR9 hn hw hst hd k
theorem x_cS0 {E : XE} {K : XK} {nL N cells slots : Nat} {G : GW} {pc : Nat} {L : List (Nat × Value)} {st : List Value} {cc : ByteArray} {own : String} {ret : Option FieldType} {fr lo mc ms : Nat} (C : XC E K cc nL own ret fr lo mc ms) {index n : Nat} {y : MethodName} {bytes : ByteArray} {maxL' : Nat} {ret' : Option FieldType} {fr' lo' : Nat} {As : List Value} {G' : GW} {st0 : List Value} (hM : MF E y bytes maxL' ret' fr' lo' 0 0 As N G none G') (hl : XS own index y bytes maxL' ret' n) (hN : xB E ≤ N) (hR9 : XR fr lo mc ms cells slots fr' lo' maxL' 0 0 = true) (hn : As.length = n) (hw : Nat.ble ((st.map fun v => v.category).sum) 8 = true) (hst : st0 = As.reverse ++ st) (hd : decode cc pc = .ok (.invokestatic index, 3)) (k : XW E K nL N cells slots G' (pc + 3) L st) : XW E K nL N cells slots G pc L st0 := x_callS C hM hl hN hR9 hn hw hst hd k
theorem x_cS1 {E : XE} {K : XK} {nL N cells slots : Nat} {G : GW} {pc : Nat} {L : List (Nat × Value)} {st : List Value} {cc : ByteArray} {own : String} {ret : Option FieldType} {fr lo mc ms : Nat} (C : XC E K cc nL own ret fr lo mc ms) {v : Value} {index n : Nat} {y : MethodName} {bytes : ByteArray} {maxL' : Nat} {ret' : Option FieldType} {fr' lo' : Nat} {As : List Value} {G' : GW} {st0 : List Value} (hM : MF E y bytes maxL' ret' fr' lo' 0 0 As N G (some v) G') (hl : XS own index y bytes maxL' ret' n) (hN : xB E ≤ N) (hR9 : XR fr lo mc ms cells slots fr' lo' maxL' 0 0 = true) (hn : As.length = n) (hw : Nat.ble ((st.map fun v => v.category).sum) 8 = true) (hst : st0 = As.reverse ++ st) (hd : decode cc pc = .ok (.invokestatic index, 3)) (k : XW E K nL N cells slots G' (pc + 3) L (v :: st)) : XW E K nL N cells slots G pc L st0 := x_callS C hM hl hN hR9 hn hw hst hd k
theorem x_cSN0 {E : XE} {K : XK} {nL N cells slots : Nat} {G : GW} {pc : Nat} {L : List (Nat × Value)} {st : List Value} {cc : ByteArray} {own : String} {ret : Option FieldType} {fr lo mc ms : Nat} (C : XC E K cc nL own ret fr lo mc ms) {index n : Nat} {y : MethodName} {bytes : ByteArray} {maxL' : Nat} {ret' : Option FieldType} {fr' lo' : Nat} {As : List Value} {G' : GW} {st0 : List Value} {host : String} (hM : MF E y bytes maxL' ret' fr' lo' 0 0 As N G none G') (hl : XSN own index y host bytes maxL' ret' n) (hN : xB E ≤ N) (hR9 : XR fr lo mc ms cells slots fr' lo' maxL' 0 0 = true) (hn : As.length = n) (hw : Nat.ble ((st.map fun v => v.category).sum) 8 = true) (hst : st0 = As.reverse ++ st) (hd : decode cc pc = .ok (.invokestatic index, 3)) (k : XW E K nL N cells slots G' (pc + 3) L st) : XW E K nL N cells slots G pc L st0 := x_callSN C hM hl hN hR9 hn hw hst hd k
theorem x_cSN1 {E : XE} {K : XK} {nL N cells slots : Nat} {G : GW} {pc : Nat} {L : List (Nat × Value)} {st : List Value} {cc : ByteArray} {own : String} {ret : Option FieldType} {fr lo mc ms : Nat} (C : XC E K cc nL own ret fr lo mc ms) {v : Value} {index n : Nat} {y : MethodName} {bytes : ByteArray} {maxL' : Nat} {ret' : Option FieldType} {fr' lo' : Nat} {As : List Value} {G' : GW} {st0 : List Value} {host : String} (hM : MF E y bytes maxL' ret' fr' lo' 0 0 As N G (some v) G') (hl : XSN own index y host bytes maxL' ret' n) (hN : xB E ≤ N) (hR9 : XR fr lo mc ms cells slots fr' lo' maxL' 0 0 = true) (hn : As.length = n) (hw : Nat.ble ((st.map fun v => v.category).sum) 8 = true) (hst : st0 = As.reverse ++ st) (hd : decode cc pc = .ok (.invokestatic index, 3)) (k : XW E K nL N cells slots G' (pc + 3) L (v :: st)) : XW E K nL N cells slots G pc L st0 := x_callSN C hM hl hN hR9 hn hw hst hd k
def bI (b : Bool) : Int32 := if b = true then 1 else 0
theorem x_t_if_eq {E : XE} {K : XK} {nL N cells slots : Nat} {G : GW} {pc : Nat} {L : List (Nat × Value)} {st : List Value} {cc : ByteArray} {own : String} {ret : Option FieldType} {fr lo mc ms : Nat} (C : XC E K cc nL own ret fr lo mc ms) {x : Int32} {off off2 : Int} {na nb : Int} (t1 t2 : Nat) (va vb : Int32) (hd : decode cc pc = .ok (.ifCond .eq off, 3)) (ht : (pc : Int) + off = (t1 : Int)) (d2 : decode cc (pc + 3) = .ok (.iconst na, 1)) (hva : Int32.ofInt na = va) (d3 : decode cc (pc + 3 + 1) = .ok (.goto off2, 3)) (ht2 : ((pc + 3 + 1 : Nat) : Int) + off2 = (t2 : Int)) (d4 : decode cc t1 = .ok (.iconst nb, 1)) (hvb : Int32.ofInt nb = vb) (hm : t1 + 1 = t2) (k : XW E K nL N cells slots G t2 L (.int (if x = 0 then vb else va) :: st)) : XW E K nL N cells slots G pc L (.int x :: st) := by
  subst hm
  refine x_if_eq C t1 hd ht (fun c => ?_) (fun c => ?_)
  · refine x_iconst C vb d4 hvb (x_v ?_ k)
    rw [if_pos c]
  · refine x_iconst C va d2 hva (x_goto C (t1 + 1) d3 ht2 (x_v ?_ k))
    rw [if_neg c]
theorem x_t_icmp_eq {E : XE} {K : XK} {nL N cells slots : Nat} {G : GW} {pc : Nat} {L : List (Nat × Value)} {st : List Value} {cc : ByteArray} {own : String} {ret : Option FieldType} {fr lo mc ms : Nat} (C : XC E K cc nL own ret fr lo mc ms) {x y : Int32} {off off2 : Int} {na nb : Int} (t1 t2 : Nat) (va vb : Int32) (hd : decode cc pc = .ok (.if_icmp .eq off, 3)) (ht : (pc : Int) + off = (t1 : Int)) (d2 : decode cc (pc + 3) = .ok (.iconst na, 1)) (hva : Int32.ofInt na = va) (d3 : decode cc (pc + 3 + 1) = .ok (.goto off2, 3)) (ht2 : ((pc + 3 + 1 : Nat) : Int) + off2 = (t2 : Int)) (d4 : decode cc t1 = .ok (.iconst nb, 1)) (hvb : Int32.ofInt nb = vb) (hm : t1 + 1 = t2) (k : XW E K nL N cells slots G t2 L (.int (if x = y then vb else va) :: st)) : XW E K nL N cells slots G pc L (.int y :: .int x :: st) := by
  subst hm
  refine x_icmp_eq C t1 hd ht (fun c => ?_) (fun c => ?_)
  · refine x_iconst C vb d4 hvb (x_v ?_ k)
    rw [if_pos c]
  · refine x_iconst C va d2 hva (x_goto C (t1 + 1) d3 ht2 (x_v ?_ k))
    rw [if_neg c]
theorem x_t_if_ne {E : XE} {K : XK} {nL N cells slots : Nat} {G : GW} {pc : Nat} {L : List (Nat × Value)} {st : List Value} {cc : ByteArray} {own : String} {ret : Option FieldType} {fr lo mc ms : Nat} (C : XC E K cc nL own ret fr lo mc ms) {x : Int32} {off off2 : Int} {na nb : Int} (t1 t2 : Nat) (va vb : Int32) (hd : decode cc pc = .ok (.ifCond .ne off, 3)) (ht : (pc : Int) + off = (t1 : Int)) (d2 : decode cc (pc + 3) = .ok (.iconst na, 1)) (hva : Int32.ofInt na = va) (d3 : decode cc (pc + 3 + 1) = .ok (.goto off2, 3)) (ht2 : ((pc + 3 + 1 : Nat) : Int) + off2 = (t2 : Int)) (d4 : decode cc t1 = .ok (.iconst nb, 1)) (hvb : Int32.ofInt nb = vb) (hm : t1 + 1 = t2) (k : XW E K nL N cells slots G t2 L (.int (if ¬ x = 0 then vb else va) :: st)) : XW E K nL N cells slots G pc L (.int x :: st) := by
  subst hm
  refine x_if_ne C t1 hd ht (fun c => ?_) (fun c => ?_)
  · refine x_iconst C vb d4 hvb (x_v ?_ k)
    rw [if_pos c]
  · refine x_iconst C va d2 hva (x_goto C (t1 + 1) d3 ht2 (x_v ?_ k))
    rw [if_neg (fun h => h c)]
theorem x_t_icmp_ne {E : XE} {K : XK} {nL N cells slots : Nat} {G : GW} {pc : Nat} {L : List (Nat × Value)} {st : List Value} {cc : ByteArray} {own : String} {ret : Option FieldType} {fr lo mc ms : Nat} (C : XC E K cc nL own ret fr lo mc ms) {x y : Int32} {off off2 : Int} {na nb : Int} (t1 t2 : Nat) (va vb : Int32) (hd : decode cc pc = .ok (.if_icmp .ne off, 3)) (ht : (pc : Int) + off = (t1 : Int)) (d2 : decode cc (pc + 3) = .ok (.iconst na, 1)) (hva : Int32.ofInt na = va) (d3 : decode cc (pc + 3 + 1) = .ok (.goto off2, 3)) (ht2 : ((pc + 3 + 1 : Nat) : Int) + off2 = (t2 : Int)) (d4 : decode cc t1 = .ok (.iconst nb, 1)) (hvb : Int32.ofInt nb = vb) (hm : t1 + 1 = t2) (k : XW E K nL N cells slots G t2 L (.int (if ¬ x = y then vb else va) :: st)) : XW E K nL N cells slots G pc L (.int y :: .int x :: st) := by
  subst hm
  refine x_icmp_ne C t1 hd ht (fun c => ?_) (fun c => ?_)
  · refine x_iconst C vb d4 hvb (x_v ?_ k)
    rw [if_pos c]
  · refine x_iconst C va d2 hva (x_goto C (t1 + 1) d3 ht2 (x_v ?_ k))
    rw [if_neg (fun h => h c)]
theorem x_t_if_lt {E : XE} {K : XK} {nL N cells slots : Nat} {G : GW} {pc : Nat} {L : List (Nat × Value)} {st : List Value} {cc : ByteArray} {own : String} {ret : Option FieldType} {fr lo mc ms : Nat} (C : XC E K cc nL own ret fr lo mc ms) {x : Int32} {off off2 : Int} {na nb : Int} (t1 t2 : Nat) (va vb : Int32) (hd : decode cc pc = .ok (.ifCond .lt off, 3)) (ht : (pc : Int) + off = (t1 : Int)) (d2 : decode cc (pc + 3) = .ok (.iconst na, 1)) (hva : Int32.ofInt na = va) (d3 : decode cc (pc + 3 + 1) = .ok (.goto off2, 3)) (ht2 : ((pc + 3 + 1 : Nat) : Int) + off2 = (t2 : Int)) (d4 : decode cc t1 = .ok (.iconst nb, 1)) (hvb : Int32.ofInt nb = vb) (hm : t1 + 1 = t2) (k : XW E K nL N cells slots G t2 L (.int (if x < 0 then vb else va) :: st)) : XW E K nL N cells slots G pc L (.int x :: st) := by
  subst hm
  refine x_if_lt C t1 hd ht (fun c => ?_) (fun c => ?_)
  · refine x_iconst C vb d4 hvb (x_v ?_ k)
    rw [if_pos c]
  · refine x_iconst C va d2 hva (x_goto C (t1 + 1) d3 ht2 (x_v ?_ k))
    rw [if_neg c]
theorem x_t_icmp_lt {E : XE} {K : XK} {nL N cells slots : Nat} {G : GW} {pc : Nat} {L : List (Nat × Value)} {st : List Value} {cc : ByteArray} {own : String} {ret : Option FieldType} {fr lo mc ms : Nat} (C : XC E K cc nL own ret fr lo mc ms) {x y : Int32} {off off2 : Int} {na nb : Int} (t1 t2 : Nat) (va vb : Int32) (hd : decode cc pc = .ok (.if_icmp .lt off, 3)) (ht : (pc : Int) + off = (t1 : Int)) (d2 : decode cc (pc + 3) = .ok (.iconst na, 1)) (hva : Int32.ofInt na = va) (d3 : decode cc (pc + 3 + 1) = .ok (.goto off2, 3)) (ht2 : ((pc + 3 + 1 : Nat) : Int) + off2 = (t2 : Int)) (d4 : decode cc t1 = .ok (.iconst nb, 1)) (hvb : Int32.ofInt nb = vb) (hm : t1 + 1 = t2) (k : XW E K nL N cells slots G t2 L (.int (if x < y then vb else va) :: st)) : XW E K nL N cells slots G pc L (.int y :: .int x :: st) := by
  subst hm
  refine x_icmp_lt C t1 hd ht (fun c => ?_) (fun c => ?_)
  · refine x_iconst C vb d4 hvb (x_v ?_ k)
    rw [if_pos c]
  · refine x_iconst C va d2 hva (x_goto C (t1 + 1) d3 ht2 (x_v ?_ k))
    rw [if_neg c]
theorem x_t_if_ge {E : XE} {K : XK} {nL N cells slots : Nat} {G : GW} {pc : Nat} {L : List (Nat × Value)} {st : List Value} {cc : ByteArray} {own : String} {ret : Option FieldType} {fr lo mc ms : Nat} (C : XC E K cc nL own ret fr lo mc ms) {x : Int32} {off off2 : Int} {na nb : Int} (t1 t2 : Nat) (va vb : Int32) (hd : decode cc pc = .ok (.ifCond .ge off, 3)) (ht : (pc : Int) + off = (t1 : Int)) (d2 : decode cc (pc + 3) = .ok (.iconst na, 1)) (hva : Int32.ofInt na = va) (d3 : decode cc (pc + 3 + 1) = .ok (.goto off2, 3)) (ht2 : ((pc + 3 + 1 : Nat) : Int) + off2 = (t2 : Int)) (d4 : decode cc t1 = .ok (.iconst nb, 1)) (hvb : Int32.ofInt nb = vb) (hm : t1 + 1 = t2) (k : XW E K nL N cells slots G t2 L (.int (if 0 ≤ x then vb else va) :: st)) : XW E K nL N cells slots G pc L (.int x :: st) := by
  subst hm
  refine x_if_ge C t1 hd ht (fun c => ?_) (fun c => ?_)
  · refine x_iconst C vb d4 hvb (x_v ?_ k)
    rw [if_pos c]
  · refine x_iconst C va d2 hva (x_goto C (t1 + 1) d3 ht2 (x_v ?_ k))
    rw [if_neg c]
theorem x_t_icmp_ge {E : XE} {K : XK} {nL N cells slots : Nat} {G : GW} {pc : Nat} {L : List (Nat × Value)} {st : List Value} {cc : ByteArray} {own : String} {ret : Option FieldType} {fr lo mc ms : Nat} (C : XC E K cc nL own ret fr lo mc ms) {x y : Int32} {off off2 : Int} {na nb : Int} (t1 t2 : Nat) (va vb : Int32) (hd : decode cc pc = .ok (.if_icmp .ge off, 3)) (ht : (pc : Int) + off = (t1 : Int)) (d2 : decode cc (pc + 3) = .ok (.iconst na, 1)) (hva : Int32.ofInt na = va) (d3 : decode cc (pc + 3 + 1) = .ok (.goto off2, 3)) (ht2 : ((pc + 3 + 1 : Nat) : Int) + off2 = (t2 : Int)) (d4 : decode cc t1 = .ok (.iconst nb, 1)) (hvb : Int32.ofInt nb = vb) (hm : t1 + 1 = t2) (k : XW E K nL N cells slots G t2 L (.int (if y ≤ x then vb else va) :: st)) : XW E K nL N cells slots G pc L (.int y :: .int x :: st) := by
  subst hm
  refine x_icmp_ge C t1 hd ht (fun c => ?_) (fun c => ?_)
  · refine x_iconst C vb d4 hvb (x_v ?_ k)
    rw [if_pos c]
  · refine x_iconst C va d2 hva (x_goto C (t1 + 1) d3 ht2 (x_v ?_ k))
    rw [if_neg c]
theorem x_t_if_gt {E : XE} {K : XK} {nL N cells slots : Nat} {G : GW} {pc : Nat} {L : List (Nat × Value)} {st : List Value} {cc : ByteArray} {own : String} {ret : Option FieldType} {fr lo mc ms : Nat} (C : XC E K cc nL own ret fr lo mc ms) {x : Int32} {off off2 : Int} {na nb : Int} (t1 t2 : Nat) (va vb : Int32) (hd : decode cc pc = .ok (.ifCond .gt off, 3)) (ht : (pc : Int) + off = (t1 : Int)) (d2 : decode cc (pc + 3) = .ok (.iconst na, 1)) (hva : Int32.ofInt na = va) (d3 : decode cc (pc + 3 + 1) = .ok (.goto off2, 3)) (ht2 : ((pc + 3 + 1 : Nat) : Int) + off2 = (t2 : Int)) (d4 : decode cc t1 = .ok (.iconst nb, 1)) (hvb : Int32.ofInt nb = vb) (hm : t1 + 1 = t2) (k : XW E K nL N cells slots G t2 L (.int (if 0 < x then vb else va) :: st)) : XW E K nL N cells slots G pc L (.int x :: st) := by
  subst hm
  refine x_if_gt C t1 hd ht (fun c => ?_) (fun c => ?_)
  · refine x_iconst C vb d4 hvb (x_v ?_ k)
    rw [if_pos c]
  · refine x_iconst C va d2 hva (x_goto C (t1 + 1) d3 ht2 (x_v ?_ k))
    rw [if_neg c]
theorem x_t_icmp_gt {E : XE} {K : XK} {nL N cells slots : Nat} {G : GW} {pc : Nat} {L : List (Nat × Value)} {st : List Value} {cc : ByteArray} {own : String} {ret : Option FieldType} {fr lo mc ms : Nat} (C : XC E K cc nL own ret fr lo mc ms) {x y : Int32} {off off2 : Int} {na nb : Int} (t1 t2 : Nat) (va vb : Int32) (hd : decode cc pc = .ok (.if_icmp .gt off, 3)) (ht : (pc : Int) + off = (t1 : Int)) (d2 : decode cc (pc + 3) = .ok (.iconst na, 1)) (hva : Int32.ofInt na = va) (d3 : decode cc (pc + 3 + 1) = .ok (.goto off2, 3)) (ht2 : ((pc + 3 + 1 : Nat) : Int) + off2 = (t2 : Int)) (d4 : decode cc t1 = .ok (.iconst nb, 1)) (hvb : Int32.ofInt nb = vb) (hm : t1 + 1 = t2) (k : XW E K nL N cells slots G t2 L (.int (if y < x then vb else va) :: st)) : XW E K nL N cells slots G pc L (.int y :: .int x :: st) := by
  subst hm
  refine x_icmp_gt C t1 hd ht (fun c => ?_) (fun c => ?_)
  · refine x_iconst C vb d4 hvb (x_v ?_ k)
    rw [if_pos c]
  · refine x_iconst C va d2 hva (x_goto C (t1 + 1) d3 ht2 (x_v ?_ k))
    rw [if_neg c]
theorem x_t_if_le {E : XE} {K : XK} {nL N cells slots : Nat} {G : GW} {pc : Nat} {L : List (Nat × Value)} {st : List Value} {cc : ByteArray} {own : String} {ret : Option FieldType} {fr lo mc ms : Nat} (C : XC E K cc nL own ret fr lo mc ms) {x : Int32} {off off2 : Int} {na nb : Int} (t1 t2 : Nat) (va vb : Int32) (hd : decode cc pc = .ok (.ifCond .le off, 3)) (ht : (pc : Int) + off = (t1 : Int)) (d2 : decode cc (pc + 3) = .ok (.iconst na, 1)) (hva : Int32.ofInt na = va) (d3 : decode cc (pc + 3 + 1) = .ok (.goto off2, 3)) (ht2 : ((pc + 3 + 1 : Nat) : Int) + off2 = (t2 : Int)) (d4 : decode cc t1 = .ok (.iconst nb, 1)) (hvb : Int32.ofInt nb = vb) (hm : t1 + 1 = t2) (k : XW E K nL N cells slots G t2 L (.int (if x ≤ 0 then vb else va) :: st)) : XW E K nL N cells slots G pc L (.int x :: st) := by
  subst hm
  refine x_if_le C t1 hd ht (fun c => ?_) (fun c => ?_)
  · refine x_iconst C vb d4 hvb (x_v ?_ k)
    rw [if_pos c]
  · refine x_iconst C va d2 hva (x_goto C (t1 + 1) d3 ht2 (x_v ?_ k))
    rw [if_neg c]
theorem x_t_icmp_le {E : XE} {K : XK} {nL N cells slots : Nat} {G : GW} {pc : Nat} {L : List (Nat × Value)} {st : List Value} {cc : ByteArray} {own : String} {ret : Option FieldType} {fr lo mc ms : Nat} (C : XC E K cc nL own ret fr lo mc ms) {x y : Int32} {off off2 : Int} {na nb : Int} (t1 t2 : Nat) (va vb : Int32) (hd : decode cc pc = .ok (.if_icmp .le off, 3)) (ht : (pc : Int) + off = (t1 : Int)) (d2 : decode cc (pc + 3) = .ok (.iconst na, 1)) (hva : Int32.ofInt na = va) (d3 : decode cc (pc + 3 + 1) = .ok (.goto off2, 3)) (ht2 : ((pc + 3 + 1 : Nat) : Int) + off2 = (t2 : Int)) (d4 : decode cc t1 = .ok (.iconst nb, 1)) (hvb : Int32.ofInt nb = vb) (hm : t1 + 1 = t2) (k : XW E K nL N cells slots G t2 L (.int (if x ≤ y then vb else va) :: st)) : XW E K nL N cells slots G pc L (.int y :: .int x :: st) := by
  subst hm
  refine x_icmp_le C t1 hd ht (fun c => ?_) (fun c => ?_)
  · refine x_iconst C vb d4 hvb (x_v ?_ k)
    rw [if_pos c]
  · refine x_iconst C va d2 hva (x_goto C (t1 + 1) d3 ht2 (x_v ?_ k))
    rw [if_neg c]
theorem x_ifb_eq {E : XE} {K : XK} {nL N cells slots : Nat} {G : GW} {pc : Nat} {L : List (Nat × Value)} {st : List Value} {cc : ByteArray} {own : String} {ret : Option FieldType} {fr lo mc ms : Nat} (C : XC E K cc nL own ret fr lo mc ms) {x : Bool} {off : Int} (tgt : Nat) (hd : decode cc pc = .ok (.ifCond .eq off, 3)) (ht : (pc : Int) + off = (tgt : Int)) (kt : x = false → XW E K nL N cells slots G tgt L st) (kf : x = true → XW E K nL N cells slots G (pc + 3) L st) : XW E K nL N cells slots G pc L (.int (bI x) :: st) := by
  cases x
  · exact x_if_eq C tgt hd ht (fun _ => kt rfl) (fun c => absurd rfl c)
  · exact x_if_eq C tgt hd ht (fun c => absurd c (by decide)) (fun _ => kf rfl)
theorem x_ifb_ne {E : XE} {K : XK} {nL N cells slots : Nat} {G : GW} {pc : Nat} {L : List (Nat × Value)} {st : List Value} {cc : ByteArray} {own : String} {ret : Option FieldType} {fr lo mc ms : Nat} (C : XC E K cc nL own ret fr lo mc ms) {x : Bool} {off : Int} (tgt : Nat) (hd : decode cc pc = .ok (.ifCond .ne off, 3)) (ht : (pc : Int) + off = (tgt : Int)) (kt : x = true → XW E K nL N cells slots G tgt L st) (kf : x = false → XW E K nL N cells slots G (pc + 3) L st) : XW E K nL N cells slots G pc L (.int (bI x) :: st) := by
  cases x
  · exact x_if_ne C tgt hd ht (fun c => absurd rfl c) (fun _ => kf rfl)
  · exact x_if_ne C tgt hd ht (fun _ => kt rfl) (fun c => absurd c (by decide))
theorem x_tb_eq {E : XE} {K : XK} {nL N cells slots : Nat} {G : GW} {pc : Nat} {L : List (Nat × Value)} {st : List Value} {cc : ByteArray} {own : String} {ret : Option FieldType} {fr lo mc ms : Nat} (C : XC E K cc nL own ret fr lo mc ms) {x : Bool} {off off2 : Int} (t1 t2 : Nat) (hd : decode cc pc = .ok (.ifCond .eq off, 3)) (ht : (pc : Int) + off = (t1 : Int)) (d2 : decode cc (pc + 3) = .ok (.iconst 1, 1)) (d3 : decode cc (pc + 3 + 1) = .ok (.goto off2, 3)) (ht2 : ((pc + 3 + 1 : Nat) : Int) + off2 = (t2 : Int)) (d4 : decode cc t1 = .ok (.iconst 0, 1)) (hm : t1 + 1 = t2) (k : XW E K nL N cells slots G t2 L (.int (bI x) :: st)) : XW E K nL N cells slots G pc L (.int (bI x) :: st) := by
  subst hm
  refine x_ifb_eq C t1 hd ht (fun c => ?_) (fun c => ?_)
  · subst c
    exact x_iconst C 0 d4 rfl k
  · subst c
    exact x_iconst C 1 d2 rfl (x_goto C (t1 + 1) d3 ht2 k)
theorem x_tb_ne {E : XE} {K : XK} {nL N cells slots : Nat} {G : GW} {pc : Nat} {L : List (Nat × Value)} {st : List Value} {cc : ByteArray} {own : String} {ret : Option FieldType} {fr lo mc ms : Nat} (C : XC E K cc nL own ret fr lo mc ms) {x : Bool} {off off2 : Int} (t1 t2 : Nat) (hd : decode cc pc = .ok (.ifCond .ne off, 3)) (ht : (pc : Int) + off = (t1 : Int)) (d2 : decode cc (pc + 3) = .ok (.iconst 0, 1)) (d3 : decode cc (pc + 3 + 1) = .ok (.goto off2, 3)) (ht2 : ((pc + 3 + 1 : Nat) : Int) + off2 = (t2 : Int)) (d4 : decode cc t1 = .ok (.iconst 1, 1)) (hm : t1 + 1 = t2) (k : XW E K nL N cells slots G t2 L (.int (bI x) :: st)) : XW E K nL N cells slots G pc L (.int (bI x) :: st) := by
  subst hm
  refine x_ifb_ne C t1 hd ht (fun c => ?_) (fun c => ?_)
  · subst c
    exact x_iconst C 1 d4 rfl k
  · subst c
    exact x_iconst C 0 d2 rfl (x_goto C (t1 + 1) d3 ht2 k)
theorem vp_in_lt {x M : Int32} {n : Nat} (hM : M.toInt = n) (h1 : ¬ x < 0) (h2 : ¬ M ≤ x) : vp_in x n := by
  rw [vp_in_iff]
  have a : ¬ x.toInt < (0 : Int32).toInt := fun h => h1 (Int32.lt_iff_toInt_lt.mpr h)
  have b : ¬ M.toInt ≤ x.toInt := fun h => h2 (Int32.le_iff_toInt_le.mpr h)
  rw [hM] at b
  have z : (0 : Int32).toInt = 0 := rfl
  rw [z] at a
  omega
theorem vp_in_and63 (x : Int32) : vp_in (x &&& 63) 64 := pk_andIn x 6 (by decide) (by decide)
def iabs (x : Int32) : Int32 := if 0 ≤ x then x else 0 - x
def imax (x y : Int32) : Int32 := if x < y then y else x
def imin (x y : Int32) : Int32 := if y < x then y else x
def inR (x lo hi : Int32) : Bool := !decide (x < lo) && !decide (hi < x)

