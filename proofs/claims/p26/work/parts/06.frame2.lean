theorem x_size {p : Program} {l : Launch} {e : Env} {R : Room} {s : State} {m : MethodId} {args : Array Value} {below : List Frame} {meth : Method} {c : Code} {T : State} {locs : List Loc} {cells slots : Nat} {E : XE} {N : Nat} {G : GW} {H : Heap} (X : Stand p l e R s m args below meth c T locs cells slots) (hT : T.heap = H) (h1 : s.heap.size + cells = N) (hB : xB E ≤ s.heap.size) (h2 : va_P E.1 vwCl (wl E N G) H) : H.size = N := by
  have h3 : T.heap.size ≤ s.heap.size + cells := X.same.2.2.1
  have h4 : s.heap.size ≤ T.heap.size := X.same.2.1
  rw [hT] at h3 h4
  by_cases h5 : N = xB E
  · omega
  · have h6 := (h2 (N - 1 - xB E) _ (wl_get (E := E) (N := N) (G := G) (a := N - 1) (by omega) (by omega))).lt
    have h7 : N - 1 < H.size := h6
    omega
theorem x_grow {E : XE} {N : Nat} {G : GW} {e : va_E} {H H1 : Heap} (hB : xB E ≤ N) (hz : H.size = N) (h2 : va_P E.1 vwCl (wl E N G) H) (o1 : ∀ q, q < N → H1[q]? = H[q]?) (hn : va_at E.1 vwCl (N, e) H1) : va_P E.1 vwCl (wl E (N + 1) (gup G N e)) H1 := by
  rw [← wl_push hB]
  refine (h2.kept fun k x hx => o1 x.1 (by have := (h2 k x hx).lt; omega)).app (fun k x hx => ?_)
  have hz2 : k < 1 := (List.getElem?_eq_some_iff.mp hx).1
  rw [show k = 0 by omega] at hx
  cases hx
  exact hn
theorem x_growS {A : Nat → Prop} {H0 H H1 : Heap} {locs : List Loc} {N : Nat} (hS : va_S A H0 H locs) (hz : H.size = N) (z1 : H1.size = N + 1) (o1 : ∀ q, q < N → H1[q]? = H[q]?) : va_S A H0 H1 locs :=
  ⟨Nat.le_trans hS.1 (by omega), fun x q1 q2 => (o1 x (by have := hS.1; omega)).trans (hS.2.1 x q1 q2), hS.2.2⟩
theorem x_iret {E : XE} {K : XK} {nL N cells slots : Nat} {G : GW} {pc : Nat} {L : List (Nat × Value)} {cc : ByteArray} {own : String} {ret : Option FieldType} {fr lo mc ms : Nat} (C : XC E K cc nL own ret fr lo mc ms) {res : Option Value} {Gf : GW} (Z : XZ E K N cells slots res Gf) {v : Int32} {ty : FieldType} (hty : ret = some ty) (hn : narrow ty (.int v) = .int v) (e1 : res = some (.int v)) (e2 : Gf = G) (hd : decode cc pc = .ok (.ireturn, 1)) : XW E K nL N cells slots G pc L [.int v] := by
  subst e1; subst e2
  obtain ⟨p, l, e, R, s, m, args, below, meth, c, Q⟩ := K
  obtain ⟨hx, hb, hml, hown, hts, hr, hlk, hK, hB, hNw, hR⟩ := C
  intro H locs ls h1 h2 h3 h4
  intro T hT X
  have hz := x_size X hT h1 hB h2
  obtain ⟨t9, a9, b9⟩ := W.zret hx hb (hr.trans hty) hn (Qc := XQ E N (some (.int v)) Gf) (free := fun q => xB E ≤ q) (fun t ht hW => ⟨rfl, by rw [ht]; exact hz, by rw [ht]; exact h2, h3.F ht⟩) h3.2.2 hd hlk T hT X
  exact ⟨t9, a9, Eq.mpr (congrFun Z t9) b9⟩
theorem x_vret {E : XE} {K : XK} {nL N cells slots : Nat} {G : GW} {pc : Nat} {L : List (Nat × Value)} {cc : ByteArray} {own : String} {ret : Option FieldType} {fr lo mc ms : Nat} (C : XC E K cc nL own ret fr lo mc ms) {res : Option Value} {Gf : GW} (Z : XZ E K N cells slots res Gf) (hty : ret = none) (e1 : res = none) (e2 : Gf = G) (hd : decode cc pc = .ok (.return_, 1)) : XW E K nL N cells slots G pc L [] := by
  subst e1; subst e2
  obtain ⟨p, l, e, R, s, m, args, below, meth, c, Q⟩ := K
  obtain ⟨hx, hb, hml, hown, hts, hr, hlk, hK, hB, hNw, hR⟩ := C
  intro H locs ls h1 h2 h3 h4
  intro T hT X
  have hz := x_size X hT h1 hB h2
  obtain ⟨t9, a9, b9⟩ := W.vret hx hb (hr.trans hty) (Qc := XQ E N (none) Gf) (free := fun q => xB E ≤ q) (fun t ht hW => ⟨rfl, by rw [ht]; exact hz, by rw [ht]; exact h2, h3.F ht⟩) h3.2.2 hd hlk T hT X
  exact ⟨t9, a9, Eq.mpr (congrFun Z t9) b9⟩
theorem x_aret {E : XE} {K : XK} {nL N cells slots : Nat} {G : GW} {pc : Nat} {L : List (Nat × Value)} {cc : ByteArray} {own : String} {ret : Option FieldType} {fr lo mc ms : Nat} (C : XC E K cc nL own ret fr lo mc ms) {res : Option Value} {Gf : GW} (Z : XZ E K N cells slots res Gf) {a : Nat} {rt : String} (hty : ret = some (.object rt)) (e1 : res = some (.ref a)) (e2 : Gf = G) (hd : decode cc pc = .ok (.areturn, 1)) : XW E K nL N cells slots G pc L [.ref a] := by
  subst e1; subst e2
  obtain ⟨p, l, e, R, s, m, args, below, meth, c, Q⟩ := K
  obtain ⟨hx, hb, hml, hown, hts, hr, hlk, hK, hB, hNw, hR⟩ := C
  intro H locs ls h1 h2 h3 h4
  intro T hT X
  have hz := x_size X hT h1 hB h2
  obtain ⟨t9, a9, b9⟩ := W.aret hx hb (hr.trans hty) (Or.inl ⟨_, rfl⟩) (Or.inr ⟨_, rfl⟩) (Qc := XQ E N (some (.ref a)) Gf) (free := fun q => xB E ≤ q) (fun t ht hW => ⟨rfl, by rw [ht]; exact hz, by rw [ht]; exact h2, h3.F ht⟩) h3.2.2 hd hlk T hT X
  exact ⟨t9, a9, Eq.mpr (congrFun Z t9) b9⟩
theorem x_new {E : XE} {K : XK} {nL N cells slots : Nat} {G : GW} {pc : Nat} {L : List (Nat × Value)} {st : List Value} {cc : ByteArray} {own : String} {ret : Option FieldType} {fr lo mc ms : Nat} (C : XC E K cc nL own ret fr lo mc ms) {index ci n : Nat} {C1 : String} {T1 : u_T} {tyf : Nat → FieldType} {G' : GW} (fs : List Value) (hc : vwCl[ci]? = some (C1, T1, n)) (hin : ∀ w ∈ u_ws C1 T1 n, w ∈ LW) (hT1 : XT C1 T1 n tyf) (w1 : Cond.classLink own index C1 ∈ LW) (w2 : Cond.instantiable C1 n ∈ LW) (w3 : Cond.initialized C1 ∈ LW) (hfs : ∀ j, j < n → defaultValue (tyf j) = vp_V fs j) (hcl : Nat.ble (cells + 1) mc = true) (hsl : Nat.ble (slots + n) ms = true) (hG : gup G N (.inr (ci, fs)) = G') (hd : decode cc pc = .ok (.new index, 3)) (k : XW E K nL (N + 1) (cells + 1) (slots + n) G' (pc + 3) L (.ref N :: st)) : XW E K nL N cells slots G pc L st := by
  subst hG
  obtain ⟨p, l, e, R, s, m, args, below, meth, c, Q⟩ := K
  obtain ⟨hx, hb, hml, hown, hts, hr, hlk, hK, hB, hNw, hR⟩ := C
  subst hR
  intro H locs ls h1 h2 h3 h4 T hT X
  have hz : H.size = N := x_size X hT h1 hB h2
  have h1' : s.heap.size + cells = N := h1
  have hB' : xB E ≤ s.heap.size := hB
  have hBN : xB E ≤ N := by omega
  have h1'' : s.heap.size + (cells + 1) = N + 1 := by omega
  have hKn := hK.1 ci _ hc
  have key : W p l e { frames := fr, cells := mc, slots := ms, locals := lo } s m args below meth c H locs cells slots Q (F0 m pc ls st) := by
    refine W.newcK hx hb hown (hts _ w1) (hts _ w2) (hts _ w3) rfl hd (Nat.le_of_ble_eq_true hcl) (Nat.le_of_ble_eq_true hsl) hKn.2.1 hz (fun H1 kC hkC e1 z1 o1 => ?_)
    exact k H1 locs ls h1'' (x_grow hBN hz h2 o1 ⟨_, hc, (u_born tyf hts hin hKn hkC e1 hT1.1).to hfs⟩) (x_growS h3 hz z1 o1) h4
  exact key T hT X
theorem x_newi {E : XE} {K : XK} {nL N cells slots : Nat} {G : GW} {pc : Nat} {L : List (Nat × Value)} {st : List Value} {cc : ByteArray} {own : String} {ret : Option FieldType} {fr lo mc ms : Nat} (C : XC E K cc nL own ret fr lo mc ms) {n : Int32} {G' : GW} (n1 : Nat) (hn : ¬ n < 0) (hN : n.toNatClampNeg = n1) (hby : Nat.ble (n1 * componentBytes .int) 536870912 = true) (hcl : Nat.ble (cells + 1) mc = true) (hsl : Nat.ble (slots + n1) ms = true) (hG : gup G N (.inl (xI E, n1, .inl (fun _ => 0))) = G') (hd : decode cc pc = .ok (.newarray .int, 2)) (k : XW E K nL (N + 1) (cells + 1) (slots + n1) G' (pc + 2) L (.ref N :: st)) : XW E K nL N cells slots G pc L (.int n :: st) := by
  subst hG
  obtain ⟨p, l, e, R, s, m, args, below, meth, c, Q⟩ := K
  obtain ⟨hx, hb, hml, hown, hts, hr, hlk, hK, hB, hNw, hR⟩ := C
  subst hR
  intro H locs ls h1 h2 h3 h4 T hT X
  have hz : H.size = N := x_size X hT h1 hB h2
  have h1' : s.heap.size + cells = N := h1
  have hB' : xB E ≤ s.heap.size := hB
  have hBN : xB E ≤ N := by omega
  have h1'' : s.heap.size + (cells + 1) = N + 1 := by omega
  have hRA : s.vm.findClass ("[" ++ (FieldType.int).toString) = some (xI E) := (hK.2 0 _ rfl).2
  have key : W p l e { frames := fr, cells := mc, slots := ms, locals := lo } s m args below meth c H locs cells slots Q (F0 m pc ls (.int n :: st)) := by
    refine va_newaK (atype := .int) hx hb (hts _ x_arr_int) rfl hd rfl hn hN (Nat.le_of_ble_eq_true hby) (Nat.le_of_ble_eq_true hcl) (Nat.le_of_ble_eq_true hsl) hz (fun H1 cA e1 z1 o1 hAr hNm => ?_)
    have hcA : cA = xI E := Option.some.inj (hNm.symm.trans hRA)
    subst hcA
    exact k H1 locs ls h1'' (x_grow hBN hz h2 o1 e1) (x_growS h3 hz z1 o1) h4
  exact key T hT X
theorem x_newq {E : XE} {K : XK} {nL N cells slots : Nat} {G : GW} {pc : Nat} {L : List (Nat × Value)} {st : List Value} {cc : ByteArray} {own : String} {ret : Option FieldType} {fr lo mc ms : Nat} (C : XC E K cc nL own ret fr lo mc ms) {index : Nat} {n : Int32} {G' : GW} (n1 : Nat) (w1 : Cond.classLink own index "SharedEchoes$State" ∈ LW) (hn : ¬ n < 0) (hN : n.toNatClampNeg = n1) (hby : Nat.ble (n1 * 4) 536870912 = true) (hcl : Nat.ble (cells + 1) mc = true) (hsl : Nat.ble (slots + n1) ms = true) (hG : gup G N (.inl (xQ E, n1, .inr (.inr (.inr (.inr (fun _ => none)))))) = G') (hd : decode cc pc = .ok (.anewarray index, 3)) (k : XW E K nL (N + 1) (cells + 1) (slots + n1) G' (pc + 3) L (.ref N :: st)) : XW E K nL N cells slots G pc L (.int n :: st) := by
  subst hG
  obtain ⟨p, l, e, R, s, m, args, below, meth, c, Q⟩ := K
  obtain ⟨hx, hb, hml, hown, hts, hr, hlk, hK, hB, hNw, hR⟩ := C
  subst hR
  intro H locs ls h1 h2 h3 h4 T hT X
  have hz : H.size = N := x_size X hT h1 hB h2
  have h1' : s.heap.size + cells = N := h1
  have hB' : xB E ≤ s.heap.size := hB
  have hBN : xB E ≤ N := by omega
  have h1'' : s.heap.size + (cells + 1) = N + 1 := by omega
  subst hN
  have key : W p l e { frames := fr, cells := mc, slots := ms, locals := lo } s m args below meth c H locs cells slots Q (F0 m pc ls (.int n :: st)) := by
    refine W.anew hx hb hown (hts _ w1) (va_AO.use hNw.2) rfl hd rfl hn (Nat.le_of_ble_eq_true hby) (Nat.le_of_ble_eq_true hcl) (Nat.le_of_ble_eq_true hsl) (fun cA kA comp f1 f2 f3 f4 => ?_)
    obtain ⟨kA2, comp2, g1, g2, g3, g4⟩ := (hK.2 3 _ rfl).2
    have hcA : cA = xQ E := Option.some.inj (f1.symm.trans g4)
    subst hcA
    generalize hH1 : H.push ({ cls := xQ E, slots := Array.replicate n.toNatClampNeg .null, vm := .none } : Cell) = H1
    have z1 : H1.size = N + 1 := by rw [← hH1, Array.size_push, hz]
    have e1 : H1[N]? = some (arrV (xQ E) n.toNatClampNeg (fun _ => .null)) := by rw [← hH1, ← hz, Array.getElem?_push_size, ← arrV_new]
    have o1 : ∀ q : Nat, q < N → H1[q]? = H[q]? := fun q hq => by rw [← hH1, Array.getElem?_push, if_neg (by omega)]
    rw [hz]
    exact k H1 locs ls h1'' (x_grow hBN hz h2 o1 e1) (x_growS h3 hz z1 o1) h4
  exact key T hT X
theorem x_pre {E : XE} {N : Nat} {G : GW} (As : List Value) : FrameBlind (va_Pc As (XPre E N G)) := fun a U g mk q => ⟨q.1, q.2.1, q.2.2.1, q.2.2.2.1.calling, q.2.2.2.2.1, va_K.moved (u := U) (U := U.calling g mk a) (Vm.Alike.refl U.vm) q.2.2.2.2.2⟩
theorem x_run {E : XE} {K : XK} {nL N cells slots : Nat} {G G' : GW} {pc : Nat} {L : List (Nat × Value)} {st0 rest : List Value} {mc' ms' : Nat} {res : Option Value} {a : Array Value} (hB : xB E ≤ K.2.2.2.2.1.heap.size)
    (hr : ∀ (H : Heap) (locs : List Loc) (ls : Array Slot), H.size = N → va_P E.1 vwCl (wl E N G) H → lv_has ls nL L → va_Run K.1 K.2.1 K.2.2.1 K.2.2.2.1 K.2.2.2.2.1 K.2.2.2.2.2.1 K.2.2.2.2.2.2.1 K.2.2.2.2.2.2.2.1 K.2.2.2.2.2.2.2.2.1 K.2.2.2.2.2.2.2.2.2.1 H locs cells slots mc' ms' (F0 K.2.2.2.2.2.1 pc ls st0) rest (XQ E (N + mc') res G' a) (fun q => xB E ≤ q))
    (k : XW E K nL (N + mc') (cells + mc') (slots + ms') G' (pc + 3) L (res.toList ++ rest)) : XW E K nL N cells slots G pc L st0 := by
  obtain ⟨p, l, e, R, s, m, args, below, meth, c, Q⟩ := K
  intro H locs ls h1 h2 h3 h4 T hT X
  have hz : H.size = N := x_size X hT h1 hB h2
  obtain ⟨v, st₀, t, T', L', h0, X', hL, e1, e2, ⟨q1, q2, q3, q4, q5⟩, hgo⟩ := hr H locs ls hz h2 h4 T hT X
  cases q1
  rw [h0] at q4 q5
  have h3' : va_S (fun q => xB E ≤ q) s.heap T'.heap (locs ++ L') := ⟨Nat.le_trans h3.1 (by rw [e1]; exact q4), fun q w1 w2 => by rw [e1, q5 q (Nat.lt_of_lt_of_le w1 h3.1) w2]; exact h3.2.1 q w1 w2, fun q hq => by
    rcases List.mem_append.mp hq with h | h
    · exact h3.2.2 q h
    · exact hL q h⟩
  have h1' : s.heap.size + cells = N := h1
  obtain ⟨t2, a1, b1⟩ := k T'.heap (locs ++ L') ls (by show s.heap.size + (cells + mc') = N + mc'; omega) (by rw [e1]; exact q3) h3' h4 T' rfl X'
  exact ⟨t2, hgo t2 a1, b1⟩
/-- a link to a method of one's own class or another: class own names at index the method y, whose code is bytes, of n parameters -/
def XV (own : String) (index : Nat) (y : MethodName) (bytes : ByteArray) (maxL : Nat) (ret : Option FieldType) (n : Nat) : Prop :=
  Cond.methodLink own index y ∈ LW ∧ Cond.instanceMethod y ∈ LW ∧ Cond.selects y.cls y y ∈ LW ∧ Cond.initialized y.cls ∈ LW ∧ Cond.code y bytes maxL ret ∈ LW ∧ y.cls ≠ "java/lang/invoke/MethodHandle" ∧ y.cls ≠ "java/lang/invoke/VarHandle" ∧ (parseMethodDescriptor y.desc).map (fun d => d.parameters.length) = some n
def XS (own : String) (index : Nat) (y : MethodName) (bytes : ByteArray) (maxL : Nat) (ret : Option FieldType) (n : Nat) : Prop :=
  Cond.methodLink own index y ∈ LW ∧ Cond.static y ∈ LW ∧ Cond.initialized y.cls ∈ LW ∧ Cond.code y bytes maxL ret ∈ LW ∧ y.cls ≠ "java/lang/invoke/MethodHandle" ∧ y.cls ≠ "java/lang/invoke/VarHandle" ∧ (parseMethodDescriptor y.desc).map (fun d => d.parameters.length) = some n
def XI (own : String) (index : Nat) (y : MethodName) (bytes : ByteArray) (maxL : Nat) (n : Nat) : Prop :=
  Cond.methodLink own index y ∈ LW ∧ Cond.instanceMethod y ∈ LW ∧ Cond.initialized y.cls ∈ LW ∧ Cond.code y bytes maxL none ∈ LW ∧ y.name = "<init>" ∧ y.cls ≠ "java/lang/invoke/MethodHandle" ∧ y.cls ≠ "java/lang/invoke/VarHandle" ∧ (parseMethodDescriptor y.desc).map (fun d => d.parameters.length) = some n
/-- the same of a private member of a nest mate -/
def XSN (own : String) (index : Nat) (y : MethodName) (host : String) (bytes : ByteArray) (maxL : Nat) (ret : Option FieldType) (n : Nat) : Prop :=
  Cond.methodLinkNest own index y host ∈ NW ∧ Cond.static y ∈ LW ∧ Cond.initialized y.cls ∈ LW ∧ Cond.code y bytes maxL ret ∈ LW ∧ y.cls ≠ "java/lang/invoke/MethodHandle" ∧ y.cls ≠ "java/lang/invoke/VarHandle" ∧ (parseMethodDescriptor y.desc).map (fun d => d.parameters.length) = some n
def XIN (own : String) (index : Nat) (y : MethodName) (host : String) (bytes : ByteArray) (maxL : Nat) (n : Nat) : Prop :=
  Cond.methodLinkNest own index y host ∈ NW ∧ Cond.instanceMethod y ∈ LW ∧ Cond.initialized y.cls ∈ LW ∧ Cond.code y bytes maxL none ∈ LW ∧ y.name = "<init>" ∧ y.cls ≠ "java/lang/invoke/MethodHandle" ∧ y.cls ≠ "java/lang/invoke/VarHandle" ∧ (parseMethodDescriptor y.desc).map (fun d => d.parameters.length) = some n
theorem x_good {y : MethodName} {bytes : ByteArray} {maxL : Nat} {ret : Option FieldType} (h : Cond.code y bytes maxL ret ∈ LW) : GoodIn LW (Cond.code y bytes maxL ret :: LW) := fun w hw => by
  rcases List.mem_cons.mp hw with rfl | h2
  · exact LW_good _ h
  · exact LW_good w h2
def XR (fr lo mc ms cells slots fr' lo' maxL' mc' ms' : Nat) : Bool := Nat.ble (fr' + 1) fr && Nat.ble (8 + (maxL' + 11) + lo') lo && Nat.ble (cells + mc') mc && Nat.ble (slots + ms') ms
theorem XR.of {fr lo mc ms cells slots fr' lo' maxL' mc' ms' : Nat} (h : XR fr lo mc ms cells slots fr' lo' maxL' mc' ms' = true) : (fr' + 1 ≤ fr ∧ 8 + (maxL' + 11) + lo' ≤ lo) ∧ cells + mc' ≤ mc ∧ slots + ms' ≤ ms := by
  simp only [XR, Bool.and_eq_true] at h
  exact ⟨⟨Nat.le_of_ble_eq_true h.1.1.1, Nat.le_of_ble_eq_true h.1.1.2⟩, Nat.le_of_ble_eq_true h.1.2, Nat.le_of_ble_eq_true h.2⟩
theorem x_callV {E : XE} {K : XK} {nL N cells slots : Nat} {G : GW} {pc : Nat} {L : List (Nat × Value)} {st : List Value} {cc : ByteArray} {own : String} {ret : Option FieldType} {fr lo mc ms : Nat} (C : XC E K cc nL own ret fr lo mc ms) {index b ci n n2 : Nat} {y : MethodName} {bytes : ByteArray} {maxL' : Nat} {ret' : Option FieldType} {fr' lo' mc' ms' : Nat} {As : List Value} {G' : GW} {res : Option Value} {st0 : List Value} {fs : List Value} {T1 : u_T} (hM : MF E y bytes maxL' ret' fr' lo' mc' ms' (.ref b :: As) N G res G') (hl : XV own index y bytes maxL' ret' n) (hN : xB E ≤ N) (hb1 : xB E ≤ b) (hb2 : b < N) (he : G b = .inr (ci, fs)) (hc : vwCl[ci]? = some (y.cls, T1, n2)) (hR9 : XR fr lo mc ms cells slots fr' lo' maxL' mc' ms' = true) (hn : As.length = n) (hw : Nat.ble ((st.map fun v => v.category).sum) 8 = true) (hst : st0 = As.reverse ++ .ref b :: st) (hd : decode cc pc = .ok (.invokevirtual index, 3)) (k : XW E K nL (N + mc') (cells + mc') (slots + ms') G' (pc + 3) L (res.toList ++ st)) : XW E K nL N cells slots G pc L st0 := by
  have hR9 := XR.of hR9
  have C0 := C
  obtain ⟨p, l, e, R, s, m, args, below, meth, c, Q⟩ := K
  obtain ⟨hx, hb, hml, hown, hts, hr, hlk, hK, hB, hNw, hR⟩ := C
  subst hR
  refine x_run (a := (Value.ref b :: As).toArray) (rest := st) hB (fun H locs ls h1 h2 h4 => ?_) k
  obtain ⟨w1, w2, w3, w4, w5, w6, w7, w8⟩ := hl
  exact va_runV (nL := nL) (As := As) (rest := st) (C := y.cls) (n := n) (bytes := bytes) (maxL := maxL') (ret := ret') ⟨hx, hb, hml, hown, hts⟩ (hM l) ⟨callB_of n hts (x_good w5) rfl rfl rfl (hts _ w4) (hts _ w1) ⟨w6, w7, w8⟩ hR9.1, hts _ w2, hts _ w3⟩ ⟨x_pre _, va_recv hK h2 hc (by rw [wl_get hb1 hb2, he]), fun U hU hW => ⟨rfl, hN, by rw [hU]; exact h1, hNw.warm hW, by rw [hU]; exact h2, va_K.moved hW.alike hK⟩⟩ rfl hn h4.1 hst (lv_room (Nat.le_of_ble_eq_true hw)) hd hR9.2
theorem x_callS {E : XE} {K : XK} {nL N cells slots : Nat} {G : GW} {pc : Nat} {L : List (Nat × Value)} {st : List Value} {cc : ByteArray} {own : String} {ret : Option FieldType} {fr lo mc ms : Nat} (C : XC E K cc nL own ret fr lo mc ms) {index n : Nat} {y : MethodName} {bytes : ByteArray} {maxL' : Nat} {ret' : Option FieldType} {fr' lo' mc' ms' : Nat} {As : List Value} {G' : GW} {res : Option Value} {st0 : List Value} (hM : MF E y bytes maxL' ret' fr' lo' mc' ms' As N G res G') (hl : XS own index y bytes maxL' ret' n) (hN : xB E ≤ N) (hR9 : XR fr lo mc ms cells slots fr' lo' maxL' mc' ms' = true) (hn : As.length = n) (hw : Nat.ble ((st.map fun v => v.category).sum) 8 = true) (hst : st0 = As.reverse ++ st) (hd : decode cc pc = .ok (.invokestatic index, 3)) (k : XW E K nL (N + mc') (cells + mc') (slots + ms') G' (pc + 3) L (res.toList ++ st)) : XW E K nL N cells slots G pc L st0 := by
  have hR9 := XR.of hR9
  have C0 := C
  obtain ⟨p, l, e, R, s, m, args, below, meth, c, Q⟩ := K
  obtain ⟨hx, hb, hml, hown, hts, hr, hlk, hK, hB, hNw, hR⟩ := C
  subst hR
  refine x_run (a := As.toArray) (rest := st) hB (fun H locs ls h1 h2 h4 => ?_) k
  obtain ⟨w1, w2, w4, w5, w6, w7, w8⟩ := hl
  exact va_runS (nL := nL) (As := As) (rest := st) (n := n) (bytes := bytes) (maxL := maxL') (ret := ret') ⟨hx, hb, hml, hown, hts⟩ (hM l) ⟨callB_of n hts (x_good w5) rfl rfl rfl (hts _ w4) (hts _ w1) ⟨w6, w7, w8⟩ hR9.1, hts _ w2⟩ ⟨x_pre _, fun U hU hW => ⟨rfl, hN, by rw [hU]; exact h1, hNw.warm hW, by rw [hU]; exact h2, va_K.moved hW.alike hK⟩⟩ rfl hn h4.1 hst (lv_room (Nat.le_of_ble_eq_true hw)) hd hR9.2
theorem x_callI {E : XE} {K : XK} {nL N cells slots : Nat} {G : GW} {pc : Nat} {L : List (Nat × Value)} {st : List Value} {cc : ByteArray} {own : String} {ret : Option FieldType} {fr lo mc ms : Nat} (C : XC E K cc nL own ret fr lo mc ms) {index b n : Nat} {y : MethodName} {bytes : ByteArray} {maxL' : Nat} {fr' lo' mc' ms' : Nat} {As : List Value} {G' : GW} {res : Option Value} {st0 : List Value} (hM : MF E y bytes maxL' none fr' lo' mc' ms' (.ref b :: As) N G res G') (hl : XI own index y bytes maxL' n) (hN : xB E ≤ N) (hR9 : XR fr lo mc ms cells slots fr' lo' maxL' mc' ms' = true) (hn : As.length = n) (hw : Nat.ble ((st.map fun v => v.category).sum) 8 = true) (hst : st0 = As.reverse ++ .ref b :: st) (hd : decode cc pc = .ok (.invokespecial index, 3)) (k : XW E K nL (N + mc') (cells + mc') (slots + ms') G' (pc + 3) L (res.toList ++ st)) : XW E K nL N cells slots G pc L st0 := by
  have hR9 := XR.of hR9
  have C0 := C
  obtain ⟨p, l, e, R, s, m, args, below, meth, c, Q⟩ := K
  obtain ⟨hx, hb, hml, hown, hts, hr, hlk, hK, hB, hNw, hR⟩ := C
  subst hR
  refine x_run (a := (Value.ref b :: As).toArray) (rest := st) hB (fun H locs ls h1 h2 h4 => ?_) k
  obtain ⟨w1, w2, w4, w5, w9, w6, w7, w8⟩ := hl
  exact va_runI (nL := nL) (As := As) (rest := st) (n := n) (bytes := bytes) (maxL := maxL') ⟨hx, hb, hml, hown, hts⟩ (hM l) ⟨callB_of n hts (x_good w5) rfl rfl rfl (hts _ w4) (hts _ w1) ⟨w6, w7, w8⟩ hR9.1, w9, hts _ w2⟩ ⟨x_pre _, fun U hU hW => ⟨rfl, hN, by rw [hU]; exact h1, hNw.warm hW, by rw [hU]; exact h2, va_K.moved hW.alike hK⟩⟩ rfl hn h4.1 hst (lv_room (Nat.le_of_ble_eq_true hw)) hd hR9.2
theorem x_callSN {E : XE} {K : XK} {nL N cells slots : Nat} {G : GW} {pc : Nat} {L : List (Nat × Value)} {st : List Value} {cc : ByteArray} {own : String} {ret : Option FieldType} {fr lo mc ms : Nat} (C : XC E K cc nL own ret fr lo mc ms) {index n : Nat} {y : MethodName} {bytes : ByteArray} {maxL' : Nat} {ret' : Option FieldType} {fr' lo' mc' ms' : Nat} {As : List Value} {G' : GW} {res : Option Value} {st0 : List Value} {host : String} (hM : MF E y bytes maxL' ret' fr' lo' mc' ms' As N G res G') (hl : XSN own index y host bytes maxL' ret' n) (hN : xB E ≤ N) (hR9 : XR fr lo mc ms cells slots fr' lo' maxL' mc' ms' = true) (hn : As.length = n) (hw : Nat.ble ((st.map fun v => v.category).sum) 8 = true) (hst : st0 = As.reverse ++ st) (hd : decode cc pc = .ok (.invokestatic index, 3)) (k : XW E K nL (N + mc') (cells + mc') (slots + ms') G' (pc + 3) L (res.toList ++ st)) : XW E K nL N cells slots G pc L st0 := by
  have hR9 := XR.of hR9
  have C0 := C
  obtain ⟨p, l, e, R, s, m, args, below, meth, c, Q⟩ := K
  obtain ⟨hx, hb, hml, hown, hts, hr, hlk, hK, hB, hNw, hR⟩ := C
  subst hR
  refine x_run (a := As.toArray) (rest := st) hB (fun H locs ls h1 h2 h4 => ?_) k
  obtain ⟨w1, w2, w4, w5, w6, w7, w8⟩ := hl
  exact va_runSN (nL := nL) (As := As) (rest := st) (n := n) (bytes := bytes) (maxL := maxL') (ret := ret') ⟨hx, hb, hml, hown, hts⟩ (hM l) ⟨va_cnB (host := host) n hts (x_good w5) rfl rfl rfl (hNw.1 _ w1) (hts _ w4) ⟨w6, w7, w8⟩ hR9.1, hts _ w2, trivial⟩ ⟨x_pre _, fun U hU hW => ⟨rfl, hN, by rw [hU]; exact h1, hNw.warm hW, by rw [hU]; exact h2, va_K.moved hW.alike hK⟩⟩ rfl hn h4.1 hst (lv_room (Nat.le_of_ble_eq_true hw)) hd hR9.2
theorem x_callIN {E : XE} {K : XK} {nL N cells slots : Nat} {G : GW} {pc : Nat} {L : List (Nat × Value)} {st : List Value} {cc : ByteArray} {own : String} {ret : Option FieldType} {fr lo mc ms : Nat} (C : XC E K cc nL own ret fr lo mc ms) {index b n : Nat} {y : MethodName} {bytes : ByteArray} {maxL' : Nat} {fr' lo' mc' ms' : Nat} {As : List Value} {G' : GW} {res : Option Value} {st0 : List Value} {host : String} (hM : MF E y bytes maxL' none fr' lo' mc' ms' (.ref b :: As) N G res G') (hl : XIN own index y host bytes maxL' n) (hN : xB E ≤ N) (hR9 : XR fr lo mc ms cells slots fr' lo' maxL' mc' ms' = true) (hn : As.length = n) (hw : Nat.ble ((st.map fun v => v.category).sum) 8 = true) (hst : st0 = As.reverse ++ .ref b :: st) (hd : decode cc pc = .ok (.invokespecial index, 3)) (k : XW E K nL (N + mc') (cells + mc') (slots + ms') G' (pc + 3) L (res.toList ++ st)) : XW E K nL N cells slots G pc L st0 := by
  have hR9 := XR.of hR9
  have C0 := C
  obtain ⟨p, l, e, R, s, m, args, below, meth, c, Q⟩ := K
  obtain ⟨hx, hb, hml, hown, hts, hr, hlk, hK, hB, hNw, hR⟩ := C
  subst hR
  refine x_run (a := (Value.ref b :: As).toArray) (rest := st) hB (fun H locs ls h1 h2 h4 => ?_) k
  obtain ⟨w1, w2, w4, w5, w9, w6, w7, w8⟩ := hl
  exact va_runIN (nL := nL) (As := As) (rest := st) (n := n) (bytes := bytes) (maxL := maxL') ⟨hx, hb, hml, hown, hts⟩ (hM l) ⟨va_cnB (host := host) n hts (x_good w5) rfl rfl rfl (hNw.1 _ w1) (hts _ w4) ⟨w6, w7, w8⟩ hR9.1, w9, hts _ w2⟩ ⟨x_pre _, fun U hU hW => ⟨rfl, hN, by rw [hU]; exact h1, hNw.warm hW, by rw [hU]; exact h2, va_K.moved hW.alike hK⟩⟩ rfl hn h4.1 hst (lv_room (Nat.le_of_ble_eq_true hw)) hd hR9.2

