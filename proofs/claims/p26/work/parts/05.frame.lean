/-! ===== the frame: the heap from the base on as a function of addresses; all that is fixed in a walk kept in one tuple ===== -/
abbrev GW : Type := Nat → va_E
abbrev XE : Type := va_G × (ClassId × ClassId × ClassId × ClassId) × Nat
def xI (E : XE) : ClassId := E.2.1.1
def xJ (E : XE) : ClassId := E.2.1.2.1
def xCh (E : XE) : ClassId := E.2.1.2.2.1
def xQ (E : XE) : ClassId := E.2.1.2.2.2
def xB (E : XE) : Nat := E.2.2
def xtys (E : XE) : List (ClassId × FieldType) := [(xI E, .int), (xI E, .int), (xI E, .int), (xQ E, .object "SharedEchoes$State")]
def gup (G : GW) (a : Nat) (e : va_E) : GW := fun q => if q = a then e else G q
def wl (E : XE) (N : Nat) (G : GW) : va_W := (List.range (N - xB E)).map fun i => (xB E + i, G (xB E + i))
theorem wl_len {E : XE} {N : Nat} {G : GW} : (wl E N G).length = N - xB E := by simp [wl]
theorem wl_get {E : XE} {N a : Nat} {G : GW} (h1 : xB E ≤ a) (h2 : a < N) : (wl E N G)[a - xB E]? = some (a, G a) := by
  have h : a - xB E < N - xB E := by omega
  unfold wl
  rw [List.getElem?_map, List.getElem?_range h]
  show some (xB E + (a - xB E), G (xB E + (a - xB E))) = _
  rw [Nat.add_sub_cancel' h1]
theorem wl_cases {E : XE} {N k : Nat} {G : GW} {q : Nat × va_E} (h : (wl E N G)[k]? = some q) : xB E + k < N ∧ q = (xB E + k, G (xB E + k)) := by
  have hl := (List.getElem?_eq_some_iff.mp h).1
  rw [wl_len] at hl
  unfold wl at h
  rw [List.getElem?_map, List.getElem?_range hl] at h
  exact ⟨by omega, (Option.some.inj h).symm⟩
theorem wl_set {E : XE} {N a : Nat} {G : GW} {e : va_E} (h1 : xB E ≤ a) (h2 : a < N) : (wl E N G).set (a - xB E) (a, e) = wl E N (gup G a e) := by
  apply List.ext_getElem?
  intro k
  by_cases hk : k = a - xB E
  · subst hk
    rw [List.getElem?_set_self (by rw [wl_len]; omega), wl_get h1 h2]
    simp [gup]
  · rw [List.getElem?_set_ne (Ne.symm hk)]
    by_cases hlt : k < N - xB E
    · have hne : xB E + k ≠ a := by omega
      unfold wl
      rw [List.getElem?_map, List.getElem?_map, List.getElem?_range hlt]
      simp [gup, hne]
    · rw [List.getElem?_eq_none (by rw [wl_len]; omega), List.getElem?_eq_none (by rw [wl_len]; omega)]
theorem wl_push {E : XE} {N : Nat} {G : GW} {e : va_E} (h : xB E ≤ N) : wl E N G ++ [(N, e)] = wl E (N + 1) (gup G N e) := by
  unfold wl
  rw [show N + 1 - xB E = (N - xB E) + 1 by omega, List.range_succ, List.map_append]
  congr 1
  · apply List.map_congr_left
    intro i hi
    have h1 := List.mem_range.mp hi
    have h2 : xB E + i ≠ N := by omega
    simp [gup, h2]
  · simp [gup, Nat.add_sub_cancel' h]
theorem wl_D (E : XE) (N : Nat) (G : GW) : va_D (fun q => xB E ≤ q) (wl E N G) := by
  refine ⟨fun i j p q hi hj h => ?_, fun k q hk => ?_⟩
  · obtain ⟨-, rfl⟩ := wl_cases hi
    obtain ⟨-, rfl⟩ := wl_cases hj
    have h2 : xB E + i = xB E + j := h
    omega
  · obtain ⟨-, rfl⟩ := wl_cases hk
    show xB E ≤ xB E + k
    omega
theorem x_nat_arraycopy : Cond.native arraycopyName ∈ LW := m_182
theorem x_stat_arraycopy : Cond.static arraycopyName ∈ LW := m_181
theorem x_ini_System : Cond.initialized "java/lang/System" ∈ LW := m_11
theorem x_ini_Math : Cond.initialized "java/lang/Math" ∈ LW := m_10
theorem x_stat_abs : Cond.static Lib.Math.abs.name ∈ LW := m_217
theorem x_code_abs : Cond.code Lib.Math.abs.name Lib.Math.abs.code 1 (some .int) ∈ LW := m_218
theorem x_stat_max : Cond.static Lib.Math.max.name ∈ LW := m_237
theorem x_code_max : Cond.code Lib.Math.max.name Lib.Math.max.code 2 (some .int) ∈ LW := m_238
theorem x_stat_min : Cond.static Lib.Math.min.name ∈ LW := m_220
theorem x_code_min : Cond.code Lib.Math.min.name Lib.Math.min.code 2 (some .int) ∈ LW := m_221
theorem x_inst_obj : Cond.instanceMethod Lib.objectInit ∈ LW := m_18
theorem x_code_obj : Cond.code Lib.objectInit ⟨#[0xb1]⟩ 1 none ∈ LW := m_19
theorem x_arr_int : Cond.arrayClass .int ∈ LW := m_39
abbrev XK : Type := Program × Launch × Env × Room × State × MethodId × Array Value × List Frame × Method × Code × (State → Prop)
def XW (E : XE) (K : XK) (nL N cells slots : Nat) (G : GW) (pc : Nat) (L : List (Nat × Value)) (st : List Value) : Prop :=
  ∀ (H : Heap) (locs : List Loc) (ls : Array Slot), K.2.2.2.2.1.heap.size + cells = N → va_P E.1 vwCl (wl E N G) H → va_S (fun q => xB E ≤ q) K.2.2.2.2.1.heap H locs → lv_has ls nL L →
    W K.1 K.2.1 K.2.2.1 K.2.2.2.1 K.2.2.2.2.1 K.2.2.2.2.2.1 K.2.2.2.2.2.2.1 K.2.2.2.2.2.2.2.1 K.2.2.2.2.2.2.2.2.1 K.2.2.2.2.2.2.2.2.2.1 H locs cells slots K.2.2.2.2.2.2.2.2.2.2 (F0 K.2.2.2.2.2.1 pc ls st)
/-- what holds in a walk of code cc of class own -/
def XC (E : XE) (K : XK) (cc : ByteArray) (nL : Nat) (own : String) (ret : Option FieldType) (fr lo mc ms : Nat) : Prop :=
  K.1.tables.exec = Jvm.exec ∧ K.2.2.2.2.2.2.2.2.2.1.code = cc ∧ K.2.2.2.2.2.2.2.2.2.1.maxLocals = nL ∧ K.2.2.2.2.1.vm.findClass own = some K.2.2.2.2.2.1.cls ∧ (∀ w ∈ LW, w.before K.2.2.2.2.2.2.1 K.2.2.2.2.1 = true) ∧ K.2.2.2.2.2.2.2.2.1.sig.returnType = ret ∧ K.2.2.2.2.2.2.2.2.1.locks = false ∧ va_K E.1 vwCl (xtys E) K.2.2.2.2.1 ∧ xB E ≤ K.2.2.2.2.1.heap.size ∧ XNw K.2.2.2.2.1 ∧ K.2.2.2.1 = { frames := fr, cells := mc, slots := ms, locals := lo }
def XQ (E : XE) (N : Nat) (res : Option Value) (G : GW) : Array Value → State → Outcome → State → Prop := fun _ st oc t => oc = .returned res ∧ t.heap.size = N ∧ va_P E.1 vwCl (wl E N G) t.heap ∧ va_F (fun q => xB E ≤ q) st t
def XZ (E : XE) (K : XK) (N mc ms : Nat) (res : Option Value) (G : GW) : Prop := K.2.2.2.2.2.2.2.2.2.2 = MQ K.2.2.2.2.2.2.2.1 (XQ E N res G) K.2.2.2.2.2.2.1 K.2.2.2.2.1 mc ms (fun q => xB E ≤ q)
def XPre (E : XE) (N : Nat) (G : GW) : State → Prop := fun U => xB E ≤ N ∧ U.heap.size = N ∧ XNw U ∧ va_P E.1 vwCl (wl E N G) U.heap ∧ va_K E.1 vwCl (xtys E) U
/-- a method's contract: called with As over the world G of N cells, it returns res over the world G' -/
def MF (E : XE) (y : MethodName) (cc : ByteArray) (maxL : Nat) (ret : Option FieldType) (fr lo mc ms : Nat) (As : List Value) (N : Nat) (G : GW) (res : Option Value) (G' : GW) : Prop :=
  ∀ l : Launch, Met l y (Cond.code y cc maxL ret :: LW) ({ frames := fr, cells := mc, slots := ms, locals := lo }) (va_Pc As (XPre E N G)) (XQ E (N + mc) res G') mc ms (fun q => xB E ≤ q)
theorem x_ofW {l : Launch} {y : MethodName} {ws ws' : List Cond} {rm : Room} {Pc : Array Value → State → Prop} {Qc : Array Value → State → Outcome → State → Prop} {mc ms : Nat} {free : Addr → Prop} {cc : ByteArray} {maxL : Nat} {ret : Option FieldType}
    (hy : plainFor y = true) (hw : ws = Cond.code y cc maxL ret :: ws')
    (body : ∀ p e s m args below meth c s₁, BodyLoose p l y (headSpec ws rm) cc maxL ret e s m args below meth c s₁ → c.maxLocals = maxL → Pc args s →
      W p l e (headSpec ws rm).room s m args below meth c s.heap [] 0 0 (MQ below Qc args s mc ms free) (entryFrame m args maxL)) : Met l y ws rm Pc Qc mc ms free := by
  refine MetFree.of_bodySF (code := cc) (maxLocals := maxL) (ret := ret) hy ?_ ?_
  · intro args s m h hn
    obtain ⟨meth, c, h1, h2, h3, h4, h5, h6, -, -⟩ := Cond.code_spec hn (atoms_spec (ws := ws) h _ (by rw [hw]; exact List.mem_cons_self))
    exact ⟨meth, c, h1, h2, h3, h4, h5, h6⟩
  · intro p e s m args below meth c s₁ B hml hP _
    have hh0 : s₁.heap = s.heap := by rw [B.state]; rfl
    obtain ⟨t, a1, o, b1, b2, b3⟩ := body p e s m args below meth c s₁ B hml hP s₁ hh0 (Stand.of_body B)
    exact ⟨t, o, a1, b1, b2, ⟨b3.1, b3.2⟩⟩
theorem MF.mk {E : XE} {y : MethodName} {cc : ByteArray} {maxL : Nat} {ret : Option FieldType} {fr lo mc ms : Nat} {As : List Value} {N : Nat} {G : GW} {res : Option Value} {G' : GW} (own : String) (ho : y.cls = own) (hy : plainFor y = true) (hn : Nat.ble (lg_sl As).length maxL = true)
    (h : ∀ K : XK, XC E K cc maxL own ret fr lo mc ms → XZ E K (N + mc) mc ms res G' → K.2.2.2.2.2.2.2.2.1.name = y.name → xB E ≤ N → XW E K maxL N 0 0 G 0 (lv_args 0 As) []) : MF E y cc maxL ret fr lo mc ms As N G res G' := by
  subst ho
  intro l
  refine x_ofW (cc := cc) (maxL := maxL) (ret := ret) hy rfl ?_
  intro p e s m args below meth c s₁ B hml hv
  obtain ⟨rfl, hBN, hsz, hnw, hP, hK⟩ := hv
  have hts : ∀ w ∈ (Cond.code y cc maxL ret :: LW), w.before _ s = true := atoms_spec (ws := Cond.code y cc maxL ret :: LW) B.pre
  have h1 := h (p, l, e, (headSpec (Cond.code y cc maxL ret :: LW) { frames := fr, cells := mc, slots := ms, locals := lo }).room, s, m, As.toArray, below, meth, c, MQ below (XQ E (N + mc) res G') As.toArray s mc ms (fun q => xB E ≤ q))
    ⟨B.exec, B.bytes, hml, findClass_of_methodNamed B.named, fun w hw => hts w (List.mem_cons_of_mem _ hw), B.returns, B.notSynchronized, hK, (show xB E ≤ s.heap.size by omega), hnw, rfl⟩ rfl (name_of_methodNamed B.named B.method).1 hBN
  rw [lg_entry_eq]
  exact h1 s.heap [] _ hsz hP va_S.rf (lv_entry As (Nat.le_of_ble_eq_true hn))

theorem x_iconst {E : XE} {K : XK} {nL N cells slots : Nat} {G : GW} {pc : Nat} {L : List (Nat × Value)} {st : List Value} {cc : ByteArray} {own : String} {ret : Option FieldType} {fr lo mc ms : Nat} (C : XC E K cc nL own ret fr lo mc ms) {n : Int} (v : Int32) (hd : decode cc pc = .ok (.iconst n, 1)) (hv : Int32.ofInt n = v) (k : XW E K nL N cells slots G (pc + 1) L (.int v :: st)) : XW E K nL N cells slots G pc L st := by
  obtain ⟨p, l, e, R, s, m, args, below, meth, c, Q⟩ := K
  obtain ⟨hx, hb, hml, hown, hts, hr, hlk, hK, hB, hNw, hR⟩ := C
  intro H locs ls h1 h2 h3 h4
  exact lv_iconst hx hb hd hv (k H locs ls h1 h2 h3 h4)
theorem x_bipush {E : XE} {K : XK} {nL N cells slots : Nat} {G : GW} {pc : Nat} {L : List (Nat × Value)} {st : List Value} {cc : ByteArray} {own : String} {ret : Option FieldType} {fr lo mc ms : Nat} (C : XC E K cc nL own ret fr lo mc ms) {n : Int} (v : Int32) (hd : decode cc pc = .ok (.bipush n, 2)) (hv : (Int8.ofInt n).toInt32 = v) (k : XW E K nL N cells slots G (pc + 2) L (.int v :: st)) : XW E K nL N cells slots G pc L st := by
  obtain ⟨p, l, e, R, s, m, args, below, meth, c, Q⟩ := K
  obtain ⟨hx, hb, hml, hown, hts, hr, hlk, hK, hB, hNw, hR⟩ := C
  intro H locs ls h1 h2 h3 h4
  exact lv_bipush hx hb hd hv (k H locs ls h1 h2 h3 h4)
theorem x_sipush {E : XE} {K : XK} {nL N cells slots : Nat} {G : GW} {pc : Nat} {L : List (Nat × Value)} {st : List Value} {cc : ByteArray} {own : String} {ret : Option FieldType} {fr lo mc ms : Nat} (C : XC E K cc nL own ret fr lo mc ms) {n : Int} (v : Int32) (hd : decode cc pc = .ok (.sipush n, 3)) (hv : (Int16.ofInt n).toInt32 = v) (k : XW E K nL N cells slots G (pc + 3) L (.int v :: st)) : XW E K nL N cells slots G pc L st := by
  obtain ⟨p, l, e, R, s, m, args, below, meth, c, Q⟩ := K
  obtain ⟨hx, hb, hml, hown, hts, hr, hlk, hK, hB, hNw, hR⟩ := C
  intro H locs ls h1 h2 h3 h4
  exact lv_sipush hx hb hd hv (k H locs ls h1 h2 h3 h4)
theorem x_lconst {E : XE} {K : XK} {nL N cells slots : Nat} {G : GW} {pc : Nat} {L : List (Nat × Value)} {st : List Value} {cc : ByteArray} {own : String} {ret : Option FieldType} {fr lo mc ms : Nat} (C : XC E K cc nL own ret fr lo mc ms) {n : Fin 2} (v : Int64) (hd : decode cc pc = .ok (.lconst n, 1)) (hv : Int64.ofNat (n : Nat) = v) (k : XW E K nL N cells slots G (pc + 1) L (.long v :: st)) : XW E K nL N cells slots G pc L st := by
  obtain ⟨p, l, e, R, s, m, args, below, meth, c, Q⟩ := K
  obtain ⟨hx, hb, hml, hown, hts, hr, hlk, hK, hB, hNw, hR⟩ := C
  intro H locs ls h1 h2 h3 h4
  exact lv_lconst hx hb hd hv (k H locs ls h1 h2 h3 h4)
theorem x_iload_n {E : XE} {K : XK} {nL N cells slots : Nat} {G : GW} {pc : Nat} {L : List (Nat × Value)} {st : List Value} {cc : ByteArray} {own : String} {ret : Option FieldType} {fr lo mc ms : Nat} (C : XC E K cc nL own ret fr lo mc ms) {kf : Fin 4} {x : Int32} (hd : decode cc pc = .ok (.iload_n kf, 1)) (j : Nat) (hl : L[j]? = some ((kf : Nat), .int x)) (k : XW E K nL N cells slots G (pc + 1) L (.int x :: st)) : XW E K nL N cells slots G pc L st := by
  obtain ⟨p, l, e, R, s, m, args, below, meth, c, Q⟩ := K
  obtain ⟨hx, hb, hml, hown, hts, hr, hlk, hK, hB, hNw, hR⟩ := C
  intro H locs ls h1 h2 h3 h4
  exact lv_iload_n hx hb hd rfl (lv_at h4 j hl) (k H locs ls h1 h2 h3 h4)
theorem x_iload {E : XE} {K : XK} {nL N cells slots : Nat} {G : GW} {pc : Nat} {L : List (Nat × Value)} {st : List Value} {cc : ByteArray} {own : String} {ret : Option FieldType} {fr lo mc ms : Nat} (C : XC E K cc nL own ret fr lo mc ms) {i : Nat} {x : Int32} (hd : decode cc pc = .ok (.iload i, 2)) (j : Nat) (hl : L[j]? = some (i, .int x)) (k : XW E K nL N cells slots G (pc + 2) L (.int x :: st)) : XW E K nL N cells slots G pc L st := by
  obtain ⟨p, l, e, R, s, m, args, below, meth, c, Q⟩ := K
  obtain ⟨hx, hb, hml, hown, hts, hr, hlk, hK, hB, hNw, hR⟩ := C
  intro H locs ls h1 h2 h3 h4
  exact lv_iload hx hb hd (lv_at h4 j hl) (k H locs ls h1 h2 h3 h4)
theorem x_fload_n {E : XE} {K : XK} {nL N cells slots : Nat} {G : GW} {pc : Nat} {L : List (Nat × Value)} {st : List Value} {cc : ByteArray} {own : String} {ret : Option FieldType} {fr lo mc ms : Nat} (C : XC E K cc nL own ret fr lo mc ms) {kf : Fin 4} {x : UInt32} (hd : decode cc pc = .ok (.fload_n kf, 1)) (j : Nat) (hl : L[j]? = some ((kf : Nat), .float x)) (k : XW E K nL N cells slots G (pc + 1) L (.float x :: st)) : XW E K nL N cells slots G pc L st := by
  obtain ⟨p, l, e, R, s, m, args, below, meth, c, Q⟩ := K
  obtain ⟨hx, hb, hml, hown, hts, hr, hlk, hK, hB, hNw, hR⟩ := C
  intro H locs ls h1 h2 h3 h4
  exact lv_fload_n hx hb hd rfl (lv_at h4 j hl) (k H locs ls h1 h2 h3 h4)
theorem x_aload_n {E : XE} {K : XK} {nL N cells slots : Nat} {G : GW} {pc : Nat} {L : List (Nat × Value)} {st : List Value} {cc : ByteArray} {own : String} {ret : Option FieldType} {fr lo mc ms : Nat} (C : XC E K cc nL own ret fr lo mc ms) {kf : Fin 4} {x : Nat} (hd : decode cc pc = .ok (.aload_n kf, 1)) (j : Nat) (hl : L[j]? = some ((kf : Nat), .ref x)) (k : XW E K nL N cells slots G (pc + 1) L (.ref x :: st)) : XW E K nL N cells slots G pc L st := by
  obtain ⟨p, l, e, R, s, m, args, below, meth, c, Q⟩ := K
  obtain ⟨hx, hb, hml, hown, hts, hr, hlk, hK, hB, hNw, hR⟩ := C
  intro H locs ls h1 h2 h3 h4
  exact lv_aload_n hx hb hd rfl (lv_at h4 j hl) (k H locs ls h1 h2 h3 h4)
theorem x_aload {E : XE} {K : XK} {nL N cells slots : Nat} {G : GW} {pc : Nat} {L : List (Nat × Value)} {st : List Value} {cc : ByteArray} {own : String} {ret : Option FieldType} {fr lo mc ms : Nat} (C : XC E K cc nL own ret fr lo mc ms) {i : Nat} {x : Nat} (hd : decode cc pc = .ok (.aload i, 2)) (j : Nat) (hl : L[j]? = some (i, .ref x)) (k : XW E K nL N cells slots G (pc + 2) L (.ref x :: st)) : XW E K nL N cells slots G pc L st := by
  obtain ⟨p, l, e, R, s, m, args, below, meth, c, Q⟩ := K
  obtain ⟨hx, hb, hml, hown, hts, hr, hlk, hK, hB, hNw, hR⟩ := C
  intro H locs ls h1 h2 h3 h4
  exact lv_aload hx hb hd (lv_at h4 j hl) (k H locs ls h1 h2 h3 h4)
theorem x_iadd {E : XE} {K : XK} {nL N cells slots : Nat} {G : GW} {pc : Nat} {L : List (Nat × Value)} {st : List Value} {cc : ByteArray} {own : String} {ret : Option FieldType} {fr lo mc ms : Nat} (C : XC E K cc nL own ret fr lo mc ms) {x y : Int32} (hd : decode cc pc = .ok (.iadd, 1)) (k : XW E K nL N cells slots G (pc + 1) L (.int (x + y) :: st)) : XW E K nL N cells slots G pc L (.int y :: .int x :: st) := by
  obtain ⟨p, l, e, R, s, m, args, below, meth, c, Q⟩ := K
  obtain ⟨hx, hb, hml, hown, hts, hr, hlk, hK, hB, hNw, hR⟩ := C
  intro H locs ls h1 h2 h3 h4
  exact lv_iadd hx hb hd (k H locs ls h1 h2 h3 h4)
theorem x_isub {E : XE} {K : XK} {nL N cells slots : Nat} {G : GW} {pc : Nat} {L : List (Nat × Value)} {st : List Value} {cc : ByteArray} {own : String} {ret : Option FieldType} {fr lo mc ms : Nat} (C : XC E K cc nL own ret fr lo mc ms) {x y : Int32} (hd : decode cc pc = .ok (.isub, 1)) (k : XW E K nL N cells slots G (pc + 1) L (.int (x - y) :: st)) : XW E K nL N cells slots G pc L (.int y :: .int x :: st) := by
  obtain ⟨p, l, e, R, s, m, args, below, meth, c, Q⟩ := K
  obtain ⟨hx, hb, hml, hown, hts, hr, hlk, hK, hB, hNw, hR⟩ := C
  intro H locs ls h1 h2 h3 h4
  exact lv_isub hx hb hd (k H locs ls h1 h2 h3 h4)
theorem x_imul {E : XE} {K : XK} {nL N cells slots : Nat} {G : GW} {pc : Nat} {L : List (Nat × Value)} {st : List Value} {cc : ByteArray} {own : String} {ret : Option FieldType} {fr lo mc ms : Nat} (C : XC E K cc nL own ret fr lo mc ms) {x y : Int32} (hd : decode cc pc = .ok (.imul, 1)) (k : XW E K nL N cells slots G (pc + 1) L (.int (x * y) :: st)) : XW E K nL N cells slots G pc L (.int y :: .int x :: st) := by
  obtain ⟨p, l, e, R, s, m, args, below, meth, c, Q⟩ := K
  obtain ⟨hx, hb, hml, hown, hts, hr, hlk, hK, hB, hNw, hR⟩ := C
  intro H locs ls h1 h2 h3 h4
  exact lv_imul hx hb hd (k H locs ls h1 h2 h3 h4)
theorem x_iand {E : XE} {K : XK} {nL N cells slots : Nat} {G : GW} {pc : Nat} {L : List (Nat × Value)} {st : List Value} {cc : ByteArray} {own : String} {ret : Option FieldType} {fr lo mc ms : Nat} (C : XC E K cc nL own ret fr lo mc ms) {x y : Int32} (hd : decode cc pc = .ok (.iand, 1)) (k : XW E K nL N cells slots G (pc + 1) L (.int (x &&& y) :: st)) : XW E K nL N cells slots G pc L (.int y :: .int x :: st) := by
  obtain ⟨p, l, e, R, s, m, args, below, meth, c, Q⟩ := K
  obtain ⟨hx, hb, hml, hown, hts, hr, hlk, hK, hB, hNw, hR⟩ := C
  intro H locs ls h1 h2 h3 h4
  exact lv_iand hx hb hd (k H locs ls h1 h2 h3 h4)
theorem x_ixor {E : XE} {K : XK} {nL N cells slots : Nat} {G : GW} {pc : Nat} {L : List (Nat × Value)} {st : List Value} {cc : ByteArray} {own : String} {ret : Option FieldType} {fr lo mc ms : Nat} (C : XC E K cc nL own ret fr lo mc ms) {x y : Int32} (hd : decode cc pc = .ok (.ixor, 1)) (k : XW E K nL N cells slots G (pc + 1) L (.int (x ^^^ y) :: st)) : XW E K nL N cells slots G pc L (.int y :: .int x :: st) := by
  obtain ⟨p, l, e, R, s, m, args, below, meth, c, Q⟩ := K
  obtain ⟨hx, hb, hml, hown, hts, hr, hlk, hK, hB, hNw, hR⟩ := C
  intro H locs ls h1 h2 h3 h4
  exact lv_ixor hx hb hd (k H locs ls h1 h2 h3 h4)
theorem x_idiv {E : XE} {K : XK} {nL N cells slots : Nat} {G : GW} {pc : Nat} {L : List (Nat × Value)} {st : List Value} {cc : ByteArray} {own : String} {ret : Option FieldType} {fr lo mc ms : Nat} (C : XC E K cc nL own ret fr lo mc ms) {x y : Int32} (hd : decode cc pc = .ok (.idiv, 1)) (hne : ¬ y = 0) (k : XW E K nL N cells slots G (pc + 1) L (.int (x / y) :: st)) : XW E K nL N cells slots G pc L (.int y :: .int x :: st) := by
  obtain ⟨p, l, e, R, s, m, args, below, meth, c, Q⟩ := K
  obtain ⟨hx, hb, hml, hown, hts, hr, hlk, hK, hB, hNw, hR⟩ := C
  intro H locs ls h1 h2 h3 h4
  exact lv_idiv hx hb hd hne (k H locs ls h1 h2 h3 h4)
theorem x_irem {E : XE} {K : XK} {nL N cells slots : Nat} {G : GW} {pc : Nat} {L : List (Nat × Value)} {st : List Value} {cc : ByteArray} {own : String} {ret : Option FieldType} {fr lo mc ms : Nat} (C : XC E K cc nL own ret fr lo mc ms) {x y : Int32} (hd : decode cc pc = .ok (.irem, 1)) (hne : ¬ y = 0) (k : XW E K nL N cells slots G (pc + 1) L (.int (x - x / y * y) :: st)) : XW E K nL N cells slots G pc L (.int y :: .int x :: st) := by
  obtain ⟨p, l, e, R, s, m, args, below, meth, c, Q⟩ := K
  obtain ⟨hx, hb, hml, hown, hts, hr, hlk, hK, hB, hNw, hR⟩ := C
  intro H locs ls h1 h2 h3 h4
  exact lv_irem hx hb hd hne (k H locs ls h1 h2 h3 h4)
theorem x_ineg {E : XE} {K : XK} {nL N cells slots : Nat} {G : GW} {pc : Nat} {L : List (Nat × Value)} {st : List Value} {cc : ByteArray} {own : String} {ret : Option FieldType} {fr lo mc ms : Nat} (C : XC E K cc nL own ret fr lo mc ms) {x : Int32} (hd : decode cc pc = .ok (.ineg, 1)) (k : XW E K nL N cells slots G (pc + 1) L (.int (-x) :: st)) : XW E K nL N cells slots G pc L (.int x :: st) := by
  obtain ⟨p, l, e, R, s, m, args, below, meth, c, Q⟩ := K
  obtain ⟨hx, hb, hml, hown, hts, hr, hlk, hK, hB, hNw, hR⟩ := C
  intro H locs ls h1 h2 h3 h4
  exact lv_ineg hx hb hd (k H locs ls h1 h2 h3 h4)
theorem x_ladd {E : XE} {K : XK} {nL N cells slots : Nat} {G : GW} {pc : Nat} {L : List (Nat × Value)} {st : List Value} {cc : ByteArray} {own : String} {ret : Option FieldType} {fr lo mc ms : Nat} (C : XC E K cc nL own ret fr lo mc ms) {x y : Int64} (hd : decode cc pc = .ok (.ladd, 1)) (k : XW E K nL N cells slots G (pc + 1) L (.long (x + y) :: st)) : XW E K nL N cells slots G pc L (.long y :: .long x :: st) := by
  obtain ⟨p, l, e, R, s, m, args, below, meth, c, Q⟩ := K
  obtain ⟨hx, hb, hml, hown, hts, hr, hlk, hK, hB, hNw, hR⟩ := C
  intro H locs ls h1 h2 h3 h4
  exact lv_ladd hx hb hd (k H locs ls h1 h2 h3 h4)
theorem x_i2l {E : XE} {K : XK} {nL N cells slots : Nat} {G : GW} {pc : Nat} {L : List (Nat × Value)} {st : List Value} {cc : ByteArray} {own : String} {ret : Option FieldType} {fr lo mc ms : Nat} (C : XC E K cc nL own ret fr lo mc ms) {x : Int32} (hd : decode cc pc = .ok (.i2l, 1)) (k : XW E K nL N cells slots G (pc + 1) L (.long x.toInt64 :: st)) : XW E K nL N cells slots G pc L (.int x :: st) := by
  obtain ⟨p, l, e, R, s, m, args, below, meth, c, Q⟩ := K
  obtain ⟨hx, hb, hml, hown, hts, hr, hlk, hK, hB, hNw, hR⟩ := C
  intro H locs ls h1 h2 h3 h4
  exact lv_i2l hx hb hd rfl (k H locs ls h1 h2 h3 h4)
theorem x_i2c {E : XE} {K : XK} {nL N cells slots : Nat} {G : GW} {pc : Nat} {L : List (Nat × Value)} {st : List Value} {cc : ByteArray} {own : String} {ret : Option FieldType} {fr lo mc ms : Nat} (C : XC E K cc nL own ret fr lo mc ms) {x : Int32} (hd : decode cc pc = .ok (.i2c, 1)) (k : XW E K nL N cells slots G (pc + 1) L (.int (x.toUInt32 % 65536).toInt32 :: st)) : XW E K nL N cells slots G pc L (.int x :: st) := by
  obtain ⟨p, l, e, R, s, m, args, below, meth, c, Q⟩ := K
  obtain ⟨hx, hb, hml, hown, hts, hr, hlk, hK, hB, hNw, hR⟩ := C
  intro H locs ls h1 h2 h3 h4
  exact lv_i2c hx hb hd rfl (k H locs ls h1 h2 h3 h4)
theorem x_dup {E : XE} {K : XK} {nL N cells slots : Nat} {G : GW} {pc : Nat} {L : List (Nat × Value)} {st : List Value} {cc : ByteArray} {own : String} {ret : Option FieldType} {fr lo mc ms : Nat} (C : XC E K cc nL own ret fr lo mc ms) {v : Value} (hd : decode cc pc = .ok (.dup, 1)) (hv : v.category = 1) (k : XW E K nL N cells slots G (pc + 1) L (v :: v :: st)) : XW E K nL N cells slots G pc L (v :: st) := by
  obtain ⟨p, l, e, R, s, m, args, below, meth, c, Q⟩ := K
  obtain ⟨hx, hb, hml, hown, hts, hr, hlk, hK, hB, hNw, hR⟩ := C
  intro H locs ls h1 h2 h3 h4
  exact lv_dup hx hb hd hv (k H locs ls h1 h2 h3 h4)
theorem x_pop {E : XE} {K : XK} {nL N cells slots : Nat} {G : GW} {pc : Nat} {L : List (Nat × Value)} {st : List Value} {cc : ByteArray} {own : String} {ret : Option FieldType} {fr lo mc ms : Nat} (C : XC E K cc nL own ret fr lo mc ms) {v : Value} (hd : decode cc pc = .ok (.pop, 1)) (hv : v.category = 1) (k : XW E K nL N cells slots G (pc + 1) L st) : XW E K nL N cells slots G pc L (v :: st) := by
  obtain ⟨p, l, e, R, s, m, args, below, meth, c, Q⟩ := K
  obtain ⟨hx, hb, hml, hown, hts, hr, hlk, hK, hB, hNw, hR⟩ := C
  intro H locs ls h1 h2 h3 h4
  exact lv_pop hx hb hd hv (k H locs ls h1 h2 h3 h4)
theorem x_dup2_11 {E : XE} {K : XK} {nL N cells slots : Nat} {G : GW} {pc : Nat} {L : List (Nat × Value)} {st : List Value} {cc : ByteArray} {own : String} {ret : Option FieldType} {fr lo mc ms : Nat} (C : XC E K cc nL own ret fr lo mc ms) {v w : Value} (hd : decode cc pc = .ok (.dup2, 1)) (hv : v.category = 1) (hw : w.category = 1) (k : XW E K nL N cells slots G (pc + 1) L (v :: w :: v :: w :: st)) : XW E K nL N cells slots G pc L (v :: w :: st) := by
  obtain ⟨p, l, e, R, s, m, args, below, meth, c, Q⟩ := K
  obtain ⟨hx, hb, hml, hown, hts, hr, hlk, hK, hB, hNw, hR⟩ := C
  intro H locs ls h1 h2 h3 h4
  exact lv_dup2_11 hx hb hd hv hw (k H locs ls h1 h2 h3 h4)
theorem x_istore_n {E : XE} {K : XK} {nL N cells slots : Nat} {G : GW} {pc : Nat} {L : List (Nat × Value)} {st : List Value} {cc : ByteArray} {own : String} {ret : Option FieldType} {fr lo mc ms : Nat} (C : XC E K cc nL own ret fr lo mc ms) {kf : Fin 4} {x : Int32} {L' : List (Nat × Value)} (hd : decode cc pc = .ok (.istore_n kf, 1)) (hn : Nat.blt (kf : Nat) nL = true) (hl : ((kf : Nat), Value.int x) :: L.filter (fun q => !(q.1 == (kf : Nat)) && !(q.1 + 1 == (kf : Nat) && q.2.category == 2)) = L') (k : XW E K nL N cells slots G (pc + 1) L' st) : XW E K nL N cells slots G pc L (.int x :: st) := by
  obtain ⟨p, l, e, R, s, m, args, below, meth, c, Q⟩ := K
  obtain ⟨hx, hb, hml, hown, hts, hr, hlk, hK, hB, hNw, hR⟩ := C
  intro H locs ls h1 h2 h3 h4
  exact lv_istore_n hx hb hd rfl h4 (Nat.le_of_ble_eq_true hn) hl (fun ls h => k H locs ls h1 h2 h3 h)
theorem x_istore {E : XE} {K : XK} {nL N cells slots : Nat} {G : GW} {pc : Nat} {L : List (Nat × Value)} {st : List Value} {cc : ByteArray} {own : String} {ret : Option FieldType} {fr lo mc ms : Nat} (C : XC E K cc nL own ret fr lo mc ms) {i : Nat} {x : Int32} {L' : List (Nat × Value)} (hd : decode cc pc = .ok (.istore i, 2)) (hn : Nat.blt i nL = true) (hl : (i, Value.int x) :: L.filter (fun q => !(q.1 == i) && !(q.1 + 1 == i && q.2.category == 2)) = L') (k : XW E K nL N cells slots G (pc + 2) L' st) : XW E K nL N cells slots G pc L (.int x :: st) := by
  obtain ⟨p, l, e, R, s, m, args, below, meth, c, Q⟩ := K
  obtain ⟨hx, hb, hml, hown, hts, hr, hlk, hK, hB, hNw, hR⟩ := C
  intro H locs ls h1 h2 h3 h4
  exact lv_istore hx hb hd h4 (Nat.le_of_ble_eq_true hn) hl (fun ls h => k H locs ls h1 h2 h3 h)
theorem x_fstore_n {E : XE} {K : XK} {nL N cells slots : Nat} {G : GW} {pc : Nat} {L : List (Nat × Value)} {st : List Value} {cc : ByteArray} {own : String} {ret : Option FieldType} {fr lo mc ms : Nat} (C : XC E K cc nL own ret fr lo mc ms) {kf : Fin 4} {x : UInt32} {L' : List (Nat × Value)} (hd : decode cc pc = .ok (.fstore_n kf, 1)) (hn : Nat.blt (kf : Nat) nL = true) (hl : ((kf : Nat), Value.float x) :: L.filter (fun q => !(q.1 == (kf : Nat)) && !(q.1 + 1 == (kf : Nat) && q.2.category == 2)) = L') (k : XW E K nL N cells slots G (pc + 1) L' st) : XW E K nL N cells slots G pc L (.float x :: st) := by
  obtain ⟨p, l, e, R, s, m, args, below, meth, c, Q⟩ := K
  obtain ⟨hx, hb, hml, hown, hts, hr, hlk, hK, hB, hNw, hR⟩ := C
  intro H locs ls h1 h2 h3 h4
  exact lv_fstore_n hx hb hd rfl h4 (Nat.le_of_ble_eq_true hn) hl (fun ls h => k H locs ls h1 h2 h3 h)
theorem x_astore_n {E : XE} {K : XK} {nL N cells slots : Nat} {G : GW} {pc : Nat} {L : List (Nat × Value)} {st : List Value} {cc : ByteArray} {own : String} {ret : Option FieldType} {fr lo mc ms : Nat} (C : XC E K cc nL own ret fr lo mc ms) {kf : Fin 4} {x : Nat} {L' : List (Nat × Value)} (hd : decode cc pc = .ok (.astore_n kf, 1)) (hn : Nat.blt (kf : Nat) nL = true) (hl : ((kf : Nat), Value.ref x) :: L.filter (fun q => !(q.1 == (kf : Nat)) && !(q.1 + 1 == (kf : Nat) && q.2.category == 2)) = L') (k : XW E K nL N cells slots G (pc + 1) L' st) : XW E K nL N cells slots G pc L (.ref x :: st) := by
  obtain ⟨p, l, e, R, s, m, args, below, meth, c, Q⟩ := K
  obtain ⟨hx, hb, hml, hown, hts, hr, hlk, hK, hB, hNw, hR⟩ := C
  intro H locs ls h1 h2 h3 h4
  exact lv_astore_n hx hb hd rfl h4 (Nat.le_of_ble_eq_true hn) hl (fun ls h => k H locs ls h1 h2 h3 h)
theorem x_iinc {E : XE} {K : XK} {nL N cells slots : Nat} {G : GW} {pc : Nat} {L : List (Nat × Value)} {st : List Value} {cc : ByteArray} {own : String} {ret : Option FieldType} {fr lo mc ms : Nat} (C : XC E K cc nL own ret fr lo mc ms) {i : Nat} {n : Int} {x : Int32} {L' : List (Nat × Value)} (v : Int32) (hd : decode cc pc = .ok (.iinc i n, 3)) (j : Nat) (hj : L[j]? = some (i, .int x)) (hv : x + Int32.ofInt n = v) (hn : Nat.blt i nL = true) (hl : (i, Value.int v) :: L.filter (fun q => !(q.1 == i) && !(q.1 + 1 == i && q.2.category == 2)) = L') (k : XW E K nL N cells slots G (pc + 3) L' st) : XW E K nL N cells slots G pc L st := by
  obtain ⟨p, l, e, R, s, m, args, below, meth, c, Q⟩ := K
  obtain ⟨hx, hb, hml, hown, hts, hr, hlk, hK, hB, hNw, hR⟩ := C
  intro H locs ls h1 h2 h3 h4
  exact lv_iinc hx hb hd h4 hj hv (Nat.le_of_ble_eq_true hn) hl (fun ls h => k H locs ls h1 h2 h3 h)
theorem x_perm {E : XE} {K : XK} {nL N cells slots : Nat} {G : GW} {pc : Nat} {L L' : List (Nat × Value)} {st : List Value} (ks : List Nat) (hp : lv_pick L ks = L') (k : XW E K nL N cells slots G pc L' st) : XW E K nL N cells slots G pc L st := fun H locs ls h1 h2 h3 h4 => k H locs ls h1 h2 h3 (lv_sub h4 ks hp)
theorem x_to {E : XE} {K : XK} {nL N cells slots : Nat} {G G' : GW} {pc : Nat} {L L' : List (Nat × Value)} {st st' : List Value} (hL : L = L') (hG : G = G') (hs : st = st') (k : XW E K nL N cells slots G' pc L' st') : XW E K nL N cells slots G pc L st := by
  subst hL; subst hG; subst hs; exact k
theorem x_G {E : XE} {K : XK} {nL N cells slots : Nat} {G G' : GW} {pc : Nat} {L : List (Nat × Value)} {st : List Value} (hG : G = G') (k : XW E K nL N cells slots G' pc L st) : XW E K nL N cells slots G pc L st := by
  subst hG; exact k
theorem x_v {E : XE} {K : XK} {nL N cells slots : Nat} {G : GW} {pc : Nat} {L : List (Nat × Value)} {st : List Value} {v w : Value} (hv : v = w) (k : XW E K nL N cells slots G pc L (w :: st)) : XW E K nL N cells slots G pc L (v :: st) := by
  subst hv; exact k
theorem x_topi {E : XE} {K : XK} {nL N cells slots : Nat} {G : GW} {pc : Nat} {L : List (Nat × Value)} {st : List Value} {x : Int32} (k : ∀ z : Int32, z = x → XW E K nL N cells slots G pc L (.int z :: st)) : XW E K nL N cells slots G pc L (.int x :: st) := k x rfl
theorem x_if_eq {E : XE} {K : XK} {nL N cells slots : Nat} {G : GW} {pc : Nat} {L : List (Nat × Value)} {st : List Value} {cc : ByteArray} {own : String} {ret : Option FieldType} {fr lo mc ms : Nat} (C : XC E K cc nL own ret fr lo mc ms) {x : Int32} {off : Int} (tgt : Nat) (hd : decode cc pc = .ok (.ifCond .eq off, 3)) (ht : (pc : Int) + off = (tgt : Int)) (kt : x = 0 → XW E K nL N cells slots G tgt L st) (kf : ¬ x = 0 → XW E K nL N cells slots G (pc + 3) L st) : XW E K nL N cells slots G pc L (.int x :: st) := by
  obtain ⟨p, l, e, R, s, m, args, below, meth, c, Q⟩ := K
  obtain ⟨hx, hb, hml, hown, hts, hr, hlk, hK, hB, hNw, hR⟩ := C
  intro H locs ls h1 h2 h3 h4
  exact lv_if_eq hx hb hd ht (fun q => kt q H locs ls h1 h2 h3 h4) (fun q => kf q H locs ls h1 h2 h3 h4)
theorem x_icmp_eq {E : XE} {K : XK} {nL N cells slots : Nat} {G : GW} {pc : Nat} {L : List (Nat × Value)} {st : List Value} {cc : ByteArray} {own : String} {ret : Option FieldType} {fr lo mc ms : Nat} (C : XC E K cc nL own ret fr lo mc ms) {x y : Int32} {off : Int} (tgt : Nat) (hd : decode cc pc = .ok (.if_icmp .eq off, 3)) (ht : (pc : Int) + off = (tgt : Int)) (kt : x = y → XW E K nL N cells slots G tgt L st) (kf : ¬ x = y → XW E K nL N cells slots G (pc + 3) L st) : XW E K nL N cells slots G pc L (.int y :: .int x :: st) := by
  obtain ⟨p, l, e, R, s, m, args, below, meth, c, Q⟩ := K
  obtain ⟨hx, hb, hml, hown, hts, hr, hlk, hK, hB, hNw, hR⟩ := C
  intro H locs ls h1 h2 h3 h4
  exact lv_icmp_eq hx hb hd ht (fun q => kt q H locs ls h1 h2 h3 h4) (fun q => kf q H locs ls h1 h2 h3 h4)
theorem x_if_ne {E : XE} {K : XK} {nL N cells slots : Nat} {G : GW} {pc : Nat} {L : List (Nat × Value)} {st : List Value} {cc : ByteArray} {own : String} {ret : Option FieldType} {fr lo mc ms : Nat} (C : XC E K cc nL own ret fr lo mc ms) {x : Int32} {off : Int} (tgt : Nat) (hd : decode cc pc = .ok (.ifCond .ne off, 3)) (ht : (pc : Int) + off = (tgt : Int)) (kt : ¬ x = 0 → XW E K nL N cells slots G tgt L st) (kf : x = 0 → XW E K nL N cells slots G (pc + 3) L st) : XW E K nL N cells slots G pc L (.int x :: st) := by
  obtain ⟨p, l, e, R, s, m, args, below, meth, c, Q⟩ := K
  obtain ⟨hx, hb, hml, hown, hts, hr, hlk, hK, hB, hNw, hR⟩ := C
  intro H locs ls h1 h2 h3 h4
  exact lv_if_ne hx hb hd ht (fun q => kt q H locs ls h1 h2 h3 h4) (fun q => kf q H locs ls h1 h2 h3 h4)
theorem x_icmp_ne {E : XE} {K : XK} {nL N cells slots : Nat} {G : GW} {pc : Nat} {L : List (Nat × Value)} {st : List Value} {cc : ByteArray} {own : String} {ret : Option FieldType} {fr lo mc ms : Nat} (C : XC E K cc nL own ret fr lo mc ms) {x y : Int32} {off : Int} (tgt : Nat) (hd : decode cc pc = .ok (.if_icmp .ne off, 3)) (ht : (pc : Int) + off = (tgt : Int)) (kt : ¬ x = y → XW E K nL N cells slots G tgt L st) (kf : x = y → XW E K nL N cells slots G (pc + 3) L st) : XW E K nL N cells slots G pc L (.int y :: .int x :: st) := by
  obtain ⟨p, l, e, R, s, m, args, below, meth, c, Q⟩ := K
  obtain ⟨hx, hb, hml, hown, hts, hr, hlk, hK, hB, hNw, hR⟩ := C
  intro H locs ls h1 h2 h3 h4
  exact lv_icmp_ne hx hb hd ht (fun q => kt q H locs ls h1 h2 h3 h4) (fun q => kf q H locs ls h1 h2 h3 h4)
theorem x_if_lt {E : XE} {K : XK} {nL N cells slots : Nat} {G : GW} {pc : Nat} {L : List (Nat × Value)} {st : List Value} {cc : ByteArray} {own : String} {ret : Option FieldType} {fr lo mc ms : Nat} (C : XC E K cc nL own ret fr lo mc ms) {x : Int32} {off : Int} (tgt : Nat) (hd : decode cc pc = .ok (.ifCond .lt off, 3)) (ht : (pc : Int) + off = (tgt : Int)) (kt : x < 0 → XW E K nL N cells slots G tgt L st) (kf : ¬ x < 0 → XW E K nL N cells slots G (pc + 3) L st) : XW E K nL N cells slots G pc L (.int x :: st) := by
  obtain ⟨p, l, e, R, s, m, args, below, meth, c, Q⟩ := K
  obtain ⟨hx, hb, hml, hown, hts, hr, hlk, hK, hB, hNw, hR⟩ := C
  intro H locs ls h1 h2 h3 h4
  exact lv_if_lt hx hb hd ht (fun q => kt q H locs ls h1 h2 h3 h4) (fun q => kf q H locs ls h1 h2 h3 h4)
theorem x_icmp_lt {E : XE} {K : XK} {nL N cells slots : Nat} {G : GW} {pc : Nat} {L : List (Nat × Value)} {st : List Value} {cc : ByteArray} {own : String} {ret : Option FieldType} {fr lo mc ms : Nat} (C : XC E K cc nL own ret fr lo mc ms) {x y : Int32} {off : Int} (tgt : Nat) (hd : decode cc pc = .ok (.if_icmp .lt off, 3)) (ht : (pc : Int) + off = (tgt : Int)) (kt : x < y → XW E K nL N cells slots G tgt L st) (kf : ¬ x < y → XW E K nL N cells slots G (pc + 3) L st) : XW E K nL N cells slots G pc L (.int y :: .int x :: st) := by
  obtain ⟨p, l, e, R, s, m, args, below, meth, c, Q⟩ := K
  obtain ⟨hx, hb, hml, hown, hts, hr, hlk, hK, hB, hNw, hR⟩ := C
  intro H locs ls h1 h2 h3 h4
  exact lv_icmp_lt hx hb hd ht (fun q => kt q H locs ls h1 h2 h3 h4) (fun q => kf q H locs ls h1 h2 h3 h4)
theorem x_if_ge {E : XE} {K : XK} {nL N cells slots : Nat} {G : GW} {pc : Nat} {L : List (Nat × Value)} {st : List Value} {cc : ByteArray} {own : String} {ret : Option FieldType} {fr lo mc ms : Nat} (C : XC E K cc nL own ret fr lo mc ms) {x : Int32} {off : Int} (tgt : Nat) (hd : decode cc pc = .ok (.ifCond .ge off, 3)) (ht : (pc : Int) + off = (tgt : Int)) (kt : 0 ≤ x → XW E K nL N cells slots G tgt L st) (kf : ¬ 0 ≤ x → XW E K nL N cells slots G (pc + 3) L st) : XW E K nL N cells slots G pc L (.int x :: st) := by
  obtain ⟨p, l, e, R, s, m, args, below, meth, c, Q⟩ := K
  obtain ⟨hx, hb, hml, hown, hts, hr, hlk, hK, hB, hNw, hR⟩ := C
  intro H locs ls h1 h2 h3 h4
  exact lv_if_ge hx hb hd ht (fun q => kt q H locs ls h1 h2 h3 h4) (fun q => kf q H locs ls h1 h2 h3 h4)
theorem x_icmp_ge {E : XE} {K : XK} {nL N cells slots : Nat} {G : GW} {pc : Nat} {L : List (Nat × Value)} {st : List Value} {cc : ByteArray} {own : String} {ret : Option FieldType} {fr lo mc ms : Nat} (C : XC E K cc nL own ret fr lo mc ms) {x y : Int32} {off : Int} (tgt : Nat) (hd : decode cc pc = .ok (.if_icmp .ge off, 3)) (ht : (pc : Int) + off = (tgt : Int)) (kt : y ≤ x → XW E K nL N cells slots G tgt L st) (kf : ¬ y ≤ x → XW E K nL N cells slots G (pc + 3) L st) : XW E K nL N cells slots G pc L (.int y :: .int x :: st) := by
  obtain ⟨p, l, e, R, s, m, args, below, meth, c, Q⟩ := K
  obtain ⟨hx, hb, hml, hown, hts, hr, hlk, hK, hB, hNw, hR⟩ := C
  intro H locs ls h1 h2 h3 h4
  exact lv_icmp_ge hx hb hd ht (fun q => kt q H locs ls h1 h2 h3 h4) (fun q => kf q H locs ls h1 h2 h3 h4)
theorem x_if_gt {E : XE} {K : XK} {nL N cells slots : Nat} {G : GW} {pc : Nat} {L : List (Nat × Value)} {st : List Value} {cc : ByteArray} {own : String} {ret : Option FieldType} {fr lo mc ms : Nat} (C : XC E K cc nL own ret fr lo mc ms) {x : Int32} {off : Int} (tgt : Nat) (hd : decode cc pc = .ok (.ifCond .gt off, 3)) (ht : (pc : Int) + off = (tgt : Int)) (kt : 0 < x → XW E K nL N cells slots G tgt L st) (kf : ¬ 0 < x → XW E K nL N cells slots G (pc + 3) L st) : XW E K nL N cells slots G pc L (.int x :: st) := by
  obtain ⟨p, l, e, R, s, m, args, below, meth, c, Q⟩ := K
  obtain ⟨hx, hb, hml, hown, hts, hr, hlk, hK, hB, hNw, hR⟩ := C
  intro H locs ls h1 h2 h3 h4
  exact lv_if_gt hx hb hd ht (fun q => kt q H locs ls h1 h2 h3 h4) (fun q => kf q H locs ls h1 h2 h3 h4)
theorem x_icmp_gt {E : XE} {K : XK} {nL N cells slots : Nat} {G : GW} {pc : Nat} {L : List (Nat × Value)} {st : List Value} {cc : ByteArray} {own : String} {ret : Option FieldType} {fr lo mc ms : Nat} (C : XC E K cc nL own ret fr lo mc ms) {x y : Int32} {off : Int} (tgt : Nat) (hd : decode cc pc = .ok (.if_icmp .gt off, 3)) (ht : (pc : Int) + off = (tgt : Int)) (kt : y < x → XW E K nL N cells slots G tgt L st) (kf : ¬ y < x → XW E K nL N cells slots G (pc + 3) L st) : XW E K nL N cells slots G pc L (.int y :: .int x :: st) := by
  obtain ⟨p, l, e, R, s, m, args, below, meth, c, Q⟩ := K
  obtain ⟨hx, hb, hml, hown, hts, hr, hlk, hK, hB, hNw, hR⟩ := C
  intro H locs ls h1 h2 h3 h4
  exact lv_icmp_gt hx hb hd ht (fun q => kt q H locs ls h1 h2 h3 h4) (fun q => kf q H locs ls h1 h2 h3 h4)
theorem x_if_le {E : XE} {K : XK} {nL N cells slots : Nat} {G : GW} {pc : Nat} {L : List (Nat × Value)} {st : List Value} {cc : ByteArray} {own : String} {ret : Option FieldType} {fr lo mc ms : Nat} (C : XC E K cc nL own ret fr lo mc ms) {x : Int32} {off : Int} (tgt : Nat) (hd : decode cc pc = .ok (.ifCond .le off, 3)) (ht : (pc : Int) + off = (tgt : Int)) (kt : x ≤ 0 → XW E K nL N cells slots G tgt L st) (kf : ¬ x ≤ 0 → XW E K nL N cells slots G (pc + 3) L st) : XW E K nL N cells slots G pc L (.int x :: st) := by
  obtain ⟨p, l, e, R, s, m, args, below, meth, c, Q⟩ := K
  obtain ⟨hx, hb, hml, hown, hts, hr, hlk, hK, hB, hNw, hR⟩ := C
  intro H locs ls h1 h2 h3 h4
  exact lv_if_le hx hb hd ht (fun q => kt q H locs ls h1 h2 h3 h4) (fun q => kf q H locs ls h1 h2 h3 h4)
theorem x_icmp_le {E : XE} {K : XK} {nL N cells slots : Nat} {G : GW} {pc : Nat} {L : List (Nat × Value)} {st : List Value} {cc : ByteArray} {own : String} {ret : Option FieldType} {fr lo mc ms : Nat} (C : XC E K cc nL own ret fr lo mc ms) {x y : Int32} {off : Int} (tgt : Nat) (hd : decode cc pc = .ok (.if_icmp .le off, 3)) (ht : (pc : Int) + off = (tgt : Int)) (kt : x ≤ y → XW E K nL N cells slots G tgt L st) (kf : ¬ x ≤ y → XW E K nL N cells slots G (pc + 3) L st) : XW E K nL N cells slots G pc L (.int y :: .int x :: st) := by
  obtain ⟨p, l, e, R, s, m, args, below, meth, c, Q⟩ := K
  obtain ⟨hx, hb, hml, hown, hts, hr, hlk, hK, hB, hNw, hR⟩ := C
  intro H locs ls h1 h2 h3 h4
  exact lv_icmp_le hx hb hd ht (fun q => kt q H locs ls h1 h2 h3 h4) (fun q => kf q H locs ls h1 h2 h3 h4)
theorem x_goto {E : XE} {K : XK} {nL N cells slots : Nat} {G : GW} {pc : Nat} {L : List (Nat × Value)} {st : List Value} {cc : ByteArray} {own : String} {ret : Option FieldType} {fr lo mc ms : Nat} (C : XC E K cc nL own ret fr lo mc ms) {off : Int} (tgt : Nat) (hd : decode cc pc = .ok (.goto off, 3)) (ht : (pc : Int) + off = (tgt : Int)) (k : XW E K nL N cells slots G tgt L st) : XW E K nL N cells slots G pc L st := by
  obtain ⟨p, l, e, R, s, m, args, below, meth, c, Q⟩ := K
  obtain ⟨hx, hb, hml, hown, hts, hr, hlk, hK, hB, hNw, hR⟩ := C
  intro H locs ls h1 h2 h3 h4
  exact lv_goto hx hb hd ht (k H locs ls h1 h2 h3 h4)
theorem x_lookup {E : XE} {K : XK} {nL N cells slots : Nat} {G : GW} {pc : Nat} {L : List (Nat × Value)} {st : List Value} {cc : ByteArray} {own : String} {ret : Option FieldType} {fr lo mc ms : Nat} (C : XC E K cc nL own ret fr lo mc ms) {dflt : Int} {ps : Array (Int × Int)} {len : Nat} {x : Int32} {off : Int} (tgt : Nat) (hd : decode cc pc = .ok (.lookupswitch dflt ps, len)) (hp : (ps.toList.zip (ps.toList.drop 1)).all (fun (a, next) => a.1 < next.1) = true) (ho : Op.lookupswitch.offset ps.toList dflt x.toInt = off) (ht : (pc : Int) + off = (tgt : Int)) (k : XW E K nL N cells slots G tgt L st) : XW E K nL N cells slots G pc L (.int x :: st) := by
  obtain ⟨p, l, e, R, s, m, args, below, meth, c, Q⟩ := K
  obtain ⟨hx, hb, hml, hown, hts, hr, hlk, hK, hB, hNw, hR⟩ := C
  intro H locs ls h1 h2 h3 h4
  exact lv_lookup hx hb hd hp ho ht (k H locs ls h1 h2 h3 h4)
theorem x_tableOut {E : XE} {K : XK} {nL N cells slots : Nat} {G : GW} {pc : Nat} {L : List (Nat × Value)} {st : List Value} {cc : ByteArray} {own : String} {ret : Option FieldType} {fr lo mc ms : Nat} (C : XC E K cc nL own ret fr lo mc ms) {dflt lw hi : Int} {offs : Array Int} {len : Nat} {x : Int32} (tgt : Nat) (hd : decode cc pc = .ok (.tableswitch dflt lw hi offs, len)) (h : x.toInt < lw ∨ hi < x.toInt) (ht : (pc : Int) + dflt = (tgt : Int)) (k : XW E K nL N cells slots G tgt L st) : XW E K nL N cells slots G pc L (.int x :: st) := by
  obtain ⟨p, l, e, R, s, m, args, below, meth, c, Q⟩ := K
  obtain ⟨hx, hb, hml, hown, hts, hr, hlk, hK, hB, hNw, hR⟩ := C
  intro H locs ls h1 h2 h3 h4
  exact lv_tableOut hx hb hd h ht (k H locs ls h1 h2 h3 h4)
theorem x_tableIn {E : XE} {K : XK} {nL N cells slots : Nat} {G : GW} {pc : Nat} {L : List (Nat × Value)} {st : List Value} {cc : ByteArray} {own : String} {ret : Option FieldType} {fr lo mc ms : Nat} (C : XC E K cc nL own ret fr lo mc ms) {dflt lw hi : Int} {offs : Array Int} {len : Nat} {x : Int32} {off : Int} (tgt : Nat) (hd : decode cc pc = .ok (.tableswitch dflt lw hi offs, len)) (q1 : ¬ x.toInt < lw) (q2 : ¬ hi < x.toInt) (ho : offs[(x.toInt - lw).toNat]? = some off) (ht : (pc : Int) + off = (tgt : Int)) (k : XW E K nL N cells slots G tgt L st) : XW E K nL N cells slots G pc L (.int x :: st) := by
  obtain ⟨p, l, e, R, s, m, args, below, meth, c, Q⟩ := K
  obtain ⟨hx, hb, hml, hown, hts, hr, hlk, hK, hB, hNw, hR⟩ := C
  intro H locs ls h1 h2 h3 h4
  exact lv_tableIn hx hb hd q1 q2 ho ht (k H locs ls h1 h2 h3 h4)
theorem x_ifnull {E : XE} {K : XK} {nL N cells slots : Nat} {G : GW} {pc : Nat} {L : List (Nat × Value)} {st : List Value} {cc : ByteArray} {own : String} {ret : Option FieldType} {fr lo mc ms : Nat} (C : XC E K cc nL own ret fr lo mc ms) {x : Nat} {off : Int} (hd : decode cc pc = .ok (.ifnull off, 3)) (k : XW E K nL N cells slots G (pc + 3) L st) : XW E K nL N cells slots G pc L (.ref x :: st) := by
  obtain ⟨p, l, e, R, s, m, args, below, meth, c, Q⟩ := K
  obtain ⟨hx, hb, hml, hown, hts, hr, hlk, hK, hB, hNw, hR⟩ := C
  intro H locs ls h1 h2 h3 h4
  exact lv_ifnull hx hb hd (k H locs ls h1 h2 h3 h4)
theorem x_ldc {E : XE} {K : XK} {nL N cells slots : Nat} {G : GW} {pc : Nat} {L : List (Nat × Value)} {st : List Value} {cc : ByteArray} {own : String} {ret : Option FieldType} {fr lo mc ms : Nat} (C : XC E K cc nL own ret fr lo mc ms) {index : Nat} (v : Int32) (hw : Cond.constant own index v ∈ LW) (hd : decode cc pc = .ok (.ldc index, 2)) (k : XW E K nL N cells slots G (pc + 2) L (.int v :: st)) : XW E K nL N cells slots G pc L st := by
  obtain ⟨p, l, e, R, s, m, args, below, meth, c, Q⟩ := K
  obtain ⟨hx, hb, hml, hown, hts, hr, hlk, hK, hB, hNw, hR⟩ := C
  intro H locs ls h1 h2 h3 h4
  exact lv_ldc hx hb hown (hts _ hw) hd (k H locs ls h1 h2 h3 h4)
theorem x_ldcf {E : XE} {K : XK} {nL N cells slots : Nat} {G : GW} {pc : Nat} {L : List (Nat × Value)} {st : List Value} {cc : ByteArray} {own : String} {ret : Option FieldType} {fr lo mc ms : Nat} (C : XC E K cc nL own ret fr lo mc ms) {index : Nat} (v : UInt32) (hw : Cond.constantFloat own index v ∈ LW) (hd : decode cc pc = .ok (.ldc index, 2)) (k : XW E K nL N cells slots G (pc + 2) L (.float v :: st)) : XW E K nL N cells slots G pc L st := by
  obtain ⟨p, l, e, R, s, m, args, below, meth, c, Q⟩ := K
  obtain ⟨hx, hb, hml, hown, hts, hr, hlk, hK, hB, hNw, hR⟩ := C
  intro H locs ls h1 h2 h3 h4
  exact lv_ldcf hx hb hown (hts _ hw) hd (k H locs ls h1 h2 h3 h4)
/-- a field's link: class own names at index the k-th field of the class in place ci -/
def XF (own : String) (index ci k : Nat) (C : String) (T : u_T) (n : Nat) : Prop := vwCl[ci]? = some (C, T, n) ∧ k < n ∧ Cond.fieldLink own index (T k).1 (T k).2.1 (T k).2.2.1 ∈ LW ∧ ∀ w ∈ u_ws C T n, w ∈ LW
def XT (C : String) (T : u_T) (n : Nat) (ty : Nat → FieldType) : Prop := (∀ k, k < n → parseFieldDescriptor (T k).2.2.1 = some (ty k)) ∧ (∀ a, a < n → ∀ b, b < n → a ≠ b → (T a).2.1 ≠ (T b).2.1)
theorem x_get {E : XE} {K : XK} {nL N cells slots : Nat} {G : GW} {pc : Nat} {L : List (Nat × Value)} {st : List Value} {cc : ByteArray} {own : String} {ret : Option FieldType} {fr lo mc ms : Nat} (C : XC E K cc nL own ret fr lo mc ms) {a ci index k n : Nat} {C1 : String} {T : u_T} {fs : List Value} {v : Value} (ha : xB E ≤ a) (hz : a < N) (he : G a = .inr (ci, fs)) (hF : XF own index ci k C1 T n) (hv : fs[k]? = some v) (hd : decode cc pc = .ok (.getfield index, 3)) (kk : XW E K nL N cells slots G (pc + 3) L (v :: st)) : XW E K nL N cells slots G pc L (.ref a :: st) := by
  obtain ⟨p, l, e, R, s, m, args, below, meth, c, Q⟩ := K
  obtain ⟨hx, hb, hml, hown, hts, hr, hlk, hK, hB, hNw, hR⟩ := C
  obtain ⟨f1, f2, f3, f4⟩ := hF
  intro H locs ls h1 h2 h3 h4
  exact va_get (D := E.1) (cl := vwCl) (ci := ci) hx hb hts f4 hown hK h2 (a - xB E) (by rw [wl_get ha hz, he]) f1 k f2 (hts _ f3) (fun _ h => h) hv hd (kk H locs ls h1 h2 h3 h4)
theorem x_put {E : XE} {K : XK} {nL N cells slots : Nat} {G : GW} {pc : Nat} {L : List (Nat × Value)} {st : List Value} {cc : ByteArray} {own : String} {ret : Option FieldType} {fr lo mc ms : Nat} (C : XC E K cc nL own ret fr lo mc ms) {a ci index k n : Nat} {C1 : String} {T : u_T} {tyf : Nat → FieldType} {fs : List Value} {v : Value} {G' : GW} (ha : xB E ≤ a) (hz : a < N) (he : G a = .inr (ci, fs)) (hF : XF own index ci k C1 T n) (hT : XT C1 T n tyf) (hfin : (T k).2.2.2 = false) (hnv : narrow (tyf k) v = v) (hfit : fits (tyf k) v = true) (hl : Nat.blt k fs.length = true) (hG : gup G a (.inr (ci, fs.set k v)) = G') (hd : decode cc pc = .ok (.putfield index, 3)) (kk : XW E K nL N cells slots G' (pc + 3) L st) : XW E K nL N cells slots G pc L (v :: .ref a :: st) := by
  subst hG
  obtain ⟨p, l, e, R, s, m, args, below, meth, c, Q⟩ := K
  obtain ⟨hx, hb, hml, hown, hts, hr, hlk, hK, hB, hNw, hR⟩ := C
  obtain ⟨f1, f2, f3, f4⟩ := hF
  intro H locs ls h1 h2 h3 h4
  exact va_put (D := E.1) (cl := vwCl) (ci := ci) hx hb hts f4 tyf hT.1 hT.2 hown hK h2 (wl_D E N G) h3 (a - xB E) (by rw [wl_get ha hz, he]) f1 k f2 (hts _ f3) (fun _ h => h) hfin (hT.1 k f2) hnv hfit (Nat.le_of_ble_eq_true hl) hd (fun H9 locs9 q1 q2 q3 => kk H9 locs9 ls h1 (by rw [wl_set ha hz] at q1; exact q1) q3 h4)
theorem x_putF {E : XE} {K : XK} {nL N cells slots : Nat} {G : GW} {pc : Nat} {L : List (Nat × Value)} {st : List Value} {cc : ByteArray} {own : String} {ret : Option FieldType} {fr lo mc ms : Nat} (C : XC E K cc nL own ret fr lo mc ms) {a ci index k n : Nat} {C1 : String} {T : u_T} {tyf : Nat → FieldType} {fs : List Value} {v : Value} {G' : GW} (ha : xB E ≤ a) (hz : a < N) (he : G a = .inr (ci, fs)) (hF : XF own index ci k C1 T n) (hT : XT C1 T n tyf) (hfin : (T k).2.2.2 = true) (hN : K.2.2.2.2.2.2.2.2.1.name = "<init>") (hdec : (T k).1 = own) (hnv : narrow (tyf k) v = v) (hfit : fits (tyf k) v = true) (hl : Nat.blt k fs.length = true) (hG : gup G a (.inr (ci, fs.set k v)) = G') (hd : decode cc pc = .ok (.putfield index, 3)) (kk : XW E K nL N cells slots G' (pc + 3) L st) : XW E K nL N cells slots G pc L (v :: .ref a :: st) := by
  subst hG
  obtain ⟨p, l, e, R, s, m, args, below, meth, c, Q⟩ := K
  obtain ⟨hx, hb, hml, hown, hts, hr, hlk, hK, hB, hNw, hR⟩ := C
  obtain ⟨f1, f2, f3, f4⟩ := hF
  intro H locs ls h1 h2 h3 h4
  exact va_putF (D := E.1) (cl := vwCl) (ci := ci) hx hb hts f4 tyf hT.1 hT.2 hown hK h2 (wl_D E N G) h3 (a - xB E) (by rw [wl_get ha hz, he]) f1 k f2 (hts _ f3) (fun _ h => h) hfin hN hdec (hT.1 k f2) hnv hfit (Nat.le_of_ble_eq_true hl) hd (fun H9 locs9 q1 q2 q3 => kk H9 locs9 ls h1 (by rw [wl_set ha hz] at q1; exact q1) q3 h4)
theorem x_iald {E : XE} {K : XK} {nL N cells slots : Nat} {G : GW} {pc : Nat} {L : List (Nat × Value)} {st : List Value} {cc : ByteArray} {own : String} {ret : Option FieldType} {fr lo mc ms : Nat} (C : XC E K cc nL own ret fr lo mc ms) {a n : Nat} {f : Nat → Int32} {i : Int32} (v : Int32) (ha : xB E ≤ a) (hz : a < N) (he : G a = .inl (xI E, n, .inl f)) (hin : vp_in i n) (hv : f i.toNatClampNeg = v) (hd : decode cc pc = .ok (.iaload, 1)) (k : XW E K nL N cells slots G (pc + 1) L (.int v :: st)) : XW E K nL N cells slots G pc L (.int i :: .ref a :: st) := by
  subst hv
  obtain ⟨p, l, e, R, s, m, args, below, meth, c, Q⟩ := K
  obtain ⟨hx, hb, hml, hown, hts, hr, hlk, hK, hB, hNw, hR⟩ := C
  intro H locs ls h1 h2 h3 h4
  exact va_iald (D := E.1) (cl := vwCl) hx hb hK h2 (a - xB E) 0 (by rw [wl_get ha hz, he]) rfl hin hd (k H locs ls h1 h2 h3 h4)
theorem x_aald {E : XE} {K : XK} {nL N cells slots : Nat} {G : GW} {pc : Nat} {L : List (Nat × Value)} {st : List Value} {cc : ByteArray} {own : String} {ret : Option FieldType} {fr lo mc ms : Nat} (C : XC E K cc nL own ret fr lo mc ms) {a n : Nat} {f : Nat → Option Nat} {i : Int32} (v : Nat) (ha : xB E ≤ a) (hz : a < N) (he : G a = .inl (xQ E, n, .inr (.inr (.inr (.inr f))))) (hin : vp_in i n) (hv : f i.toNatClampNeg = some v) (hd : decode cc pc = .ok (.aaload, 1)) (k : XW E K nL N cells slots G (pc + 1) L (.ref v :: st)) : XW E K nL N cells slots G pc L (.int i :: .ref a :: st) := by
  have hv2 : va_rf (f i.toNatClampNeg) = .ref v := by rw [hv]; rfl
  obtain ⟨p, l, e, R, s, m, args, below, meth, c, Q⟩ := K
  obtain ⟨hx, hb, hml, hown, hts, hr, hlk, hK, hB, hNw, hR⟩ := C
  intro H locs ls h1 h2 h3 h4
  refine va_aldq (D := E.1) (cl := vwCl) hx hb hK h2 (a - xB E) 3 (by rw [wl_get ha hz, he]) rfl hin hd ?_
  rw [hv2]
  exact k H locs ls h1 h2 h3 h4
theorem x_iast {E : XE} {K : XK} {nL N cells slots : Nat} {G : GW} {pc : Nat} {L : List (Nat × Value)} {st : List Value} {cc : ByteArray} {own : String} {ret : Option FieldType} {fr lo mc ms : Nat} (C : XC E K cc nL own ret fr lo mc ms) {a n : Nat} {f : Nat → Int32} {i : Int32} {v : Int32} {G' : GW} (j : Nat) (ha : xB E ≤ a) (hz : a < N) (he : G a = .inl (xI E, n, .inl f)) (hin : vp_in i n) (hj : i.toNatClampNeg = j) (hG : gup G a (.inl (xI E, n, .inl (upd f j v))) = G') (hd : decode cc pc = .ok (.iastore, 1)) (k : XW E K nL N cells slots G' (pc + 1) L st) : XW E K nL N cells slots G pc L (.int v :: .int i :: .ref a :: st) := by
  subst hj
  subst hG
  obtain ⟨p, l, e, R, s, m, args, below, meth, c, Q⟩ := K
  obtain ⟨hx, hb, hml, hown, hts, hr, hlk, hK, hB, hNw, hR⟩ := C
  intro H locs ls h1 h2 h3 h4
  exact va_iast (D := E.1) (cl := vwCl) hx hb hK h2 (wl_D E N G) h3 (a - xB E) 0 (by rw [wl_get ha hz, he]) rfl hin hd (fun H9 locs9 q1 q2 q3 => k H9 locs9 ls h1 (by rw [wl_set ha hz] at q1; exact q1) q3 h4)
theorem x_aast {E : XE} {K : XK} {nL N cells slots : Nat} {G : GW} {pc : Nat} {L : List (Nat × Value)} {st : List Value} {cc : ByteArray} {own : String} {ret : Option FieldType} {fr lo mc ms : Nat} (C : XC E K cc nL own ret fr lo mc ms) {a n b ci nf : Nat} {f : Nat → Option Nat} {fs : List Value} {T : u_T} {i : Int32} {G' : GW} (j : Nat) (ha : xB E ≤ a) (hz : a < N) (he : G a = .inl (xQ E, n, .inr (.inr (.inr (.inr f))))) (hin : vp_in i n) (hj : i.toNatClampNeg = j) (hb1 : xB E ≤ b) (hb2 : b < N) (hv : G b = .inr (ci, fs)) (hc : vwCl[ci]? = some ("SharedEchoes$State", T, nf)) (hG : gup G a (.inl (xQ E, n, .inr (.inr (.inr (.inr (va_up f j (some b))))))) = G') (hd : decode cc pc = .ok (.aastore, 1)) (k : XW E K nL N cells slots G' (pc + 1) L st) : XW E K nL N cells slots G pc L (.ref b :: .int i :: .ref a :: st) := by
  subst hj
  subst hG
  obtain ⟨p, l, e, R, s, m, args, below, meth, c, Q⟩ := K
  obtain ⟨hx, hb, hml, hown, hts, hr, hlk, hK, hB, hNw, hR⟩ := C
  intro H locs ls h1 h2 h3 h4
  exact va_astq (D := E.1) (cl := vwCl) (r := ("SharedEchoes$State", T, nf)) hx hb hK h2 (wl_D E N G) h3 (a - xB E) 3 (b - xB E) ci (by rw [wl_get ha hz, he]) rfl (by rw [wl_get hb1 hb2, hv]) hc hin hd (fun H9 locs9 q1 q2 q3 => k H9 locs9 ls h1 (by rw [wl_set ha hz] at q1; exact q1) q3 h4)
theorem x_alen {E : XE} {K : XK} {nL N cells slots : Nat} {G : GW} {pc : Nat} {L : List (Nat × Value)} {st : List Value} {cc : ByteArray} {own : String} {ret : Option FieldType} {fr lo mc ms : Nat} (C : XC E K cc nL own ret fr lo mc ms) {a n : Nat} {f : Nat → Int32} (v : Int32) (ha : xB E ≤ a) (hz : a < N) (he : G a = .inl (xI E, n, .inl f)) (hv : Int32.ofNat n = v) (hd : decode cc pc = .ok (.arraylength, 1)) (k : XW E K nL N cells slots G (pc + 1) L (.int v :: st)) : XW E K nL N cells slots G pc L (.ref a :: st) := by
  obtain ⟨p, l, e, R, s, m, args, below, meth, c, Q⟩ := K
  obtain ⟨hx, hb, hml, hown, hts, hr, hlk, hK, hB, hNw, hR⟩ := C
  intro H locs ls h1 h2 h3 h4
  exact va_alen (D := E.1) (cl := vwCl) hx hb hK h2 (a - xB E) 0 (by rw [wl_get ha hz, he]) rfl hv hd (k H locs ls h1 h2 h3 h4)
theorem x_copyi {E : XE} {K : XK} {nL N cells slots : Nat} {G : GW} {pc : Nat} {L : List (Nat × Value)} {st : List Value} {cc : ByteArray} {own : String} {ret : Option FieldType} {fr lo mc ms : Nat} (C : XC E K cc nL own ret fr lo mc ms) {index a0 a n0 n1 : Nat} {f g : Nat → Int32} {sp dp n : Int32} {G' : GW} (js jd jn : Nat) (w1 : Cond.methodLink own index arraycopyName ∈ LW) (ha0 : xB E ≤ a0) (hz0 : a0 < N) (he0 : G a0 = .inl (xI E, n0, .inl f)) (ha : xB E ≤ a) (hz : a < N) (he : G a = .inl (xI E, n1, .inl g)) (q1 : ¬ sp < 0) (q2 : ¬ dp < 0) (q3 : ¬ n < 0) (hs : sp.toNatClampNeg = js) (hdp : dp.toNatClampNeg = jd) (hn : n.toNatClampNeg = jn) (q4 : js + jn ≤ n0) (q5 : jd + jn ≤ n1) (hfr : Nat.ble 1 fr = true) (hlo : Nat.ble ((st.map fun v => v.category).sum + (nativeFrameWords "java/lang/System" "arraycopy" 5 + 11)) lo = true) (hG : gup G a (.inl (xI E, n1, .inl (va_cpy f g js jd jn))) = G') (hd : decode cc pc = .ok (.invokestatic index, 3)) (k : XW E K nL N cells slots G' (pc + 3) L st) : XW E K nL N cells slots G pc L (.int n :: .int dp :: .ref a :: .int sp :: .ref a0 :: st) := by
  subst hs; subst hdp; subst hn; subst hG
  obtain ⟨p, l, e, R, s, m, args, below, meth, c, Q⟩ := K
  obtain ⟨hx, hb, hml, hown, hts, hr, hlk, hK, hB, hNw, hR⟩ := C
  subst hR
  intro H locs ls h1 h2 h3 h4
  exact va_copyi (D := E.1) (cl := vwCl) hx hb (hml.trans h4.1.symm) hown (hts _ w1) (hts _ x_nat_arraycopy) (hts _ x_stat_arraycopy) (hts _ x_ini_System) hK h2 (wl_D E N G) h3 (a0 - xB E) (a - xB E) 0 0 (by rw [wl_get ha0 hz0, he0]) (by rw [wl_get ha hz, he]) rfl rfl rfl q1 q2 q3 q4 q5 (fun _ _ => rfl) (Nat.le_of_ble_eq_true hfr) (Nat.le_of_ble_eq_true hlo) hd (fun H9 locs9 p1 p2 p3 => k H9 locs9 ls h1 (by rw [wl_set ha hz] at p1; exact p1) p3 h4)
theorem x_mmax {E : XE} {K : XK} {nL N cells slots : Nat} {G : GW} {pc : Nat} {L : List (Nat × Value)} {st : List Value} {cc : ByteArray} {own : String} {ret : Option FieldType} {fr lo mc ms : Nat} (C : XC E K cc nL own ret fr lo mc ms) {index : Nat} {x y : Int32} (w1 : Cond.methodLink own index Lib.Math.max.name ∈ LW) (hfr : Nat.ble 1 fr = true) (hlo : Nat.ble ((st.map fun v => v.category).sum + 13) lo = true) (hc : Nat.ble cells mc = true) (hs : Nat.ble slots ms = true) (hd : decode cc pc = .ok (.invokestatic index, 3)) (k : XW E K nL N cells slots G (pc + 3) L (.int (if x < y then y else x) :: st)) : XW E K nL N cells slots G pc L (.int y :: .int x :: st) := by
  obtain ⟨p, l, e, R, s, m, args, below, meth, c, Q⟩ := K
  obtain ⟨hx, hb, hml, hown, hts, hr, hlk, hK, hB, hNw, hR⟩ := C
  subst hR
  intro H locs ls h1 h2 h3 h4
  exact va_mmax hx hb (hml.trans h4.1.symm) hown (hts _ w1) (hts _ x_stat_max) (hts _ x_ini_Math) (hts _ x_code_max) (Nat.le_of_ble_eq_true hfr) (Nat.le_of_ble_eq_true hlo) (Nat.le_of_ble_eq_true hc) (Nat.le_of_ble_eq_true hs) hd (k H locs ls h1 h2 h3 h4)
theorem x_mmin {E : XE} {K : XK} {nL N cells slots : Nat} {G : GW} {pc : Nat} {L : List (Nat × Value)} {st : List Value} {cc : ByteArray} {own : String} {ret : Option FieldType} {fr lo mc ms : Nat} (C : XC E K cc nL own ret fr lo mc ms) {index : Nat} {x y : Int32} (w1 : Cond.methodLink own index Lib.Math.min.name ∈ LW) (hfr : Nat.ble 1 fr = true) (hlo : Nat.ble ((st.map fun v => v.category).sum + 13) lo = true) (hc : Nat.ble cells mc = true) (hs : Nat.ble slots ms = true) (hd : decode cc pc = .ok (.invokestatic index, 3)) (k : XW E K nL N cells slots G (pc + 3) L (.int (if y < x then y else x) :: st)) : XW E K nL N cells slots G pc L (.int y :: .int x :: st) := by
  obtain ⟨p, l, e, R, s, m, args, below, meth, c, Q⟩ := K
  obtain ⟨hx, hb, hml, hown, hts, hr, hlk, hK, hB, hNw, hR⟩ := C
  subst hR
  intro H locs ls h1 h2 h3 h4
  exact va_mmin hx hb (hml.trans h4.1.symm) hown (hts _ w1) (hts _ x_stat_min) (hts _ x_ini_Math) (hts _ x_code_min) (Nat.le_of_ble_eq_true hfr) (Nat.le_of_ble_eq_true hlo) (Nat.le_of_ble_eq_true hc) (Nat.le_of_ble_eq_true hs) hd (k H locs ls h1 h2 h3 h4)
theorem x_mabs {E : XE} {K : XK} {nL N cells slots : Nat} {G : GW} {pc : Nat} {L : List (Nat × Value)} {st : List Value} {cc : ByteArray} {own : String} {ret : Option FieldType} {fr lo mc ms : Nat} (C : XC E K cc nL own ret fr lo mc ms) {index : Nat} {x : Int32} (w1 : Cond.methodLink own index Lib.Math.abs.name ∈ LW) (hfr : Nat.ble 1 fr = true) (hlo : Nat.ble ((st.map fun v => v.category).sum + 13) lo = true) (hc : Nat.ble cells mc = true) (hs : Nat.ble slots ms = true) (hd : decode cc pc = .ok (.invokestatic index, 3)) (k : XW E K nL N cells slots G (pc + 3) L (.int (if 0 ≤ x then x else 0 - x) :: st)) : XW E K nL N cells slots G pc L (.int x :: st) := by
  obtain ⟨p, l, e, R, s, m, args, below, meth, c, Q⟩ := K
  obtain ⟨hx, hb, hml, hown, hts, hr, hlk, hK, hB, hNw, hR⟩ := C
  subst hR
  intro H locs ls h1 h2 h3 h4
  exact va_mabs hx hb (hml.trans h4.1.symm) hown (hts _ w1) (hts _ x_stat_abs) (hts _ x_ini_Math) (hts _ x_code_abs) (Nat.le_of_ble_eq_true hfr) (Nat.le_of_ble_eq_true hlo) (Nat.le_of_ble_eq_true hc) (Nat.le_of_ble_eq_true hs) hd (k H locs ls h1 h2 h3 h4)
theorem x_objInit {E : XE} {K : XK} {nL N cells slots : Nat} {G : GW} {pc : Nat} {L : List (Nat × Value)} {st : List Value} {cc : ByteArray} {own : String} {ret : Option FieldType} {fr lo mc ms : Nat} (C : XC E K cc nL own ret fr lo mc ms) {index a : Nat} (w1 : Cond.methodLink own index Lib.objectInit ∈ LW) (hfr : Nat.ble 1 fr = true) (hlo : Nat.ble ((st.map fun v => v.category).sum + 12) lo = true) (hd : decode cc pc = .ok (.invokespecial index, 3)) (k : XW E K nL N cells slots G (pc + 3) L st) : XW E K nL N cells slots G pc L (.ref a :: st) := by
  obtain ⟨p, l, e, R, s, m, args, below, meth, c, Q⟩ := K
  obtain ⟨hx, hb, hml, hown, hts, hr, hlk, hK, hB, hNw, hR⟩ := C
  subst hR
  intro H locs ls h1 h2 h3 h4
  exact W.objInit hx hb hown (hts _ w1) (hts _ x_inst_obj) (hts _ x_code_obj) rfl (by rw [hml]; exact h4.1) rfl hd (Nat.le_of_ble_eq_true hfr) (by have h9 := Nat.le_of_ble_eq_true hlo; show 2 * 0 + (st.map fun v => v.category).sum + 12 ≤ lo; omega) (k H locs ls h1 h2 h3 h4)
theorem x_fconst0 {E : XE} {K : XK} {nL N cells slots : Nat} {G : GW} {pc : Nat} {L : List (Nat × Value)} {st : List Value} {cc : ByteArray} {own : String} {ret : Option FieldType} {fr lo mc ms : Nat} (C : XC E K cc nL own ret fr lo mc ms) (hd : decode cc pc = .ok (.fconst 0, 1)) (k : XW E K nL N cells slots G (pc + 1) L (.float FP.fconst0 :: st)) : XW E K nL N cells slots G pc L st := by
  obtain ⟨p, l, e, R, s, m, args, below, meth, c, Q⟩ := K
  obtain ⟨hx, hb, hml, hown, hts, hr, hlk, hK, hB, hNw, hR⟩ := C
  intro H locs ls h1 h2 h3 h4
  exact lv_fconst0 hx hb hd (k H locs ls h1 h2 h3 h4)
theorem x_fconst1 {E : XE} {K : XK} {nL N cells slots : Nat} {G : GW} {pc : Nat} {L : List (Nat × Value)} {st : List Value} {cc : ByteArray} {own : String} {ret : Option FieldType} {fr lo mc ms : Nat} (C : XC E K cc nL own ret fr lo mc ms) (hd : decode cc pc = .ok (.fconst 1, 1)) (k : XW E K nL N cells slots G (pc + 1) L (.float FP.fconst1 :: st)) : XW E K nL N cells slots G pc L st := by
  obtain ⟨p, l, e, R, s, m, args, below, meth, c, Q⟩ := K
  obtain ⟨hx, hb, hml, hown, hts, hr, hlk, hK, hB, hNw, hR⟩ := C
  intro H locs ls h1 h2 h3 h4
  exact lv_fconst1 hx hb hd (k H locs ls h1 h2 h3 h4)
theorem x_fconst2 {E : XE} {K : XK} {nL N cells slots : Nat} {G : GW} {pc : Nat} {L : List (Nat × Value)} {st : List Value} {cc : ByteArray} {own : String} {ret : Option FieldType} {fr lo mc ms : Nat} (C : XC E K cc nL own ret fr lo mc ms) (hd : decode cc pc = .ok (.fconst 2, 1)) (k : XW E K nL N cells slots G (pc + 1) L (.float FP.fconst2 :: st)) : XW E K nL N cells slots G pc L st := by
  obtain ⟨p, l, e, R, s, m, args, below, meth, c, Q⟩ := K
  obtain ⟨hx, hb, hml, hown, hts, hr, hlk, hK, hB, hNw, hR⟩ := C
  intro H locs ls h1 h2 h3 h4
  exact lv_fconst2 hx hb hd (k H locs ls h1 h2 h3 h4)
theorem x_fsub {E : XE} {K : XK} {nL N cells slots : Nat} {G : GW} {pc : Nat} {L : List (Nat × Value)} {st : List Value} {cc : ByteArray} {own : String} {ret : Option FieldType} {fr lo mc ms : Nat} (C : XC E K cc nL own ret fr lo mc ms) {x y : UInt32} (hd : decode cc pc = .ok (.fsub, 1)) (hne : vf_n32 (FP.fsub x y)) (k : XW E K nL N cells slots G (pc + 1) L (.float (FP.fsub x y) :: st)) : XW E K nL N cells slots G pc L (.float y :: .float x :: st) := by
  obtain ⟨p, l, e, R, s, m, args, below, meth, c, Q⟩ := K
  obtain ⟨hx, hb, hml, hown, hts, hr, hlk, hK, hB, hNw, hR⟩ := C
  intro H locs ls h1 h2 h3 h4
  exact lv_fsub hx hb hd hne (k H locs ls h1 h2 h3 h4)
theorem x_fmul {E : XE} {K : XK} {nL N cells slots : Nat} {G : GW} {pc : Nat} {L : List (Nat × Value)} {st : List Value} {cc : ByteArray} {own : String} {ret : Option FieldType} {fr lo mc ms : Nat} (C : XC E K cc nL own ret fr lo mc ms) {x y : UInt32} (hd : decode cc pc = .ok (.fmul, 1)) (hne : vf_n32 (FP.fmul x y)) (k : XW E K nL N cells slots G (pc + 1) L (.float (FP.fmul x y) :: st)) : XW E K nL N cells slots G pc L (.float y :: .float x :: st) := by
  obtain ⟨p, l, e, R, s, m, args, below, meth, c, Q⟩ := K
  obtain ⟨hx, hb, hml, hown, hts, hr, hlk, hK, hB, hNw, hR⟩ := C
  intro H locs ls h1 h2 h3 h4
  exact lv_fmul hx hb hd hne (k H locs ls h1 h2 h3 h4)
theorem x_fdiv {E : XE} {K : XK} {nL N cells slots : Nat} {G : GW} {pc : Nat} {L : List (Nat × Value)} {st : List Value} {cc : ByteArray} {own : String} {ret : Option FieldType} {fr lo mc ms : Nat} (C : XC E K cc nL own ret fr lo mc ms) {x y : UInt32} (hd : decode cc pc = .ok (.fdiv, 1)) (hne : vf_n32 (FP.fdiv x y)) (k : XW E K nL N cells slots G (pc + 1) L (.float (FP.fdiv x y) :: st)) : XW E K nL N cells slots G pc L (.float y :: .float x :: st) := by
  obtain ⟨p, l, e, R, s, m, args, below, meth, c, Q⟩ := K
  obtain ⟨hx, hb, hml, hown, hts, hr, hlk, hK, hB, hNw, hR⟩ := C
  intro H locs ls h1 h2 h3 h4
  exact lv_fdiv hx hb hd hne (k H locs ls h1 h2 h3 h4)
theorem x_fcmp {E : XE} {K : XK} {nL N cells slots : Nat} {G : GW} {pc : Nat} {L : List (Nat × Value)} {st : List Value} {cc : ByteArray} {own : String} {ret : Option FieldType} {fr lo mc ms : Nat} (C : XC E K cc nL own ret fr lo mc ms) {x y : UInt32} {op : CmpOp} (hd : decode cc pc = .ok (.fcmp op, 1)) (k : XW E K nL N cells slots G (pc + 1) L (.int (Op.cmpValue (FP.fcmp x y) op) :: st)) : XW E K nL N cells slots G pc L (.float y :: .float x :: st) := by
  obtain ⟨p, l, e, R, s, m, args, below, meth, c, Q⟩ := K
  obtain ⟨hx, hb, hml, hown, hts, hr, hlk, hK, hB, hNw, hR⟩ := C
  intro H locs ls h1 h2 h3 h4
  exact lv_fcmp hx hb hd (k H locs ls h1 h2 h3 h4)
theorem x_i2f {E : XE} {K : XK} {nL N cells slots : Nat} {G : GW} {pc : Nat} {L : List (Nat × Value)} {st : List Value} {cc : ByteArray} {own : String} {ret : Option FieldType} {fr lo mc ms : Nat} (C : XC E K cc nL own ret fr lo mc ms) {x : Int32} (hd : decode cc pc = .ok (.i2f, 1)) (k : XW E K nL N cells slots G (pc + 1) L (.float (FP.i2f x) :: st)) : XW E K nL N cells slots G pc L (.int x :: st) := by
  obtain ⟨p, l, e, R, s, m, args, below, meth, c, Q⟩ := K
  obtain ⟨hx, hb, hml, hown, hts, hr, hlk, hK, hB, hNw, hR⟩ := C
  intro H locs ls h1 h2 h3 h4
  exact lv_i2f hx hb hd (k H locs ls h1 h2 h3 h4)
theorem x_l2f {E : XE} {K : XK} {nL N cells slots : Nat} {G : GW} {pc : Nat} {L : List (Nat × Value)} {st : List Value} {cc : ByteArray} {own : String} {ret : Option FieldType} {fr lo mc ms : Nat} (C : XC E K cc nL own ret fr lo mc ms) {x : Int64} (hd : decode cc pc = .ok (.l2f, 1)) (k : XW E K nL N cells slots G (pc + 1) L (.float (FP.l2f x) :: st)) : XW E K nL N cells slots G pc L (.long x :: st) := by
  obtain ⟨p, l, e, R, s, m, args, below, meth, c, Q⟩ := K
  obtain ⟨hx, hb, hml, hown, hts, hr, hlk, hK, hB, hNw, hR⟩ := C
  intro H locs ls h1 h2 h3 h4
  exact lv_l2f hx hb hd (k H locs ls h1 h2 h3 h4)
theorem x_f2i {E : XE} {K : XK} {nL N cells slots : Nat} {G : GW} {pc : Nat} {L : List (Nat × Value)} {st : List Value} {cc : ByteArray} {own : String} {ret : Option FieldType} {fr lo mc ms : Nat} (C : XC E K cc nL own ret fr lo mc ms) {x : UInt32} (hd : decode cc pc = .ok (.f2i, 1)) (k : XW E K nL N cells slots G (pc + 1) L (.int (FP.f2i x) :: st)) : XW E K nL N cells slots G pc L (.float x :: st) := by
  obtain ⟨p, l, e, R, s, m, args, below, meth, c, Q⟩ := K
  obtain ⟨hx, hb, hml, hown, hts, hr, hlk, hK, hB, hNw, hR⟩ := C
  intro H locs ls h1 h2 h3 h4
  exact lv_f2i hx hb hd (k H locs ls h1 h2 h3 h4)

