abbrev TR : Type := (Int32 ⊕ Nat) × St
def exn (en : Nat) : String := if en = 1 then nNS else nIA
abbrev QTI (G : Gt) (res : TR) : Array Value → State → Outcome → State → Prop := va_Qi (fun (x : Int32) (_ : Unit) => res.1 = .inl x) (fun _ t => va_P (gD G) vwCl (cl G res.2) t.heap) (Ab G)
abbrev QTV (G : Gt) (res : TR) : Array Value → State → Outcome → State → Prop := va_Qv (fun (_ : Unit) => res.1 = .inl 0) (fun _ t => va_P (gD G) vwCl (cl G res.2) t.heap) (Ab G)
abbrev XT (G : Gt) (res : TR) : String → State → State → Prop := vx_X (fun (_ : Unit) => True) (fun E _ t => (∃ en, res.1 = .inr en ∧ E = exn en) ∧ va_P (gD G) vwCl (cl G res.2) t.heap) (Ab G)
def tri (v : Int32) (S : St) : Option TR := some (.inl v, S)
def trz (v : Int32) (S : St) : Option TR := if v = 0 ∨ v = 1 then some (.inl v, S) else none
def trx (en : Nat) (S : St) : Option TR := some (.inr en, S)
def bt (x : Option TR) (k : Int32 → St → Option TR) : Option TR := match x with
  | none => none
  | some (.inl v, S) => k v S
  | some (.inr en, S) => some (.inr en, S)
def sl {β : Type} (j : Nat) (k : Int32 → Option β) : Option β := if j < NS then k (nI (sLen.getD j 0)) else none
def sh {β : Type} (j : Nat) (i : Int32) (k : Int32 → Option β) : Option β := if j < NS ∧ ¬ (i < 0 ∨ sLen.getD j 0 ≤ i.toNatClampNeg) then k ((sByt.getD j []).getD i.toNatClampNeg 0) else none
def owA (own : String) (ic : Nat) (X Y : String) (i0 : Nat) (b0 : ByteArray) (r : List String) : List Cond :=
  Bundle.throwableAtoms ++ Bundle.throwableSAtoms ++ (Bundle.passSAtoms X Y i0 b0 ++ Bundle.chainSAtoms Y r) ++
  [.methodLink own ic (Bundle.initS X), .instantiable X 6, .castable X X, .selects X Bundle.tFill0 Bundle.tFill0, .selects X Bundle.tFill Bundle.tFill,
   .lays X Bundle.tN "cause" "Ljava/lang/Throwable;", .lays X Bundle.tN "stackTrace" Bundle.steD, .lays X Bundle.tN "suppressedExceptions" Bundle.listD, .lays X Bundle.tN "detailMessage" "Ljava/lang/String;",
   .isRef (.static Bundle.tN "UNASSIGNED_STACK" Bundle.steD), .isRef (.static Bundle.tN "SUPPRESSED_SENTINEL" Bundle.listD),
   .fieldLink Bundle.tN 198 Bundle.tN "backtrace" "Ljava/lang/Object;", .lays Bundle.tN Bundle.tN "backtrace" "Ljava/lang/Object;", .lays X Bundle.tN "backtrace" "Ljava/lang/Object;"]
/-! a constructor of one text whose first link has a place of its own, then athrow -/
section TW
variable {p : Program} {l : Launch} {e : Env} {R : Room} {s : State} {m₀ : MethodId} {args : Array Value} {below : List Frame} {meth : Method} {c : Code} {W0 : State} {locs : List Loc} {cells slots : Nat}
set_option maxHeartbeats 1000000 in
theorem tw_ctor (X : Stand p l e R s m₀ args below meth c W0 locs cells slots) (hexec : p.tables.exec = Jvm.exec) (htr : e.platform.stackTraces = false) {own cls Y0 : String} {r : List String} {ic i0 : Nat} {b0 : ByteArray}
    (hown : s.vm.findClass own = some m₀.cls) (hcls : Bundle.fit cls = true) (hY0 : Bundle.fit Y0 = true) (hnames : ∀ n ∈ r, Bundle.fit n = true)
    (g0 : decode b0 0 = .ok (.aload_n 0, 1)) (g1 : decode b0 1 = .ok (.aload_n 1, 1)) (g2 : decode b0 2 = .ok (.invokespecial i0, 3)) (g5 : decode b0 5 = .ok (.return_, 1))
    (h : ∀ a ∈ owA own ic cls Y0 i0 b0 r, a.before args s = true)
    (hlocs : ∀ x ∈ locs, ∀ cell, s.heap[x.base]? = some cell → cell.vm.isStatics = false)
    {a : Addr} {cX : ClassId} {kX : Class} (hfoundX : s.vm.findClass cls = some cX) (hkX : s.vm.classes[cX]? = some kX) (hcell : W0.heap[a]? = some (freshCell cX kX)) (hnew : s.heap.size ≤ a)
    {msg : Value} (hmsg : msg.isRef = true)
    {g : JFrame} (hg : g.method = m₀) (hsize : g.locals.size = c.maxLocals) (hlocked : g.locked = none) (hentered : g.entered = []) {rest : List Value} (hstack : g.stack = msg :: .ref a :: .ref a :: rest)
    (hd6 : decode c.code g.pc = .ok (.invokespecial ic, 3)) (hd9 : decode c.code (g.pc + 3) = .ok (.athrow, 1)) (hout : ∀ x ∈ c.exceptionTable.toList, covers x (g.pc + 3) = false)
    (hRframes : r.length + 4 < R.frames) (hRlocals : 2 * g.monitorRoom + ((Value.ref a :: rest).map fun v => v.category).sum + (13 * (r.length + 2) + 42) ≤ R.locals) (hlocks : meth.locks = false) :
    ∃ U : State, Steps p.tables e below (W0.setTop g) U ∧ U.status = .running ∧ Ended U below (.threw a) ∧ s.WarmedH U.vm ∧ s.sameButNew ({ U with vm := s.vm } : State) locs cells slots ∧
      ∃ ce, U.heap[a]? = some ce ∧ ce.vm = .none ∧ s.vm.findClass cls = some ce.cls := by
  have howns : e.platform.frameOwnsMonitors = true := by rw [X.admits.platform]
  have hfin : e.platform.finalization = false := by rw [X.admits.platform]
  have hpl : e.platform.magicAccessors = ({} : Platform).magicAccessors := by rw [X.admits.platform]
  have a' : ∀ x, x ∈ owA own ic cls Y0 i0 b0 r → x.holds args s none s [] = true := fun x hx => h x hx
  obtain ⟨T, Z0, L, -, Y⟩ := ThrowableC.of_atoms (args := args) howns hfin hpl (fun x hx => h x (by simp [owA, hx]))
  obtain ⟨Z, M, LZ, LM, hnZ⟩ := Init0T.ofS_atoms (args := args) hpl L Y (fun x hx => h x (by simp [owA, hx]))
  obtain ⟨P1, L1, hP1m, hs1⟩ := PassC.ofS_atoms (args := args) (s := s) hpl (X := cls) (Y := Y0) (Bundle.fit_spec hcls).1 (Bundle.fit_spec hY0).2 g0 g1 g2 g5 (fun x hx => h x (by simp [owA, hx]))
  obtain ⟨P2, Ps, hlen, L2, hL, hP2m, hlink2, hlink⟩ := Bundle.chainS (args := args) hpl hnZ r Y0 hY0 hnames (fun x hx => h x (by simp [owA, hx]))
  have hlink1 : P1.sup = P2.m := Option.some.inj (hs1.symm.trans hP2m)
  have hfound : s.vm.findClass cls = some P1.m.cls := findClass_of_methodNamed hP1m
  cases Option.some.inj (hfoundX.symm.trans hfound)
  obtain ⟨c1, kX', hc1, hk, hord, -, -, hn6⟩ := Cond.instantiable_spec (a' (.instantiable cls 6) (by simp [owA]))
  cases Option.some.inj (hc1.symm.trans hfound)
  cases Option.some.inj (hkX.symm.trans hk)
  have hsel0 : selectMethod e.platform s.vm P1.m.cls T.fill0 = .method T.fill0 := by
    obtain ⟨c2, r2, m2, q1, q2, q3, q4, -⟩ := Cond.selects_spec (a' (.selects cls Bundle.tFill0 Bundle.tFill0) (by simp [owA]))
    cases Option.some.inj (q1.symm.trans hfound)
    cases Option.some.inj (q2.symm.trans (State.methodFound?_of_named Y.fill0 (by decide)))
    cases Option.some.inj (q3.symm.trans Y.fill0)
    rw [Launch.admits_selectMethod X.admits]; exact q4
  have hselF : selectMethod e.platform s.vm P1.m.cls T.fill = .method T.fill := by
    obtain ⟨c2, r2, m2, q1, q2, q3, q4, -⟩ := Cond.selects_spec (a' (.selects cls Bundle.tFill Bundle.tFill) (by simp [owA]))
    cases Option.some.inj (q1.symm.trans hfound)
    cases Option.some.inj (q2.symm.trans (State.methodFound?_of_named Y.fill (by decide)))
    cases Option.some.inj (q3.symm.trans Y.fill)
    rw [Launch.admits_selectMethod X.admits]; exact q4
  obtain ⟨cellS0, hcS0, hiss⟩ := Y.statics
  obtain ⟨u0, hu0⟩ := Cond.staticRefV Y.unassigned L.unassignedStatic L.statics hcS0 hiss (a' (.isRef (.static Bundle.tN "UNASSIGNED_STACK" Bundle.steD)) (by simp [owA]))
  obtain ⟨sen, hsen⟩ := Cond.staticRefV Y.sentinel L.sentinelStatic L.statics hcS0 hiss (a' (.isRef (.static Bundle.tN "SUPPRESSED_SENTINEL" Bundle.listD)) (by simp [owA]))
  obtain ⟨ci198, i198, fB, hk198, hg198, ha198, hsB, -, hnB, htB, hffB⟩ := Cond.ownField (t := .object "java/lang/Object") Y.found L.cls (by decide +kernel) (a' (.fieldLink Bundle.tN 198 Bundle.tN "backtrace" "Ljava/lang/Object;") (by simp [owA])) (a' (.lays Bundle.tN Bundle.tN "backtrace" "Ljava/lang/Object;") (by simp [owA])) e.platform hpl
  obtain ⟨cellS, hcS', heS, -, hkeep⟩ := X.same.2.2.2.2.2 T.aS cellS0 hcS0
  have hcellS : W0.heap[T.aS]? = some cellS := hcS'
  have hout' : ∀ i, (⟨T.aS, i⟩ : Loc) ∉ locs := fun i hmem => by
    have := hlocs _ hmem cellS0 hcS0
    rw [hiss] at this; cases this
  have hknownS : cellS.vm ≠ .unknown := by
    rw [heS]; intro hu
    rw [show cellS0.vm = .unknown from hu] at hiss
    cases hiss
  have hneS : T.aS ≠ a := Nat.ne_of_lt (Nat.lt_of_lt_of_le (Array.getElem?_eq_some_iff.mp hcS0).1 hnew)
  obtain ⟨iM, hffM⟩ := Y.msg
  obtain ⟨tyC, dC, hdC, hdnC⟩ := Cond.laysAt hfound hk Y.cause (a' (.lays cls Bundle.tN "cause" "Ljava/lang/Throwable;") (by simp [owA]))
  obtain ⟨tyS, dS, hdS, hdnS⟩ := Cond.laysAt hfound hk Y.stack (a' (.lays cls Bundle.tN "stackTrace" Bundle.steD) (by simp [owA]))
  obtain ⟨tyP, dP, hdP, hdnP⟩ := Cond.laysAt hfound hk Y.supp (a' (.lays cls Bundle.tN "suppressedExceptions" Bundle.listD) (by simp [owA]))
  obtain ⟨tyM, dM, hdM, hdnM⟩ := Cond.laysAt hfound hk hffM (a' (.lays cls Bundle.tN "detailMessage" "Ljava/lang/String;") (by simp [owA]))
  obtain ⟨tyB, dB, hdB, hdnB⟩ := Cond.laysAt hfound hk hffB (a' (.lays cls Bundle.tN "backtrace" "Ljava/lang/Object;") (by simp [owA]))
  have bC := Cond.laysApart hdB hdC hdnB hdnC (by rw [hnB, Y.causeName]; decide)
  have bS := Cond.laysApart hdB hdS hdnB hdnS (by rw [hnB, Y.stackName]; decide)
  have bP := Cond.laysApart hdB hdP hdnB hdnP (by rw [hnB, Y.suppName]; decide)
  have hskip : SkipFacts T e.platform s (fun u => u) u0 ((preparedCellV T.toThrowableT (freshCell P1.m.cls kX) a u0 sen).withEntry W0.cur) :=
    ⟨{ ci198 := ci198, i198 := i198, fBack := fB }, ⟨hk198, hg198, ha198, hsB⟩, by
      have := fresh_default (c := P1.m.cls) tyB
      rw [htB] at this
      simpa [preparedCellV, Cell.setSlot, Cell.withEntry, Array.getElem?_setIfInBounds, bC, bS, bP, bC.symm, bS.symm, bP.symm, defaultValue] using this, fun _ _ => rfl⟩
  obtain ⟨tm, methC, cdC, kC, vm₁, hnC, -, -, -, -, -, -, -, hW₁, st1⟩ := Steps.initColdS (tb := p.tables) (e := e) (below := below) (s := s) (U := W0) X.here hexec X.warmed hpl hown (t := Bundle.initS cls) rfl rfl (Bundle.fit_spec hcls).2
    (a' (.methodLink own ic (Bundle.initS cls)) (by simp [owA])) (h (.instanceMethod (Bundle.initS cls)) (by simp [owA, Bundle.passSAtoms])) (bytes := b0) (maxL := 2) (h (.code (Bundle.initS cls) b0 2 none) (by simp [owA, Bundle.passSAtoms]))
    (f := g) hg (a := a) (msg := msg) (rest := .ref a :: rest) hstack hd6
  cases Option.some.inj (hnC.symm.trans hP1m)
  have X₁ := X.noted hW₁
  obtain ⟨vm₂, X₂, st2⟩ := X₁.ctorMessageOffV hexec (g := { g with stack := .ref a :: rest }) hg hsize T L Z LZ M LM (P1 :: P2 :: Ps)
    (fun P hP => by
      rcases List.mem_cons.mp hP with rfl | hP
      · exact L1
      · rcases List.mem_cons.mp hP with rfl | hP
        · exact L2
        · exact hL P hP) ⟨hlink1, hlink2, hlink⟩ (u0 := u0) (sen := sen) (self := a) hmsg (cell := freshCell P1.m.cls kX) (cellS := cellS)
    hcell (fun _ => by simp) (by simp) rfl rfl hsel0 hselF hcellS hneS hknownS (by rw [hkeep _ (hout' _)]; exact hu0) (by rw [hkeep _ (hout' _)]; exact hsen)
    (Takes.of_laid hk hord tyC (by rw [Y.causeType]; rfl)) (Takes.of_laid hk hord tyS (by rw [Y.stackType]; exact fits_refV_array _ u0)) (Takes.of_laid hk hord tyP (by rw [Y.suppType]; exact fits_refV_object _ sen))
    (Takes.of_laid hk hord tyM (by rw [Y.msgType]; exact fits_refV_object _ ⟨msg, hmsg⟩)) Y.objLocals hskip htr [] hd6
    (by simp only [List.length_cons, hlen]; omega) (by simp only [List.length_cons, hlen]; exact hRlocals)
  obtain ⟨hwalk, hrun, hended, hWU, hsame⟩ := X₂.athrowLeaves hexec (g := { g with stack := .ref a :: rest, pc := g.pc + 3 }) hg hlocked hentered hout (a := a) (rest := rest) rfl hd9
  have hlt : a < ((W0.setVm vm₁).setVm vm₂).heap.size := (Array.getElem?_eq_some_iff.mp hcell).1
  have hU := heapAt_setCell_self (s := (W0.setVm vm₁).setVm vm₂) (plainBareV T.toThrowableT (freshCell P1.m.cls kX) a u0 sen msg) hlt
  refine ⟨_, st1 _ (fun acts => ?_), hrun, hended, hWU, hsame.weaken (fun y hy hlt' => ?_) (Nat.le_refl _) (Nat.le_refl _), _, hU, rfl, hfound⟩
  · rw [doInvoke_state]
    exact st2 _ hwalk
  · rcases List.mem_append.mp hy with h1 | h1
    · exact h1
    · exfalso
      have hb : y.base = a := by
        simp only [List.mem_cons, List.not_mem_nil, or_false] at h1
        rcases h1 with rfl | rfl | rfl | rfl | rfl <;> rfl
      rw [hb] at hlt'
      exact Nat.not_lt.mpr hnew hlt'
end TW
/-- the words of a throw's site, but for the two statics -/
def twN (w : Cond) : Bool := vx_no w
def KT (own : String) (ik ic : Nat) (cls : String) (i0 : Nat) (b0 : ByteArray) : Prop := Cond.classLink own ik cls ∈ gt ∧ Cond.initialized cls ∈ gt ∧
  (∀ w ∈ (owA own ic cls "java/lang/RuntimeException" i0 b0 ["java/lang/Exception"]).filter twN, w ∈ gt ∨ w ∈ xN) ∧ Bundle.fit cls = true ∧
  decode b0 0 = .ok (.aload_n 0, 1) ∧ decode b0 1 = .ok (.aload_n 1, 1) ∧ decode b0 2 = .ok (.invokespecial i0, 3) ∧ decode b0 5 = .ok (.return_, 1)
theorem tw_own {args : Array Value} {s : State} {L : List Cond} (h1 : ∀ w ∈ L.filter twN, w.before args s = true)
    (hU : (Cond.isRef (.static Bundle.tN "UNASSIGNED_STACK" Bundle.steD)).before args s = true) (hN : (Cond.isRef (.static Bundle.tN "SUPPRESSED_SENTINEL" Bundle.listD)).before args s = true)
    (hlU : (Cond.laysStatic Bundle.tN "UNASSIGNED_STACK" Bundle.steD).before args s = true) (hlN : (Cond.laysStatic Bundle.tN "SUPPRESSED_SENTINEL" Bundle.listD).before args s = true) : ∀ w ∈ L, w.before args s = true := vx_own h1 hU hN hlU hlN
section RT
variable {p : Program} {l : Launch} {e : Env} {R : Room} {s : State} {m : MethodId} {args : Array Value} {below : List Frame} {meth : Method} {c : Code} {H : Heap} {locs : List Loc} {cells slots : Nat} {Q : State → Prop}
variable {cc : ByteArray} {pc nL : Nat} {ls : Array Slot} {rest : List Value} {own : String} {G : Gt} {S : St} {res : TR} {mc ms MC MS : Nat} {Qc : Array Value → State → Outcome → State → Prop}
theorem R_tiret {v : Int32} (C : Cx p s m args meth c cc nL own G) (hr : meth.sig.returnType = some .int) (hd : Dy G S s H locs) (h : tri v S = some res) (hc : cells ≤ mc) (hs : slots ≤ ms) (hdg : decode cc pc = .ok (.ireturn, 1)) : W p l e R s m args below meth c H locs cells slots (vx_MQ below (QTI G res) (XT G res) args s mc ms (Ab G)) (F0 m pc ls [.int v]) := by
  obtain ⟨⟨hx, hb, hml, hown, hts⟩, hlk, hK⟩ := C
  cases h
  exact W.widen hc hs (vx_ret (W.iret (v := v) hx hb hr (fun t ht hW => ⟨⟨v, (), rfl, rfl, by show va_P _ _ _ t.heap; rw [ht]; exact hd.1⟩, hd.2.F ht⟩) hd.2.2.2 hdg))
theorem R_tzret {v : Int32} (C : Cx p s m args meth c cc nL own G) (hr : meth.sig.returnType = some .boolean) (hd : Dy G S s H locs) (h : trz v S = some res) (hc : cells ≤ mc) (hs : slots ≤ ms) (hdg : decode cc pc = .ok (.ireturn, 1)) : W p l e R s m args below meth c H locs cells slots (vx_MQ below (QTI G res) (XT G res) args s mc ms (Ab G)) (F0 m pc ls [.int v]) := by
  obtain ⟨⟨hx, hb, hml, hown, hts⟩, hlk, hK⟩ := C
  unfold trz at h
  split at h
  · rename_i hz
    cases h
    refine W.widen hc hs (vx_ret (W.zret (v := v) hx hb hr ?_ (fun t ht hW => ⟨⟨v, (), rfl, rfl, by show va_P _ _ _ t.heap; rw [ht]; exact hd.1⟩, hd.2.F ht⟩) hd.2.2.2 hdg))
    rcases hz with rfl | rfl <;> rfl
  · cases h
theorem R_tvret (C : Cx p s m args meth c cc nL own G) (hr : meth.sig.returnType = none) (hd : Dy G S s H locs) (h : tri 0 S = some res) (hc : cells ≤ mc) (hs : slots ≤ ms) (hdg : decode cc pc = .ok (.return_, 1)) : W p l e R s m args below meth c H locs cells slots (vx_MQ below (QTV G res) (XT G res) args s mc ms (Ab G)) (F0 m pc ls []) := by
  obtain ⟨⟨hx, hb, hml, hown, hts⟩, hlk, hK⟩ := C
  cases h
  exact W.widen hc hs (vx_ret (W.vret hx hb hr (fun t ht hW => ⟨⟨(), rfl, rfl, by show va_P _ _ _ t.heap; rw [ht]; exact hd.1⟩, hd.2.F ht⟩) hd.2.2.2 hdg))
theorem Cx.hat {ik ic i0 : Nat} {b0 : ByteArray} {cls : String} (C : Cx p s m args meth c cc nL own G) (hk : KT own ik ic cls i0 b0) : ∀ w ∈ (owA own ic cls "java/lang/RuntimeException" i0 b0 ["java/lang/Exception"]).filter twN, w.before args s = true ∧ vx_ot w = true := fun w hw => by
  rcases hk.2.2.1 w hw with h | h
  · exact ⟨C.1.2.2.2.2 w h, by unfold vx_ot; rw [(List.mem_filter.mp h).2, Bool.or_true]⟩
  · exact ⟨va_Nw.use (xN_ok w h).2 (C.2.2.2.2.2.2.2.2.2.1 w h), by unfold vx_ot; rw [(xN_ok w h).2, Bool.true_or]⟩
theorem Dy.thrown {en : Nat} (hd : Dy G S s H locs) : ∀ t : State, s.vm.Alike t.vm → H.size ≤ t.heap.size → (∀ q : Nat, q < H.size → t.heap[q]? = H[q]?) → XT G (.inr en, S) (exn en) s t := fun t _ hz hq =>
  ⟨(), trivial, ⟨⟨en, rfl, rfl⟩, hd.1.kept (fun k q hk => hq _ (hd.1 k q hk).lt)⟩, ⟨Nat.le_trans hd.2.1 hz, fun q h1 h2 => (hq q (Nat.lt_of_lt_of_le h1 hd.2.1)).trans (hd.2.2.1 q h1 h2)⟩⟩
theorem R_throw {en ik is ic sno i0 : Nat} {text : String} {b0 : ByteArray} (C : Cx p s m args meth c cc nL own G) (hd : Dy G S s H locs) (h : trx en S = some res) (ht : ∀ x ∈ c.exceptionTable.toList, False) (hst : l.stackTraces = false) (hl : ls.size = nL) (hk : KT own ik ic (exn en) i0 b0) (hmem : (own, is, text, sno) ∈ sW) (hf : 5 < R.frames) (hlo : (rest.map fun v => v.category).sum + (13 * 3 + 43) ≤ R.locals) (hrc : cells + 1 ≤ R.cells) (hrs : slots + 6 ≤ R.slots) (hc : cells + 1 ≤ mc) (hs : slots + 6 ≤ ms)
    (d0 : decode cc pc = .ok (.new ik, 3)) (d3 : decode cc (pc + 3) = .ok (.dup, 1)) (d4 : decode cc (pc + 4) = .ok (.ldc is, 2)) (d6 : decode cc (pc + 6) = .ok (.invokespecial ic, 3)) (d9 : decode cc (pc + 9) = .ok (.athrow, 1)) : W p l e R s m args below meth c H locs cells slots (vx_MQ below Qc (XT G res) args s mc ms (Ab G)) (F0 m pc ls rest) := by
  have hat := C.hat hk
  obtain ⟨⟨hx, hb, hml, hown, hts⟩, hlk, hK⟩ := C
  cases h
  intro T hT X
  have htr : e.platform.stackTraces = false := (show e.platform.stackTraces = l.stackTraces by rw [X.admits.platform]).trans hst
  have Y := vx_rebase X (R' := { frames := R.frames, locals := R.locals, cells := 1, slots := 6 }) (Nat.le_refl _) (Nat.le_refl _) hrc hrs
  obtain ⟨s', hA⟩ : ∃ z, z = (T.setVm s.vm).setFrames (.invoking m args :: below) := ⟨_, rfl⟩
  rw [← hA] at Y
  have hvm : s'.vm = s.vm := by rw [hA]; rfl
  have hhp : s'.heap = H := by rw [hA]; exact hT
  have hW0 : s.WarmedH s'.vm := by rw [hvm]; exact State.WarmedH.refl s
  have hat' : ∀ w ∈ (owA own ic (exn en) "java/lang/RuntimeException" i0 b0 ["java/lang/Exception"]).filter twN, w.before args s' = true := fun w hw => vx_ot_at hW0 hvm.symm (hat w hw).2 (hat w hw).1
  have hk' : (Cond.classLink own ik (exn en)).before args s' = true := vx_ot_at hW0 hvm.symm (by unfold vx_ot; rw [(List.mem_filter.mp hk.1).2, Bool.or_true]) (hts _ hk.1)
  have hini' : (Cond.initialized (exn en)).before args s' = true := vx_ot_at hW0 hvm.symm (by unfold vx_ot; rw [(List.mem_filter.mp hk.2.1).2, Bool.or_true]) (hts _ hk.2.1)
  have hU' : vx_Zq Bundle.tN "UNASSIGNED_STACK" Bundle.steD (Ab G) s' s'.heap := by rw [hhp]; exact vx_Zq.moved hW0.alike (hK.2.2.2.2.1.kept hd.2.2.1)
  have hN' : vx_Zq Bundle.tN "SUPPRESSED_SENTINEL" Bundle.listD (Ab G) s' s'.heap := by rw [hhp]; exact vx_Zq.moved hW0.alike (hK.2.2.2.2.2.1.kept hd.2.2.1)
  have h : ∀ w ∈ owA own ic (exn en) "java/lang/RuntimeException" i0 b0 ["java/lang/Exception"], w.before args s' = true := tw_own hat' (vx_isRefq hU'.1) (vx_isRefq hN'.1) hU'.2.word hN'.2.word
  have hown' : s'.vm.findClass own = some m.cls := by rw [hvm]; exact hown
  have hins : (Cond.instantiable (exn en) 6).before args s' = true := h _ (by simp [owA])
  obtain ⟨vm₁, cX, kX, hfX, hkX, -, -, X₁, st1⟩ := Y.newCold hx (own := own) (C := exn en) (index := ik) (n := 6) hown' hk' hins hini' (g := F0 m pc ls rest) rfl (by rw [hb]; exact d0) (Nat.le_refl _) (Nat.le_refl _)
  generalize hT1 : (T.setVm vm₁).pushCell { cls := cX, slots := kX.instanceTypes.map defaultValue, vm := .none } = T1 at X₁ st1
  have hcat : (Value.ref T.heap.size).category = 1 := rfl
  have hcellA : T1.heap[T.heap.size]? = some (freshCell cX kX) := by rw [← hT1]; exact State.heap_pushCell_size _ _
  have d3' : decode c.code (pc + 3) = .ok (.dup, 1) := by rw [hb]; exact d3
  have d4' : decode c.code (pc + 4) = .ok (.ldc is, 2) := by rw [hb]; exact d4
  have hstr' : vk_R own is text (gK G sno) s' := vk_R.warm hW0 (hK.2.2.1 _ hmem)
  obtain ⟨U, hsteps, hrun, hend, hW, hsame, ce, hce, hO1, hO2⟩ := tw_ctor X₁ hx htr (own := own) (cls := exn en) (ic := ic) hown' hk.2.2.2.1 (by decide) (by decide) hk.2.2.2.2.1 hk.2.2.2.2.2.1 hk.2.2.2.2.2.2.1 hk.2.2.2.2.2.2.2 h (fun x hx => nomatch hx) hfX hkX hcellA (by rw [hhp, hT]; exact Nat.le_refl _) (msg := .ref (gK G sno)) rfl
    (g := { method := m, pc := pc + 6, locals := ls, stack := .ref (gK G sno) :: .ref T.heap.size :: .ref T.heap.size :: rest, locked := none }) rfl (hl.trans hml.symm) rfl rfl (rest := rest) rfl
    (by rw [hb]; exact d6) (by rw [hb]; exact d9) (fun x hx9 => (ht x hx9).elim) hf (by simp only [List.map_cons, List.sum_cons, hcat, List.length_cons, List.length_nil]; omega) hlk
  obtain ⟨f1, f2⟩ := vx_frame hsame
  rw [hhp] at f1 f2
  have hWs : s.WarmedH U.vm := State.WarmedH.trans hW0 hW
  have hcl : s.vm.findClass (exn en) = some ce.cls := by rw [hvm] at hO2; exact hO2
  have hall : s.sameButNew ({ U with vm := s.vm } : State) locs mc ms := by
    subst hA
    obtain ⟨e1, e2⟩ := hsame
    rw [State.setFrames_setFrames] at e1
    have h2 : (T.setVm s.vm).sameButNew ({ U with vm := s.vm } : State) [] (0 + 1) (0 + 6) := ⟨e1, e2⟩
    have h3 := X.same.trans h2
    rw [List.append_nil] at h3
    exact h3.mono hc hs
  refine ⟨U, ?_, .threw T.heap.size, hrun, hend, Or.inr ⟨T.heap.size, rfl, exn en, ce, locs, hd.thrown U hWs.alike f1 (fun q hq => f2 q hq (fun z hz => nomatch hz)), hce, hO1, hcl, hWs, hall, hd.2.2.2⟩⟩
  refine st1 _ ?_
  show Steps p.tables e below (T1.setTop { method := m, pc := pc + 3, locals := ls, stack := .ref T.heap.size :: rest, locked := none }) _
  jvm_step X₁.here [X₁.here.top, hx, d3', Value.category]
  exact X₁.ldcString hx (own := own) (text := text) (index := is) (a := gK G sno) hown' hstr'.1 hstr'.2
    (g := { method := m, pc := pc + 4, locals := ls, stack := .ref T.heap.size :: .ref T.heap.size :: rest, locked := none }) rfl d4' _ hsteps
theorem R_throwW {en ik is ic sno i0 : Nat} {text : String} {b0 : ByteArray} (C : Cx p s m args meth c cc nL own G) (hd : Dy G S s H locs) (h : trx en S = some res) (ht : ∀ x ∈ c.exceptionTable.toList, False) (hst : l.stackTraces = false) (hl : ls.size = nL) (hk : KT own ik ic (exn en) i0 b0) (hmem : (own, is, text, sno) ∈ sW) (hf : 5 < R.frames) (hlo : (rest.map fun v => v.category).sum + (13 * 3 + 43) ≤ R.locals) (hrc : cells + 1 ≤ R.cells) (hrs : slots + 6 ≤ R.slots) (hc : cells + 1 ≤ mc) (hs : slots + 6 ≤ ms)
    (d0 : decode cc pc = .ok (.new ik, 3)) (d3 : decode cc (pc + 3) = .ok (.dup, 1)) (d4 : decode cc (pc + 4) = .ok (.ldc_w is, 3)) (d6 : decode cc (pc + 7) = .ok (.invokespecial ic, 3)) (d9 : decode cc (pc + 10) = .ok (.athrow, 1)) : W p l e R s m args below meth c H locs cells slots (vx_MQ below Qc (XT G res) args s mc ms (Ab G)) (F0 m pc ls rest) := by
  have hat := C.hat hk
  obtain ⟨⟨hx, hb, hml, hown, hts⟩, hlk, hK⟩ := C
  cases h
  intro T hT X
  have htr : e.platform.stackTraces = false := (show e.platform.stackTraces = l.stackTraces by rw [X.admits.platform]).trans hst
  have Y := vx_rebase X (R' := { frames := R.frames, locals := R.locals, cells := 1, slots := 6 }) (Nat.le_refl _) (Nat.le_refl _) hrc hrs
  obtain ⟨s', hA⟩ : ∃ z, z = (T.setVm s.vm).setFrames (.invoking m args :: below) := ⟨_, rfl⟩
  rw [← hA] at Y
  have hvm : s'.vm = s.vm := by rw [hA]; rfl
  have hhp : s'.heap = H := by rw [hA]; exact hT
  have hW0 : s.WarmedH s'.vm := by rw [hvm]; exact State.WarmedH.refl s
  have hat' : ∀ w ∈ (owA own ic (exn en) "java/lang/RuntimeException" i0 b0 ["java/lang/Exception"]).filter twN, w.before args s' = true := fun w hw => vx_ot_at hW0 hvm.symm (hat w hw).2 (hat w hw).1
  have hk' : (Cond.classLink own ik (exn en)).before args s' = true := vx_ot_at hW0 hvm.symm (by unfold vx_ot; rw [(List.mem_filter.mp hk.1).2, Bool.or_true]) (hts _ hk.1)
  have hini' : (Cond.initialized (exn en)).before args s' = true := vx_ot_at hW0 hvm.symm (by unfold vx_ot; rw [(List.mem_filter.mp hk.2.1).2, Bool.or_true]) (hts _ hk.2.1)
  have hU' : vx_Zq Bundle.tN "UNASSIGNED_STACK" Bundle.steD (Ab G) s' s'.heap := by rw [hhp]; exact vx_Zq.moved hW0.alike (hK.2.2.2.2.1.kept hd.2.2.1)
  have hN' : vx_Zq Bundle.tN "SUPPRESSED_SENTINEL" Bundle.listD (Ab G) s' s'.heap := by rw [hhp]; exact vx_Zq.moved hW0.alike (hK.2.2.2.2.2.1.kept hd.2.2.1)
  have h : ∀ w ∈ owA own ic (exn en) "java/lang/RuntimeException" i0 b0 ["java/lang/Exception"], w.before args s' = true := tw_own hat' (vx_isRefq hU'.1) (vx_isRefq hN'.1) hU'.2.word hN'.2.word
  have hown' : s'.vm.findClass own = some m.cls := by rw [hvm]; exact hown
  have hins : (Cond.instantiable (exn en) 6).before args s' = true := h _ (by simp [owA])
  obtain ⟨vm₁, cX, kX, hfX, hkX, -, -, X₁, st1⟩ := Y.newCold hx (own := own) (C := exn en) (index := ik) (n := 6) hown' hk' hins hini' (g := F0 m pc ls rest) rfl (by rw [hb]; exact d0) (Nat.le_refl _) (Nat.le_refl _)
  generalize hT1 : (T.setVm vm₁).pushCell { cls := cX, slots := kX.instanceTypes.map defaultValue, vm := .none } = T1 at X₁ st1
  have hcat : (Value.ref T.heap.size).category = 1 := rfl
  have hcellA : T1.heap[T.heap.size]? = some (freshCell cX kX) := by rw [← hT1]; exact State.heap_pushCell_size _ _
  have d3' : decode c.code (pc + 3) = .ok (.dup, 1) := by rw [hb]; exact d3
  have d4' : decode c.code (pc + 4) = .ok (.ldc_w is, 3) := by rw [hb]; exact d4
  have hstr' : vk_R own is text (gK G sno) s' := vk_R.warm hW0 (hK.2.2.1 _ hmem)
  obtain ⟨U, hsteps, hrun, hend, hW, hsame, ce, hce, hO1, hO2⟩ := tw_ctor X₁ hx htr (own := own) (cls := exn en) (ic := ic) hown' hk.2.2.2.1 (by decide) (by decide) hk.2.2.2.2.1 hk.2.2.2.2.2.1 hk.2.2.2.2.2.2.1 hk.2.2.2.2.2.2.2 h (fun x hx => nomatch hx) hfX hkX hcellA (by rw [hhp, hT]; exact Nat.le_refl _) (msg := .ref (gK G sno)) rfl
    (g := { method := m, pc := pc + 7, locals := ls, stack := .ref (gK G sno) :: .ref T.heap.size :: .ref T.heap.size :: rest, locked := none }) rfl (hl.trans hml.symm) rfl rfl (rest := rest) rfl
    (by rw [hb]; exact d6) (by rw [hb]; exact d9) (fun x hx9 => (ht x hx9).elim) hf (by simp only [List.map_cons, List.sum_cons, hcat, List.length_cons, List.length_nil]; omega) hlk
  obtain ⟨f1, f2⟩ := vx_frame hsame
  rw [hhp] at f1 f2
  have hWs : s.WarmedH U.vm := State.WarmedH.trans hW0 hW
  have hcl : s.vm.findClass (exn en) = some ce.cls := by rw [hvm] at hO2; exact hO2
  have hall : s.sameButNew ({ U with vm := s.vm } : State) locs mc ms := by
    subst hA
    obtain ⟨e1, e2⟩ := hsame
    rw [State.setFrames_setFrames] at e1
    have h2 : (T.setVm s.vm).sameButNew ({ U with vm := s.vm } : State) [] (0 + 1) (0 + 6) := ⟨e1, e2⟩
    have h3 := X.same.trans h2
    rw [List.append_nil] at h3
    exact h3.mono hc hs
  refine ⟨U, ?_, .threw T.heap.size, hrun, hend, Or.inr ⟨T.heap.size, rfl, exn en, ce, locs, hd.thrown U hWs.alike f1 (fun q hq => f2 q hq (fun z hz => nomatch hz)), hce, hO1, hcl, hWs, hall, hd.2.2.2⟩⟩
  refine st1 _ ?_
  show Steps p.tables e below (T1.setTop { method := m, pc := pc + 3, locals := ls, stack := .ref T.heap.size :: rest, locked := none }) _
  jvm_step X₁.here [X₁.here.top, hx, d3', Value.category]
  exact X₁.ldcStringW hx (own := own) (text := text) (index := is) (a := gK G sno) hown' hstr'.1 hstr'.2
    (g := { method := m, pc := pc + 4, locals := ls, stack := .ref T.heap.size :: .ref T.heap.size :: rest, locked := none }) rfl d4' _ hsteps
variable {idx n np dm ci N a : Nat} {C0 : String} {T : u_T} {y : MethodName} {b : ByteArray} {r : Option FieldType} {As st0 : List Value} {x : Option TR} {k : Int32 → St → Option TR}
theorem R_tVi (C : Cx p s m args meth c cc nL own G) (hd : Dy G S s H locs) (ht : ∀ x ∈ c.exceptionTable.toList, False) (hst : l.stackTraces = false) (h : bt x k = some res) (hM : ∀ r0, x = some r0 → vx_Met l y (wm y b n r) (rmL dm mc ms) (PcW G S (.ref (gR G a) :: As)) (QTI G r0) (XT G r0) mc ms (Ab G)) (hv : CV own idx C0 y b n r np) (hcl : vwCl[ci]? = some (C0, T, N)) (hci : ci < 20) (hk : kd a = ci) (hl : ls.size = nL)
    (hR : (rmL dm mc ms).frames + 1 ≤ R.frames ∧ 8 + (n + 11) + (rmL dm mc ms).locals ≤ R.locals) (hn : As.length = np) (hst0 : st0 = As.reverse ++ .ref (gR G a) :: rest) (hW : (rest.map fun v => v.category).sum ≤ 8) (hdg : decode cc pc = .ok (.invokevirtual idx, 3)) (hf : cells + mc ≤ R.cells ∧ slots + ms ≤ R.slots) (hc : cells + mc ≤ MC) (hs : slots + ms ≤ MS)
    (kk : ∀ (v : Int32) (S1 : St) (H1 : Heap) (locs1 : List Loc), Dy G S1 s H1 locs1 → k v S1 = some res → W p l e R s m args below meth c H1 locs1 (cells + mc) (slots + ms) (vx_MQ below Qc (XT G res) args s MC MS (Ab G)) (F0 m (pc + 3) ls (.int v :: rest))) : W p l e R s m args below meth c H locs cells slots (vx_MQ below Qc (XT G res) args s MC MS (Ab G)) (F0 m pc ls st0) := by
  cases hxe : x with
  | none => rw [hxe] at h; cases h
  | some r0 =>
    rw [hxe] at h
    refine vx_calli (A1 := Ab G) (A0 := Ab G) (AX := Ab G) (free := Ab G) (rest := rest) (vx_runV (As := As) (rest := rest) C.1 (hM r0 hxe) (cwV np C.1.2.2.2.2 hv.1 rfl rfl rfl hv.2 hR) ⟨PcW.blind, C.recv hd hk hci hcl, C.pre hd⟩ rfl hn hl hst0 (lv_room hW) hdg hf) hd.2 (fun _ _ h => h) (fun _ h => h) (fun _ _ h => h) ?_ ?_
    · intro E ce q9 u t H1 locs1 hh _ _ hB _ _ hS1 hce hcv hcl9
      obtain ⟨⟨en, h1, h2⟩, hP1⟩ := hB
      subst h2
      obtain ⟨w, S1⟩ := r0
      cases h1
      cases h
      exact vx_out (fun x hx9 => (ht x hx9).elim) C.2.1 hce hcv hcl9 (fun t2 ht2 _ => ⟨(), trivial, ⟨⟨en, rfl, rfl⟩, by rw [ht2, ← hh]; exact hP1⟩, hS1.F ht2⟩) hS1.2.2 hc hs
    · intro v u t H1 locs1 hh _ hw hB _ _ hS1
      obtain ⟨w, S1⟩ := r0
      cases hw
      exact kk v S1 H1 locs1 ⟨by rw [← hh]; exact hB, hS1⟩ h
theorem R_tVv (C : Cx p s m args meth c cc nL own G) (hd : Dy G S s H locs) (ht : ∀ x ∈ c.exceptionTable.toList, False) (hst : l.stackTraces = false) (h : bt x k = some res) (hM : ∀ r0, x = some r0 → vx_Met l y (wm y b n r) (rmL dm mc ms) (PcW G S (.ref (gR G a) :: As)) (QTV G r0) (XT G r0) mc ms (Ab G)) (hv : CV own idx C0 y b n r np) (hcl : vwCl[ci]? = some (C0, T, N)) (hci : ci < 20) (hk : kd a = ci) (hl : ls.size = nL)
    (hR : (rmL dm mc ms).frames + 1 ≤ R.frames ∧ 8 + (n + 11) + (rmL dm mc ms).locals ≤ R.locals) (hn : As.length = np) (hst0 : st0 = As.reverse ++ .ref (gR G a) :: rest) (hW : (rest.map fun v => v.category).sum ≤ 8) (hdg : decode cc pc = .ok (.invokevirtual idx, 3)) (hf : cells + mc ≤ R.cells ∧ slots + ms ≤ R.slots) (hc : cells + mc ≤ MC) (hs : slots + ms ≤ MS)
    (kk : ∀ (v : Int32) (S1 : St) (H1 : Heap) (locs1 : List Loc), Dy G S1 s H1 locs1 → k v S1 = some res → W p l e R s m args below meth c H1 locs1 (cells + mc) (slots + ms) (vx_MQ below Qc (XT G res) args s MC MS (Ab G)) (F0 m (pc + 3) ls rest)) : W p l e R s m args below meth c H locs cells slots (vx_MQ below Qc (XT G res) args s MC MS (Ab G)) (F0 m pc ls st0) := by
  cases hxe : x with
  | none => rw [hxe] at h; cases h
  | some r0 =>
    rw [hxe] at h
    refine vx_callv (A1 := Ab G) (A0 := Ab G) (AX := Ab G) (free := Ab G) (rest := rest) (vx_runV (As := As) (rest := rest) C.1 (hM r0 hxe) (cwV np C.1.2.2.2.2 hv.1 rfl rfl rfl hv.2 hR) ⟨PcW.blind, C.recv hd hk hci hcl, C.pre hd⟩ rfl hn hl hst0 (lv_room hW) hdg hf) hd.2 (fun _ _ h => h) (fun _ h => h) (fun _ _ h => h) ?_ ?_
    · intro E ce q9 u t H1 locs1 hh _ _ hB _ _ hS1 hce hcv hcl9
      obtain ⟨⟨en, h1, h2⟩, hP1⟩ := hB
      subst h2
      obtain ⟨w, S1⟩ := r0
      cases h1
      cases h
      exact vx_out (fun x hx9 => (ht x hx9).elim) C.2.1 hce hcv hcl9 (fun t2 ht2 _ => ⟨(), trivial, ⟨⟨en, rfl, rfl⟩, by rw [ht2, ← hh]; exact hP1⟩, hS1.F ht2⟩) hS1.2.2 hc hs
    · intro u t H1 locs1 hh _ hw hB _ _ hS1
      obtain ⟨w, S1⟩ := r0
      cases hw
      exact kk 0 S1 H1 locs1 ⟨by rw [← hh]; exact hB, hS1⟩ h
end RT
