/-! the law's helpers: a call that may throw, caught here -/
def fC (c1 c2 : Option Int32) (z : Bool) (x : Option TR) : Option (Int32 × St) := match x with
  | none => none
  | some (.inl r, S) => some (0, up S 186 0 (if z then (if r = 0 then 0 else 1) else r))
  | some (.inr en, S) => if en = 1 then c1.map (fun k => (k, S)) else if en = 2 then c2.map (fun k => (k, S)) else none
def wmH (y : MethodName) (b : ByteArray) (n : Nat) (r : Option FieldType) (hh : List (Nat × Nat × Nat × Nat)) : List Cond := .codeWith y b n r hh :: gt
theorem Mt_ofWH {l : Launch} {y : MethodName} {ws ws' : List Cond} {rm : Room} {Pc : Array Value → State → Prop} {Qc : Array Value → State → Outcome → State → Prop} {mc ms : Nat} {free : Addr → Prop} {cc : ByteArray} {maxL : Nat} {ret : Option FieldType} {hh : List (Nat × Nat × Nat × Nat)}
    (hy : plainName y.cls = true) (hw : ws = Cond.codeWith y cc maxL ret hh :: ws')
    (body : ∀ p e s m args below meth c s₁, BodyLoose p l y (headSpec ws rm) cc maxL ret e s m args below meth c s₁ → c.maxLocals = maxL → c.exceptionTable.toList = tableOf hh → Pc args s →
      W p l e (headSpec ws rm).room s m args below meth c s.heap [] 0 0 (MQ below Qc args s mc ms free) (entryFrame m args maxL)) : Met l y ws rm Pc Qc mc ms free := by
  refine MetFree.of_bodyS (code := cc) (maxLocals := maxL) (ret := ret) hy ?_ ?_
  · intro args s m h hn
    obtain ⟨m9, meth, c, hn9, h1, h2, h3, h4, -, h5, h6, -⟩ := Cond.codeWith_spec (atoms_spec (ws := ws) h _ (by rw [hw]; exact List.mem_cons_self))
    cases hn.symm.trans hn9
    exact ⟨meth, c, h1, h2, h3, h4, h5, h6⟩
  · intro p e s m args below meth c s₁ B hml hP _
    have hh0 : s₁.heap = s.heap := by rw [B.state]; rfl
    have ht : c.exceptionTable.toList = tableOf hh := vx_table (x := y) B (atoms_spec (ws := ws) B.pre _ (by rw [hw]; exact List.mem_cons_self))
    obtain ⟨t, a1, o, b1, b2, b3⟩ := body p e s m args below meth c s₁ B hml ht hP s₁ hh0 (Stand.of_body B)
    exact ⟨t, o, a1, b1, b2, ⟨b3.1, b3.2⟩⟩
section HR
variable {p : Program} {l : Launch} {e : Env} {R : Room} {s : State} {m : MethodId} {args : Array Value} {below : List Frame} {meth : Method} {c : Code} {H : Heap} {locs : List Loc} {cells slots : Nat} {Q : State → Prop}
variable {cc : ByteArray} {pc nL : Nat} {ls : Array Slot} {rest : List Value} {own : String} {G : Gt} {S : St} {mc ms : Nat}
theorem R_last (C : Cx p s m args meth c cc nL own G) (hd : Dy G S s H locs) {v : Int32} (hdg : decode cc pc = .ok (.lastore, 1))
    (kk : ∀ (H1 : Heap) (locs1 : List Loc), Dy G (up S 186 0 v) s H1 locs1 → W p l e R s m args below meth c H1 locs1 cells slots Q (F0 m (pc + 1) ls rest)) : W p l e R s m args below meth c H locs cells slots Q (F0 m pc ls (.long v.toInt64 :: .int 0 :: .ref (gR G 186) :: rest)) := by
  obtain ⟨⟨hx, hb, hml, hown, hts⟩, hlk, hK⟩ := C
  have hc := cl_at (G := G) (S := S) (k := 186) (by decide)
  rw [cE_24 rfl] at hc
  refine va_last hx hb hK.1 hd.1 (cl_D hK S) hd.2 186 4 hc rfl (show ¬ ((0 : Int32) < 0 ∨ ln 186 ≤ (0 : Int32).toNatClampNeg) by decide) hdg (fun H1 locs1 hP1 _ hS1 => kk _ _ (Dy.wr (r := upd (S 186) 0 v) (by decide) ?_ hP1 hS1))
  rw [cE_24 rfl]
  refine congrArg (fun f => (Sum.inl (gC G 4, ln 186, Sum.inr (Sum.inl f)) : va_E)) ?_
  funext j
  show (if j = 0 then v.toInt64 else (S 186 j).toInt64) = (upd (S 186) 0 v j).toInt64
  unfold upd
  split <;> rfl
theorem R_lald (C : Cx p s m args meth c cc nL own G) (hd : Dy G S s H locs) (hdg : decode cc pc = .ok (.laload, 1))
    (kk : W p l e R s m args below meth c H locs cells slots Q (F0 m (pc + 1) ls (.long (S 186 0).toInt64 :: rest))) : W p l e R s m args below meth c H locs cells slots Q (F0 m pc ls (.int 0 :: .ref (gR G 186) :: rest)) := by
  obtain ⟨⟨hx, hb, hml, hown, hts⟩, hlk, hK⟩ := C
  have hc := cl_at (G := G) (S := S) (k := 186) (by decide)
  rw [cE_24 rfl] at hc
  exact va_lald hx hb hK.1 hd.1 186 4 hc rfl (show ¬ ((0 : Int32) < 0 ∨ ln 186 ≤ (0 : Int32).toNatClampNeg) by decide) hdg kk
variable {idx n np dm ci N a : Nat} {C0 : String} {T : u_T} {y : MethodName} {b : ByteArray} {r : Option FieldType} {As st0 : List Value}
theorem R_tVc {w : Int32 ⊕ Nat} {S1 : St} (C : Cx p s m args meth c cc nL own G) (hd : Dy G S s H locs) (hM : vx_Met l y (wm y b n r) (rmL dm mc ms) (PcW G S (.ref (gR G a) :: As)) (QTI G (w, S1)) (XT G (w, S1)) mc ms (Ab G)) (hv : CV own idx C0 y b n r np) (hcl : vwCl[ci]? = some (C0, T, N)) (hci : ci < 20) (hk : kd a = ci) (hl : ls.size = nL)
    (hR : (rmL dm mc ms).frames + 1 ≤ R.frames ∧ 8 + (n + 11) + (rmL dm mc ms).locals ≤ R.locals) (hn : As.length = np) (hst0 : st0 = As.reverse ++ .ref (gR G a) :: rest) (hW : (rest.map fun v => v.category).sum ≤ 8) (hdg : decode cc pc = .ok (.invokevirtual idx, 3)) (hf : cells + mc ≤ R.cells ∧ slots + ms ≤ R.slots)
    (kx : ∀ en, w = .inr en → ∀ (ce : Cell) (q9 : Addr) (H1 : Heap) (locs1 : List Loc), Dy G S1 s H1 locs1 → H1[q9]? = some ce → ce.vm = .none → s.vm.findClass (exn en) = some ce.cls → vx_W p l e R s m args below meth c H1 locs1 (cells + mc) (slots + ms) Q (F0 m pc ls rest) q9)
    (kk : ∀ v, w = .inl v → ∀ (H1 : Heap) (locs1 : List Loc), Dy G S1 s H1 locs1 → W p l e R s m args below meth c H1 locs1 (cells + mc) (slots + ms) Q (F0 m (pc + 3) ls (.int v :: rest))) : W p l e R s m args below meth c H locs cells slots Q (F0 m pc ls st0) := by
  refine vx_calli (A1 := Ab G) (A0 := Ab G) (AX := Ab G) (free := Ab G) (rest := rest) (vx_runV (As := As) (rest := rest) C.1 hM (cwV np C.1.2.2.2.2 hv.1 rfl rfl rfl hv.2 hR) ⟨PcW.blind, C.recv hd hk hci hcl, C.pre hd⟩ rfl hn hl hst0 (lv_room hW) hdg hf) hd.2 (fun _ _ h => h) (fun _ h => h) (fun _ _ h => h) ?_ ?_
  · intro E ce q9 u t H1 locs1 hh _ _ hB _ _ hS1 hce hcv hcl9
    obtain ⟨⟨en, h1, h2⟩, hP1⟩ := hB
    subst h2
    exact kx en h1 ce q9 H1 locs1 ⟨by rw [← hh]; exact hP1, hS1⟩ hce hcv hcl9
  · intro v u t H1 locs1 hh _ hw hB _ _ hS1
    exact kk v hw H1 locs1 ⟨by rw [← hh]; exact hB, hS1⟩
theorem Cx.cst (C : Cx p s m args meth c cc nL own G) (en : Nat) : (Cond.castable (exn en) (exn en)).before args s = true := by
  unfold exn
  split
  · exact va_Nw.use (xN_ok (.castable nNS nNS) (by decide)).2 (C.2.2.2.2.2.2.2.2.2.1 _ (by decide))
  · exact va_Nw.use (xN_ok (.castable nIA nIA) (by decide)).2 (C.2.2.2.2.2.2.2.2.2.1 _ (by decide))
theorem Cx.ncs (C : Cx p s m args meth c cc nL own G) : va_Nc nIA nNS s := C.2.2.2.2.2.2.2.2.2.2.1
end HR
