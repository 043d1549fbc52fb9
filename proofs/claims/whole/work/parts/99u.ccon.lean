/-! contracts of the constructors: the cells so far, one object of them under way -/
def PcI (G : Gt) (E : Nat → va_E) (n : Nat) (vs : List Value) : Array Value → State → Prop := fun v U => v = vs.toArray ∧ Ks G U U.heap ∧ Kc G U ∧ Yw G E n U.heap
theorem Kc.vm {G : Gt} {s U : State} (h : Kc G s) (hv : U.vm = s.vm) : Kc G U := by
  unfold Kc at h ⊢
  rw [hv]; exact h
theorem PcI.blind {G : Gt} {E : Nat → va_E} {n : Nat} {vs : List Value} : FrameBlind (PcI G E n vs) := fun a U g mk h => by
  obtain ⟨h1, h2, h3, h4⟩ := h
  exact ⟨h1, h2.vm rfl, h3.vm rfl, h4⟩
abbrev QN (G : Gt) (E : Nat → va_E) (n : Nat) : Array Value → State → Outcome → State → Prop := va_Qv (fun (_ : Unit) => True) (fun _ t => Yw G E n t.heap) (Ab G)
theorem Kc.go {G : Gt} {s U : State} (h : Kc G s) (hW : s.WarmedH U.vm) : Kc G U := by
  obtain ⟨h1, h2, h3, h4⟩ := h
  exact ⟨h1, by rw [hW.alike.findClass]; exact h2, by rw [hW.alike.findClass]; exact h3, by rw [hW.alike.findClass]; exact h4⟩
def CIw (own : String) (idx : Nat) (y : MethodName) (b : ByteArray) (ml np : Nat) : Prop := Cond.methodLink own idx y ∈ gt ∧ Cond.instanceMethod y ∈ gt ∧ Cond.initialized y.cls ∈ gt ∧ Cond.code y b ml none ∈ gt ∧ y.name = "<init>" ∧ (y.cls ≠ "java/lang/invoke/MethodHandle" ∧ y.cls ≠ "java/lang/invoke/VarHandle" ∧ (parseMethodDescriptor y.desc).map (fun d => d.parameters.length) = some np)
theorem wm_gt {y : MethodName} {b : ByteArray} {n : Nat} {r : Option FieldType} (h : Cond.code y b n r ∈ gt) : GoodIn gt (wm y b n r) := gt_in (fun w hw => by
  rcases List.mem_cons.mp hw with rfl | hw
  · exact h
  · exact hw)
section CI
variable {p : Program} {l : Launch} {e : Env} {R : Room} {s : State} {m : MethodId} {args : Array Value} {below : List Frame} {meth : Method} {c : Code} {H : Heap} {locs : List Loc} {cells slots : Nat} {Q : State → Prop}
variable {cc : ByteArray} {pc nL : Nat} {ls : Array Slot} {rest : List Value} {own : String} {G : Gt} {E E' : Nat → va_E} {n n' k ml np dm mc ms idx : Nat} {y : MethodName} {b : ByteArray} {As st0 : List Value}
theorem N_ci (C : Cx p s m args meth c cc nL own G) (hG : Kc G s) (hP : Yw G E n H) (hS : va_S (Ab G) s.heap H locs) (hM : Met l y (wm y b ml none) (rmL dm mc ms) (PcI G E n (.ref (gR G k) :: As)) (QN G E' n') mc ms (Ab G)) (hv : CIw own idx y b ml np) (hl : ls.size = nL)
    (hR : (rmL dm mc ms).frames + 1 ≤ R.frames ∧ 8 + (ml + 11) + (rmL dm mc ms).locals ≤ R.locals) (hn : As.length = np) (hst : st0 = As.reverse ++ .ref (gR G k) :: rest) (hW : (rest.map fun v => v.category).sum ≤ 8) (hdg : decode cc pc = .ok (.invokespecial idx, 3)) (hf : cells + mc ≤ R.cells ∧ slots + ms ≤ R.slots)
    (kk : ∀ (H1 : Heap) (locs1 : List Loc), Yw G E' n' H1 → va_S (Ab G) s.heap H1 locs1 → W p l e R s m args below meth c H1 locs1 (cells + mc) (slots + ms) Q (F0 m (pc + 3) ls rest)) : W p l e R s m args below meth c H locs cells slots Q (F0 m pc ls st0) := by
  have hts := C.1.2.2.2.2
  refine va_callv (A1 := Ab G) (A0 := Ab G) (free := Ab G) (rest := rest) (va_runI (As := As) (rest := rest) C.1 hM (cwI np hts (wm_gt hv.2.2.2.1) rfl rfl rfl (hts _ hv.2.2.1) (hts _ hv.1) (hts _ hv.2.1) hv.2.2.2.2.1 hv.2.2.2.2.2 hR) ⟨PcI.blind, fun U hU hW => ⟨rfl, ?_, hG.go hW, by rw [hU]; exact hP⟩⟩ rfl hn hl hst (lv_room hW) hdg hf) hS (fun _ _ h => h) (fun _ h => h) ?_
  · rw [hU]; exact C.2.2.go hW hS.2.1
  · intro u t H1 locs1 ht _ hw hB _ _ hS1
    exact kk H1 locs1 (by rw [← ht]; exact hB) hS1
theorem N_ret (C : Cx p s m args meth c cc nL own G) (hr : meth.sig.returnType = none) (hP : Yw G E n H) (hS : va_S (Ab G) s.heap H locs) (hdg : decode cc pc = .ok (.return_, 1)) : W p l e R s m args below meth c H locs cells slots (MQ below (QN G E n) args s cells slots (Ab G)) (F0 m pc ls []) := by
  obtain ⟨⟨hx, hb, hml, hown, hts⟩, hlk, hK⟩ := C
  exact W.vret hx hb hr (fun t ht hW => ⟨⟨(), rfl, trivial, by show Yw _ _ _ t.heap; rw [ht]; exact hP⟩, hS.F ht⟩) hS.2.2 hdg
end CI
