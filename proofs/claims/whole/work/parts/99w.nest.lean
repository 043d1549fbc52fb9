/-! a call of a nest mate's <init> -/
def CInw (y : MethodName) (b : ByteArray) (ml np : Nat) : Prop := Cond.instanceMethod y ∈ gt ∧ Cond.initialized y.cls ∈ gt ∧ Cond.code y b ml none ∈ gt ∧ y.name = "<init>" ∧ (y.cls ≠ "java/lang/invoke/MethodHandle" ∧ y.cls ≠ "java/lang/invoke/VarHandle" ∧ (parseMethodDescriptor y.desc).map (fun d => d.parameters.length) = some np)
section CN
variable {p : Program} {l : Launch} {e : Env} {R : Room} {s : State} {m : MethodId} {args : Array Value} {below : List Frame} {meth : Method} {c : Code} {H : Heap} {locs : List Loc} {cells slots : Nat} {Q : State → Prop}
variable {cc : ByteArray} {pc nL : Nat} {ls : Array Slot} {rest : List Value} {own host : String} {G : Gt} {E E' : Nat → va_E} {n n' k ml np dm mc ms idx : Nat} {y : MethodName} {b : ByteArray} {As st0 : List Value}
theorem N_cn (C : Cx p s m args meth c cc nL own G) (hG : Kc G s) (hP : Yw G E n H) (hS : va_S (Ab G) s.heap H locs) (hM : Met l y (wm y b ml none) (rmL dm mc ms) (PcI G E n (.ref (gR G k) :: As)) (QN G E' n') mc ms (Ab G)) (hN : va_Nw (.methodLinkNest own idx y host) s) (hv : CInw y b ml np) (hl : ls.size = nL)
    (hR : (rmL dm mc ms).frames + 1 ≤ R.frames ∧ 8 + (ml + 11) + (rmL dm mc ms).locals ≤ R.locals) (hn : As.length = np) (hst : st0 = As.reverse ++ .ref (gR G k) :: rest) (hW : (rest.map fun v => v.category).sum ≤ 8) (hdg : decode cc pc = .ok (.invokespecial idx, 3)) (hf : cells + mc ≤ R.cells ∧ slots + ms ≤ R.slots)
    (kk : ∀ (H1 : Heap) (locs1 : List Loc), Yw G E' n' H1 → va_S (Ab G) s.heap H1 locs1 → W p l e R s m args below meth c H1 locs1 (cells + mc) (slots + ms) Q (F0 m (pc + 3) ls rest)) : W p l e R s m args below meth c H locs cells slots Q (F0 m pc ls st0) := by
  have hts := C.1.2.2.2.2
  refine va_callv (A1 := Ab G) (A0 := Ab G) (free := Ab G) (rest := rest) (va_runIN (As := As) (rest := rest) C.1 hM ⟨va_cnB np hts (wm_gt hv.2.2.1) rfl rfl rfl hN (hts _ hv.2.1) hv.2.2.2.2 hR, hv.2.2.2.1, hts _ hv.1⟩ ⟨PcI.blind, fun U hU hW => ⟨rfl, ?_, hG.go hW, by rw [hU]; exact hP⟩⟩ rfl hn hl hst (lv_room hW) hdg hf) hS (fun _ _ h => h) (fun _ h => h) ?_
  · rw [hU]; exact C.2.2.go hW hS.2.1
  · intro u t H1 locs1 ht _ hw hB _ _ hS1
    exact kk H1 locs1 (by rw [← ht]; exact hB) hS1
end CN
