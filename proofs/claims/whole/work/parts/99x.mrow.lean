/-! rows of rows and rows of Strings that are made; what the constructors ask beside Kc -/
theorem arrV_ext {c : ClassId} {N : Nat} {f g : Nat → Value} (h : ∀ j, j < N → f j = g j) : arrV c N f = arrV c N g := by
  have e : (fun j : Fin N => f j.val) = (fun j : Fin N => g j.val) := funext fun j => h j.val j.isLt
  unfold arrV
  rw [e]
theorem ou_row (c : ClassId) (N h0 : Nat) : ∀ i : Nat, Jvm.Free.Multi.outerC c N h0 i = arrV c N (fun j => va_rf (if j < i then some (h0 + 1 + j) else none))
  | 0 => by
    show ({ cls := c, slots := Array.replicate N .null, vm := .none } : Cell) = _
    rw [arrV_new]
    refine congrArg (arrV c N) (funext fun j => ?_)
    simp [va_rf]
  | i + 1 => by
    show (Jvm.Free.Multi.outerC c N h0 i).setSlot i (.ref (h0 + 1 + i)) = _
    rw [ou_row c N h0 i, arrV_store]
    refine congrArg (arrV c N) (funext fun j => ?_)
    by_cases e : j = i
    · subst e
      simp [updV, va_rf]
    · by_cases h : j < i
      · simp [updV, e, h, Nat.lt_succ_of_lt h]
      · simp [updV, e, h, show ¬ j < i + 1 by omega]
def AI (s : State) : Prop := (Cond.arrayOver (.array .int)).before #[] s = true
theorem AI.moved {u U : State} (hvm : u.vm.Alike U.vm) (h : AI u) : AI U := by
  unfold AI Cond.before at h ⊢
  exact Jvm.Stand.arrayOver_alikeB hvm h
theorem AI.use {A : Array Value} {s : State} (h : AI s) : (Cond.arrayOver (.array .int)).before A s = true := by
  unfold AI Cond.before at h
  unfold Cond.before
  exact Jvm.Stand.arrayOver_alikeB (Vm.Alike.refl _) h
def Kd (G : Gt) (s : State) : Prop := Kc G s ∧ AI s ∧ va_AO "java/lang/String" s ∧ va_Nw (.methodLinkNest RX9 34 yX4_init RX9) s ∧ va_Nw (.methodLinkNest RX9 62 yX5_init RX9) s
theorem Kd.vm {G : Gt} {s U : State} (h : Kd G s) (hv : U.vm = s.vm) : Kd G U := by
  have hal : s.vm.Alike U.vm := by rw [hv]; exact Vm.Alike.refl _
  exact ⟨h.1.vm hv, h.2.1.moved hal, h.2.2.1.moved hal, va_Nw.same rfl hv.symm h.2.2.2.1, va_Nw.same rfl hv.symm h.2.2.2.2⟩
theorem Kd.go {G : Gt} {s U : State} (h : Kd G s) (hW : s.WarmedH U.vm) : Kd G U := ⟨h.1.go hW, h.2.1.moved hW.alike, h.2.2.1.moved hW.alike, va_Nw.warmM hW h.2.2.2.1, va_Nw.warmM hW h.2.2.2.2⟩
def PcJ (G : Gt) (E : Nat → va_E) (n : Nat) (vs : List Value) : Array Value → State → Prop := fun v U => v = vs.toArray ∧ Ks G U U.heap ∧ Kd G U ∧ Yw G E n U.heap
theorem PcJ.blind {G : Gt} {E : Nat → va_E} {n : Nat} {vs : List Value} : FrameBlind (PcJ G E n vs) := fun a U g mk h => by
  obtain ⟨h1, h2, h3, h4⟩ := h
  exact ⟨h1, h2.vm rfl, h3.vm rfl, h4⟩
theorem Yw.strs {G : Gt} {E : Nat → va_E} {k N n : Nat} {c : ClassId} {f g : Nat → Option Nat} {H : Heap} (h : Yw G (uE E k (.inl (c, N, .inr (.inr (.inr (.inr f)))))) n H) (he : ∀ j, j < N → f j = g j) : Yw G (uE E k (.inl (c, N, .inr (.inr (.inr (.inr g)))))) n H := by
  refine ⟨fun j hj => ?_, h.2⟩
  have hj1 := h.1 j hj
  by_cases q : j = k
  · subst q
    rw [uE_at] at hj1 ⊢
    have e : vp_cell c (N, .inr (.inr (.inr (.inr f)))) = vp_cell c (N, .inr (.inr (.inr (.inr g)))) := by
      rw [vp_cell_q, vp_cell_q]
      exact arrV_ext (fun i hi => by rw [he i hi])
    have h2 : H[gR G j]? = some (vp_cell c (N, .inr (.inr (.inr (.inr f))))) := hj1
    rw [e] at h2
    exact h2
  · rw [uE_ne q] at hj1 ⊢
    exact hj1
theorem cE_r106 {G : Gt} {k : Nat} (h1 : kd k = 20) (h2 : ln k = 106) (h3 : k ≠ 0 ∧ k ≠ 32 ∧ k ≠ 130 ∧ k ≠ 142) : cE G k (S0 k) = .inl (gC G 0, 106, .inl (fun _ => 0)) := by
  rw [cE_20 h1, h2, show S0 k = (fun _ => 0) from funext fun i => S0_0 h3.1 h3.2.1 h3.2.2.1 h3.2.2.2]
theorem r106_38 : ∀ i, i < 40 → kd (38 + 1 + i) = 20 ∧ ln (38 + 1 + i) = 106 := by decide +kernel
theorem r106_85 : ∀ i, i < 40 → kd (85 + 1 + i) = 20 ∧ ln (85 + 1 + i) = 106 := by decide +kernel
section MR
variable {p : Program} {l : Launch} {e : Env} {R : Room} {s : State} {m : MethodId} {args : Array Value} {below : List Frame} {meth : Method} {c : Code} {H : Heap} {locs : List Loc} {cells slots : Nat} {Q : State → Prop}
variable {cc : ByteArray} {pc nL : Nat} {ls : Array Slot} {rest : List Value} {own : String} {G : Gt} {E : Nat → va_E} {n index : Nat}
theorem N_mna (C : Cx p s m args meth c cc nL own G) (hG : Kc G s) (hA : AI s) (hP : Yw G E n H) (hS : va_S (Ab G) s.heap H locs) {k1 k2 : Int32} {N M : Nat} (h1 : Cond.classLink own index "[[I" ∈ gt) (h3 : Cond.arrayClass .int ∈ gt) (hE : E n = .inl (gC G 2, N, .inr (.inr (.inr (.inr (fun i => some (gR G (n + 1 + i)))))))) (hEi : ∀ i, i < N → E (n + 1 + i) = .inl (gC G 0, M, .inl (fun _ => 0))) (hk1 : ¬ k1 < 0) (hk2 : ¬ k2 < 0) (hN : k1.toNatClampNeg = N) (hM : k2.toNatClampNeg = M) (hb1 : N * 4 ≤ 536870912) (hb2 : M * 4 ≤ 536870912) (hb3 : M ≤ 536870912) (hc : cells + (1 + N) ≤ R.cells) (hs : slots + (N + N * M) ≤ R.slots) (hdg : decode cc pc = .ok (.multianewarray index 2, 4))
    (kk : ∀ H1 : Heap, Yw G E (n + 1 + N) H1 → va_S (Ab G) s.heap H1 locs → W p l e R s m args below meth c H1 locs (cells + 1 + N) (slots + N + N * M) Q (F0 m (pc + 4) ls (.ref (gR G n) :: rest))) : W p l e R s m args below meth c H locs cells slots Q (F0 m pc ls (.int k2 :: .int k1 :: rest)) := by
  obtain ⟨⟨hx, hb, hml, hown, hts⟩, hlk, hK⟩ := C
  have h4 : s.vm.findClass ("[" ++ (FieldType.array .int).toString) = some (gC G 2) := (hK.1.2 2 _ rfl).2
  have e1 : "[[I" = "[" ++ (FieldType.array .int).toString := by decide +kernel
  have e2 : (FieldType.array .int).toString = "[" ++ FieldType.int.toString := by decide +kernel
  rw [e1] at h1
  subst hN
  subst hM
  intro T hT X
  obtain ⟨vm₁, cA, comp, -, fA, fC, -, -, X', step⟩ := X.multianewarray2F hx (ty := .int) hown (hts _ h1) hA.use (hts _ h3) (g := F0 m pc ls (.int k2 :: .int k1 :: rest)) rfl (by rw [hb]; exact hdg) rfl hk1 hk2 hb1 hb2 hb3 rfl rfl hc hs
  rw [e2] at fC
  have eA : cA = gC G 2 := Option.some.inj (fA.symm.trans h4)
  have eC : comp = gC G 0 := Option.some.inj (fC.symm.trans hG.2.1)
  rw [eA, eC] at X' step
  generalize hF : Jvm.Free.Multi.fill (T.setVm vm₁) (gC G 2) (gC G 0) k1.toNatClampNeg k2.toNatClampNeg (defaultValue .int) k1.toNatClampNeg = F at X' step
  have hTh : (T.setVm vm₁).heap = H := hT
  obtain ⟨f1, f2, -, -⟩ := Jvm.Free.Multi.fill_facts (T.setVm vm₁) (gC G 2) (gC G 0) k1.toNatClampNeg k2.toNatClampNeg (defaultValue .int) k1.toNatClampNeg
  rw [hF, hTh] at f1 f2
  have hold : ∀ x : Nat, x < H.size → F.heap[x]? = H[x]? := fun x hx => by
    have := Jvm.Free.Multi.fill_old (T.setVm vm₁) (gC G 2) (gC G 0) k1.toNatClampNeg k2.toNatClampNeg (defaultValue .int) (a := x) (by rw [hTh]; exact hx) k1.toNatClampNeg
    rw [hF, hTh] at this
    exact this
  have hrow : ∀ j : Nat, j < k1.toNatClampNeg → F.heap[H.size + 1 + j]? = some (arrV (gC G 0) k2.toNatClampNeg (fun _ => .int 0)) := fun j hj => by
    have := Jvm.Free.Multi.fill_inner (T.setVm vm₁) (gC G 2) (gC G 0) k1.toNatClampNeg k2.toNatClampNeg (defaultValue .int) k1.toNatClampNeg j hj
    rw [hF, hTh] at this
    rw [← arrV_new]
    exact this
  rw [ou_row] at f2
  have hz := hP.2
  have hY : Yw G E (n + 1 + k1.toNatClampNeg) F.heap := by
    refine ⟨fun k hk => ?_, by rw [f1, hz]; omega⟩
    rcases Nat.lt_or_ge k n with q | q
    · exact (hP.1 k q).kept (hold _ (by show gR G k < _; rw [hG.1, hz]; omega))
    · by_cases q2 : k = n
      · subst q2
        rw [hE]
        show F.heap[gR G k]? = some (vp_cell _ _)
        rw [vp_cell_q, hG.1, ← hz, f2]
        refine congrArg some (arrV_ext fun j hj => ?_)
        rw [if_pos hj, hG.1, hz, Nat.add_assoc, Nat.add_assoc, Nat.add_assoc]
      · have e3 : k = n + 1 + (k - (n + 1)) := by omega
        have hlt : k - (n + 1) < k1.toNatClampNeg := by omega
        have e4 := hrow _ hlt
        have e5 := hEi _ hlt
        rw [← e3] at e5
        rw [e5]
        show F.heap[gR G k]? = some (vp_cell _ _)
        rw [hG.1, show gB G + k = H.size + 1 + (k - (n + 1)) by omega, e4]
        rfl
  have hS' : va_S (Ab G) s.heap F.heap locs := ⟨Nat.le_trans hS.1 (by omega), fun x a1 a2 => (hold x (Nat.lt_of_lt_of_le a1 hS.1)).trans (hS.2.1 x a1 a2), hS.2.2⟩
  have hq : T.heap.size = gR G n := by rw [hT, hz, hG.1]
  rw [hq] at step
  obtain ⟨t, a1, b1⟩ := kk F.heap hY hS' F rfl X'
  exact ⟨t, step t a1, b1⟩
theorem N_newq (C : Cx p s m args meth c cc nL own G) (hG : Kc G s) (hA : va_AO "java/lang/String" s) (hP : Yw G E n H) (hS : va_S (Ab G) s.heap H locs) {k : Int32} {N : Nat} (h1 : Cond.classLink own index "java/lang/String" ∈ gt) (hk : ¬ k < 0) (hN : k.toNatClampNeg = N) (hb4 : N * 4 ≤ 536870912) (hc : cells + 1 ≤ R.cells) (hs : slots + N ≤ R.slots) (hdg : decode cc pc = .ok (.anewarray index, 3))
    (kk : ∀ H1 : Heap, Yw G (uE E n (.inl (gC G 3, N, .inr (.inr (.inr (.inr (fun _ => none))))))) (n + 1) H1 → va_S (Ab G) s.heap H1 locs → W p l e R s m args below meth c H1 locs (cells + 1) (slots + N) Q (F0 m (pc + 3) ls (.ref (gR G n) :: rest))) : W p l e R s m args below meth c H locs cells slots Q (F0 m pc ls (.int k :: rest)) := by
  obtain ⟨⟨hx, hb, hml, hown, hts⟩, hlk, hK⟩ := C
  obtain ⟨kB, cB, -, -, -, h4⟩ := (hK.1.2 3 _ rfl).2
  subst hN
  refine W.anew hx hb hown (hts _ h1) (va_AO.use hA) rfl hdg rfl hk hb4 hc hs fun cA kA comp f1 f2 f3 f4 => ?_
  have eA : cA = gC G 3 := Option.some.inj (f1.symm.trans h4)
  rw [eA]
  have hz := hP.2
  have hq : H.size = gR G n := by rw [hz, hG.1]
  have z1 : (H.push ({ cls := gC G 3, slots := Array.replicate k.toNatClampNeg .null, vm := .none } : Cell)).size = H.size + 1 := Array.size_push _
  have e1 : (H.push ({ cls := gC G 3, slots := Array.replicate k.toNatClampNeg .null, vm := .none } : Cell))[H.size]? = some (arrV (gC G 3) k.toNatClampNeg (fun _ => .null)) := by rw [Array.getElem?_push_size, ← arrV_new]
  have o1 : ∀ q : Nat, q < H.size → (H.push ({ cls := gC G 3, slots := Array.replicate k.toNatClampNeg .null, vm := .none } : Cell))[q]? = H[q]? := fun q hq => by rw [Array.getElem?_push, if_neg (Nat.ne_of_lt hq)]
  generalize H.push ({ cls := gC G 3, slots := Array.replicate k.toNatClampNeg .null, vm := .none } : Cell) = H1 at z1 e1 o1 ⊢
  have K := kk H1 (hP.push hG (by rw [z1, hz]) (fun q h => o1 q (by rw [hz]; exact h)) (by
    show H1[gR G n]? = some (vp_cell _ _)
    rw [← hq, vp_cell_q]
    exact e1)) (hS.more rfl z1 o1)
  rw [← hq] at K
  exact K
theorem N_ast (C : Cx p s m args meth c cc nL own G) (hG : Kc G s) (hP : Yw G E n H) (hS : va_S (Ab G) s.heap H locs) {i : Int32} {k N sn a : Nat} {f : Nat → Option Nat} (hk : k < n) (he : E k = .inl (gC G 3, N, .inr (.inr (.inr (.inr f))))) (hsn : sn < NS) (h0 : ¬ i < 0) (hi : i.toNatClampNeg = a) (hlt : a < N) (hdg : decode cc pc = .ok (.aastore, 1))
    (kk : ∀ (H1 : Heap) (locs1 : List Loc), Yw G (uE E k (.inl (gC G 3, N, .inr (.inr (.inr (.inr (va_up f a (some (gK G sn))))))))) n H1 → va_S (Ab G) s.heap H1 locs1 → W p l e R s m args below meth c H1 locs1 cells slots Q (F0 m (pc + 1) ls rest)) : W p l e R s m args below meth c H locs cells slots Q (F0 m pc ls (.ref (gK G sn) :: .int i :: .ref (gR G k) :: rest)) := by
  obtain ⟨⟨hx, hb, hml, hown, hts⟩, hlk, hK⟩ := C
  subst hi
  have hD := yw_D hG E n
  have ha : (yw G E n)[k]? = some (gR G k, .inl (gC G 3, N, .inr (.inr (.inr (.inr f))))) := by rw [yw_at hk, he]
  obtain ⟨cv, g1, g2, g3, -⟩ := (hK.2.1 sn hsn).1.kept hS.2.1
  obtain ⟨kA, comp, k1, k2, k3, -⟩ := (hK.1.2 3 _ rfl).2
  have hcomp : comp = cv.cls := Option.some.inj (k3.symm.trans g3)
  obtain ⟨kC, hkC, -⟩ := Vm.findClass_spec g3
  refine W.aast hx hb (hP.P k _ ha) (fun q h => by cases h) (fun h => by cases h) k1 k2 rfl (by rw [hcomp]; exact hkC) ⟨h0, by show _ < (arrV _ _ _).slots.size; rw [arrV_size]; exact hlt⟩ g1 (fun q h => by rw [h] at g2; exact absurd (show true = false from g2) (by decide)) hkC (by rw [hcomp]; exact va_asg _ _) rfl rfl hdg fun H1 e z oq => ?_
  have hP1 := hP.P.set (e := .inl (gC G 3, N, .inr (.inr (.inr (.inr (va_up f i.toNatClampNeg (some (gK G sn)))))))) hD ha ?_ oq
  · rw [yw_set] at hP1
    exact kk H1 _ (Yw.of hP1 (z.trans hP.2)) (hS.put z oq (hD.2 k _ ha))
  · show H1[gR G k]? = some (vp_cell _ _)
    rw [e]
    rw [vp_cell_q, vp_cell_q, arrV_store]
    congr 2
    funext q
    by_cases hq : q = i.toNatClampNeg
    · subst hq
      simp [updV, va_up, va_rf]
    · simp [updV, va_up, hq]
variable {E' : Nat → va_E} {n' k ml np dm mc ms idx : Nat} {y : MethodName} {b : ByteArray} {As st0 : List Value} {host : String}
theorem N_ciJ (C : Cx p s m args meth c cc nL own G) (hG : Kd G s) (hP : Yw G E n H) (hS : va_S (Ab G) s.heap H locs) (hM : Met l y (wm y b ml none) (rmL dm mc ms) (PcJ G E n (.ref (gR G k) :: As)) (QN G E' n') mc ms (Ab G)) (hv : CIw own idx y b ml np) (hl : ls.size = nL)
    (hR : (rmL dm mc ms).frames + 1 ≤ R.frames ∧ 8 + (ml + 11) + (rmL dm mc ms).locals ≤ R.locals) (hn : As.length = np) (hst : st0 = As.reverse ++ .ref (gR G k) :: rest) (hW : (rest.map fun v => v.category).sum ≤ 8) (hdg : decode cc pc = .ok (.invokespecial idx, 3)) (hf : cells + mc ≤ R.cells ∧ slots + ms ≤ R.slots)
    (kk : ∀ (H1 : Heap) (locs1 : List Loc), Yw G E' n' H1 → va_S (Ab G) s.heap H1 locs1 → W p l e R s m args below meth c H1 locs1 (cells + mc) (slots + ms) Q (F0 m (pc + 3) ls rest)) : W p l e R s m args below meth c H locs cells slots Q (F0 m pc ls st0) := by
  have hts := C.1.2.2.2.2
  refine va_callv (A1 := Ab G) (A0 := Ab G) (free := Ab G) (rest := rest) (va_runI (As := As) (rest := rest) C.1 hM (cwI np hts (wm_gt hv.2.2.2.1) rfl rfl rfl (hts _ hv.2.2.1) (hts _ hv.1) (hts _ hv.2.1) hv.2.2.2.2.1 hv.2.2.2.2.2 hR) ⟨PcJ.blind, fun U hU hW => ⟨rfl, ?_, hG.go hW, by rw [hU]; exact hP⟩⟩ rfl hn hl hst (lv_room hW) hdg hf) hS (fun _ _ h => h) (fun _ h => h) ?_
  · rw [hU]; exact C.2.2.go hW hS.2.1
  · intro u t H1 locs1 ht _ hw hB _ _ hS1
    exact kk H1 locs1 (by rw [← ht]; exact hB) hS1
theorem N_cnJ (C : Cx p s m args meth c cc nL own G) (hG : Kd G s) (hP : Yw G E n H) (hS : va_S (Ab G) s.heap H locs) (hM : Met l y (wm y b ml none) (rmL dm mc ms) (PcJ G E n (.ref (gR G k) :: As)) (QN G E' n') mc ms (Ab G)) (hN : va_Nw (.methodLinkNest own idx y host) s) (hv : CInw y b ml np) (hl : ls.size = nL)
    (hR : (rmL dm mc ms).frames + 1 ≤ R.frames ∧ 8 + (ml + 11) + (rmL dm mc ms).locals ≤ R.locals) (hn : As.length = np) (hst : st0 = As.reverse ++ .ref (gR G k) :: rest) (hW : (rest.map fun v => v.category).sum ≤ 8) (hdg : decode cc pc = .ok (.invokespecial idx, 3)) (hf : cells + mc ≤ R.cells ∧ slots + ms ≤ R.slots)
    (kk : ∀ (H1 : Heap) (locs1 : List Loc), Yw G E' n' H1 → va_S (Ab G) s.heap H1 locs1 → W p l e R s m args below meth c H1 locs1 (cells + mc) (slots + ms) Q (F0 m (pc + 3) ls rest)) : W p l e R s m args below meth c H locs cells slots Q (F0 m pc ls st0) := by
  have hts := C.1.2.2.2.2
  refine va_callv (A1 := Ab G) (A0 := Ab G) (free := Ab G) (rest := rest) (va_runIN (As := As) (rest := rest) C.1 hM ⟨va_cnB np hts (wm_gt hv.2.2.1) rfl rfl rfl hN (hts _ hv.2.1) hv.2.2.2.2 hR, hv.2.2.2.1, hts _ hv.1⟩ ⟨PcJ.blind, fun U hU hW => ⟨rfl, ?_, hG.go hW, by rw [hU]; exact hP⟩⟩ rfl hn hl hst (lv_room hW) hdg hf) hS (fun _ _ h => h) (fun _ h => h) ?_
  · rw [hU]; exact C.2.2.go hW hS.2.1
  · intro u t H1 locs1 ht _ hw hB _ _ hS1
    exact kk H1 locs1 (by rw [← ht]; exact hB) hS1
end MR
