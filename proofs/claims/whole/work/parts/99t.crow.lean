/-! cells that come one by one: the first n of them, each as E says -/
def uE (E : Nat → va_E) (k : Nat) (e : va_E) : Nat → va_E := fun j => if j = k then e else E j
theorem uE_at {E : Nat → va_E} {k : Nat} {e : va_E} : uE E k e k = e := if_pos rfl
theorem uE_ne {E : Nat → va_E} {k j : Nat} {e : va_E} (h : j ≠ k) : uE E k e j = E j := if_neg h
def yw (G : Gt) (E : Nat → va_E) (n : Nat) : va_W := (List.range n).map (fun k => (gR G k, E k))
def Yw (G : Gt) (E : Nat → va_E) (n : Nat) (H : Heap) : Prop := (∀ k, k < n → va_at (gD G) vwCl (gR G k, E k) H) ∧ H.size = gB G + n
/-- where the cells come to lie, and the rows' classes by their names -/
def Kc (G : Gt) (s : State) : Prop := (∀ k, gR G k = gB G + k) ∧ s.vm.findClass ("[" ++ FieldType.int.toString) = some (gC G 0) ∧ s.vm.findClass ("[" ++ FieldType.byte.toString) = some (gC G 1) ∧ s.vm.findClass ("[" ++ FieldType.long.toString) = some (gC G 4)
theorem yw_at {G : Gt} {E : Nat → va_E} {n k : Nat} (hk : k < n) : (yw G E n)[k]? = some (gR G k, E k) := by
  unfold yw
  rw [List.getElem?_map, List.getElem?_range hk]
  rfl
theorem yw_len {G : Gt} {E : Nat → va_E} {n : Nat} : (yw G E n).length = n := by unfold yw; rw [List.length_map, List.length_range]
theorem yw_lt {G : Gt} {E : Nat → va_E} {n k : Nat} {q : Nat × va_E} (h : (yw G E n)[k]? = some q) : k < n ∧ q = (gR G k, E k) := by
  have hk : k < n := by rw [← yw_len (G := G) (E := E) (n := n)]; exact (List.getElem?_eq_some_iff.mp h).1
  rw [yw_at hk] at h
  cases h
  exact ⟨hk, rfl⟩
theorem Yw.P {G : Gt} {E : Nat → va_E} {n : Nat} {H : Heap} (h : Yw G E n H) : va_P (gD G) vwCl (yw G E n) H := fun k q hq => by
  obtain ⟨h1, rfl⟩ := yw_lt hq
  exact h.1 k h1
theorem yw_set {G : Gt} {E : Nat → va_E} {n k : Nat} {e : va_E} : (yw G E n).set k (gR G k, e) = yw G (uE E k e) n := by
  apply List.ext_getElem?
  intro i
  rcases Nat.lt_or_ge i n with hi | hi
  · by_cases q : k = i
    · subst q
      rw [List.getElem?_set_self (by rw [yw_len]; exact hi), yw_at hi, uE_at]
    · rw [List.getElem?_set_ne q, yw_at hi, yw_at hi, uE_ne (Ne.symm q)]
  · rw [List.getElem?_eq_none (by rw [List.length_set, yw_len]; exact hi), List.getElem?_eq_none (by rw [yw_len]; exact hi)]
theorem Yw.of {G : Gt} {E : Nat → va_E} {n : Nat} {H : Heap} (h : va_P (gD G) vwCl (yw G E n) H) (hs : H.size = gB G + n) : Yw G E n H := ⟨fun k hk => h k _ (yw_at hk), hs⟩
theorem Yw.ext {G : Gt} {E E' : Nat → va_E} {n : Nat} {H : Heap} (h : Yw G E n H) (he : ∀ k, k < n → E k = E' k) : Yw G E' n H := ⟨fun k hk => by rw [← he k hk]; exact h.1 k hk, h.2⟩
theorem yw_D {G : Gt} {s : State} (hG : Kc G s) (E : Nat → va_E) (n : Nat) : va_D (Ab G) (yw G E n) := by
  refine ⟨fun i j x y hi hj hxy => ?_, fun k q hq => ?_⟩
  · obtain ⟨a1, rfl⟩ := yw_lt hi
    obtain ⟨b1, rfl⟩ := yw_lt hj
    have h : gR G i = gR G j := hxy
    rw [hG.1, hG.1] at h
    omega
  · obtain ⟨a1, rfl⟩ := yw_lt hq
    show gB G ≤ gR G k
    rw [hG.1]
    omega
/-- one cell more -/
theorem Yw.push {G : Gt} {s : State} {E : Nat → va_E} {n : Nat} {H H1 : Heap} {e : va_E} (hG : Kc G s) (h : Yw G E n H) (hz : H1.size = gB G + n + 1) (hq : ∀ q, q < gB G + n → H1[q]? = H[q]?) (he : va_at (gD G) vwCl (gR G n, e) H1) : Yw G (uE E n e) (n + 1) H1 := by
  refine ⟨fun k hk => ?_, by omega⟩
  by_cases c : k = n
  · subst c; rw [uE_at]; exact he
  · rw [uE_ne c]
    exact (h.1 k (by omega)).kept (hq _ (by show gR G k < _; rw [hG.1]; omega))
theorem Yw.push1 {G : Gt} {s : State} {E : Nat → va_E} {n : Nat} {H H1 : Heap} (hG : Kc G s) (h : Yw G E n H) (hz : H1.size = gB G + n + 1) (hq : ∀ q, q < gB G + n → H1[q]? = H[q]?) (he : va_at (gD G) vwCl (gR G n, E n) H1) : Yw G E (n + 1) H1 :=
  (h.push hG hz hq he).ext (fun k _ => by
    by_cases c : k = n
    · subst c; exact uE_at
    · exact uE_ne c)
theorem va_S.more {G : Gt} {H0 H H1 : Heap} {locs : List Loc} {z : Nat} (hS : va_S (Ab G) H0 H locs) (h1 : H.size = z) (hz : H1.size = z + 1) (hq : ∀ q, q < z → H1[q]? = H[q]?) : va_S (Ab G) H0 H1 locs :=
  ⟨Nat.le_trans hS.1 (by omega), fun x a1 a2 => (hq x (by rw [← h1]; exact Nat.lt_of_lt_of_le a1 hS.1)).trans (hS.2.1 x a1 a2), hS.2.2⟩
section CR
variable {p : Program} {l : Launch} {e : Env} {R : Room} {s : State} {m : MethodId} {args : Array Value} {below : List Frame} {meth : Method} {c : Code} {H : Heap} {locs : List Loc} {cells slots : Nat} {Q : State → Prop}
variable {cc : ByteArray} {pc nL : Nat} {ls : Array Slot} {rest : List Value} {own : String} {G : Gt} {E : Nat → va_E} {n : Nat}
theorem N_newI (C : Cx p s m args meth c cc nL own G) (hG : Kc G s) (hP : Yw G E n H) (hS : va_S (Ab G) s.heap H locs) {k : Int32} {N : Nat} (hw : Cond.arrayClass .int ∈ gt) (hE : E n = .inl (gC G 0, N, .inl (fun _ => 0))) (hk : ¬ k < 0) (hN : k.toNatClampNeg = N) (hb4 : N * 4 ≤ 536870912) (hc : cells + 1 ≤ R.cells) (hs : slots + N ≤ R.slots) (hdg : decode cc pc = .ok (.newarray .int, 2))
    (kk : ∀ (H1 : Heap), Yw G E (n + 1) H1 → va_S (Ab G) s.heap H1 locs → W p l e R s m args below meth c H1 locs (cells + 1) (slots + N) Q (F0 m (pc + 2) ls (.ref (gR G n) :: rest))) : W p l e R s m args below meth c H locs cells slots Q (F0 m pc ls (.int k :: rest)) := by
  refine va_newaK (atype := .int) C.1.1 C.1.2.1 (C.1.2.2.2.2 _ hw) rfl hdg rfl hk hN hb4 hc hs hP.2 fun H1 cA e1 z1 o1 hAr hNm => ?_
  have hcA : cA = gC G 0 := Option.some.inj (hNm.symm.trans hG.2.1)
  subst hcA
  rw [← hG.1 n]
  refine kk H1 (hP.push1 hG z1 o1 ?_) (hS.more hP.2 z1 o1)
  rw [hE]
  have e2 : H1[gR G n]? = some (arrV (gC G 0) N (fun _ => .int 0)) := by rw [hG.1 n]; exact e1
  exact e2
theorem N_newB (C : Cx p s m args meth c cc nL own G) (hG : Kc G s) (hP : Yw G E n H) (hS : va_S (Ab G) s.heap H locs) {k : Int32} {N : Nat} (hw : Cond.arrayClass .byte ∈ gt) (hE : E n = .inl (gC G 1, N, .inl (fun _ => 0))) (hk : ¬ k < 0) (hN : k.toNatClampNeg = N) (hb4 : N * 1 ≤ 536870912) (hc : cells + 1 ≤ R.cells) (hs : slots + N ≤ R.slots) (hdg : decode cc pc = .ok (.newarray .byte, 2))
    (kk : ∀ (H1 : Heap), Yw G E (n + 1) H1 → va_S (Ab G) s.heap H1 locs → W p l e R s m args below meth c H1 locs (cells + 1) (slots + N) Q (F0 m (pc + 2) ls (.ref (gR G n) :: rest))) : W p l e R s m args below meth c H locs cells slots Q (F0 m pc ls (.int k :: rest)) := by
  refine va_newaK (atype := .byte) C.1.1 C.1.2.1 (C.1.2.2.2.2 _ hw) rfl hdg rfl hk hN hb4 hc hs hP.2 fun H1 cA e1 z1 o1 hAr hNm => ?_
  have hcA : cA = gC G 1 := Option.some.inj (hNm.symm.trans hG.2.2.1)
  subst hcA
  rw [← hG.1 n]
  refine kk H1 (hP.push1 hG z1 o1 ?_) (hS.more hP.2 z1 o1)
  rw [hE]
  have e2 : H1[gR G n]? = some (arrV (gC G 1) N (fun _ => .int 0)) := by rw [hG.1 n]; exact e1
  exact e2
theorem N_newJ (C : Cx p s m args meth c cc nL own G) (hG : Kc G s) (hP : Yw G E n H) (hS : va_S (Ab G) s.heap H locs) {k : Int32} {N : Nat} (hw : Cond.arrayClass .long ∈ gt) (hE : E n = .inl (gC G 4, N, .inr (.inl (fun _ => 0)))) (hk : ¬ k < 0) (hN : k.toNatClampNeg = N) (hb4 : N * 8 ≤ 536870912) (hc : cells + 1 ≤ R.cells) (hs : slots + N ≤ R.slots) (hdg : decode cc pc = .ok (.newarray .long, 2))
    (kk : ∀ (H1 : Heap), Yw G E (n + 1) H1 → va_S (Ab G) s.heap H1 locs → W p l e R s m args below meth c H1 locs (cells + 1) (slots + N) Q (F0 m (pc + 2) ls (.ref (gR G n) :: rest))) : W p l e R s m args below meth c H locs cells slots Q (F0 m pc ls (.int k :: rest)) := by
  refine va_newaK (atype := .long) C.1.1 C.1.2.1 (C.1.2.2.2.2 _ hw) rfl hdg rfl hk hN hb4 hc hs hP.2 fun H1 cA e1 z1 o1 hAr hNm => ?_
  have hcA : cA = gC G 4 := Option.some.inj (hNm.symm.trans hG.2.2.2)
  subst hcA
  rw [← hG.1 n]
  refine kk H1 (hP.push1 hG z1 o1 ?_) (hS.more hP.2 z1 o1)
  rw [hE]
  have e2 : H1[gR G n]? = some (arrV (gC G 4) N (fun _ => .long 0)) := by rw [hG.1 n]; exact e1
  exact e2
variable {ci j k index N : Nat} {C0 ref : String} {T : u_T} {fs : List Value} {v : Value} {ty : FieldType}
theorem N_new (C : Cx p s m args meth c cc nL own G) (hG : Kc G s) (hP : Yw G E n H) (hS : va_S (Ab G) s.heap H locs) (hin : ∀ w ∈ u_ws C0 T N, w ∈ gt) (tyf : Nat → FieldType) (hty : ∀ k, k < N → parseFieldDescriptor (T k).2.2.1 = some (tyf k)) (hc : vwCl[ci]? = some (C0, T, N)) (h1 : Cond.classLink own index C0 ∈ gt) (h2 : Cond.instantiable C0 N ∈ gt) (h3 : Cond.initialized C0 ∈ gt) (hfs : ∀ j, j < N → defaultValue (tyf j) = vp_V fs j) (hcells : cells + 1 ≤ R.cells) (hslots : slots + N ≤ R.slots) (hdg : decode cc pc = .ok (.new index, 3))
    (kk : ∀ (H1 : Heap), Yw G (uE E n (.inr (ci, fs))) (n + 1) H1 → va_S (Ab G) s.heap H1 locs → W p l e R s m args below meth c H1 locs (cells + 1) (slots + N) Q (F0 m (pc + 3) ls (.ref (gR G n) :: rest))) : W p l e R s m args below meth c H locs cells slots Q (F0 m pc ls rest) := by
  obtain ⟨⟨hx, hb, hml, hown, hts⟩, hlk, hK⟩ := C
  have hKn := hK.1.1 ci _ hc
  refine W.newcK hx hb hown (hts _ h1) (hts _ h2) (hts _ h3) rfl hdg hcells hslots hKn.2.1 hP.2 fun H1 kC hkC e1 z1 o1 => ?_
  rw [← hG.1 n] at e1 ⊢
  exact kk H1 (hP.push hG z1 o1 ⟨_, hc, (u_born tyf hts hin hKn hkC e1 hty).to hfs⟩) (hS.more hP.2 z1 o1)
theorem N_get (C : Cx p s m args meth c cc nL own G) (hP : Yw G E n H) (hin : ∀ w ∈ u_ws C0 T N, w ∈ gt) (hc : vwCl[ci]? = some (C0, T, N)) (hj : j < N) (hlink : Cond.fieldLink own index ref (T j).2.1 (T j).2.2.1 ∈ gt) (href : (T j).1 = ref) (hk : k < n) (he : E k = .inr (ci, fs)) (hv : fs[j]? = some v) (hdg : decode cc pc = .ok (.getfield index, 3))
    (kk : W p l e R s m args below meth c H locs cells slots Q (F0 m (pc + 3) ls (v :: rest))) : W p l e R s m args below meth c H locs cells slots Q (F0 m pc ls (.ref (gR G k) :: rest)) := by
  obtain ⟨⟨hx, hb, hml, hown, hts⟩, hlk, hK⟩ := C
  subst href
  exact va_get hx hb hts hin hown hK.1 hP.P k (by rw [yw_at hk, he]) hc j hj (hts _ hlink) (fun _ h9 => h9) hv hdg kk
theorem N_put (C : Cx p s m args meth c cc nL own G) (hG : Kc G s) (hP : Yw G E n H) (hS : va_S (Ab G) s.heap H locs) (hin : ∀ w ∈ u_ws C0 T N, w ∈ gt) (tyf : Nat → FieldType) (hty : ∀ k, k < N → parseFieldDescriptor (T k).2.2.1 = some (tyf k)) (hnm : ∀ a, a < N → ∀ b, b < N → a ≠ b → (T a).2.1 ≠ (T b).2.1) (hc : vwCl[ci]? = some (C0, T, N)) (hj : j < N) (hlink : Cond.fieldLink own index ref (T j).2.1 (T j).2.2.1 ∈ gt) (href : (T j).1 = ref) (hfin : (T j).2.2.2 = false ∨ ((T j).2.2.2 = true ∧ meth.name = "<init>" ∧ (T j).1 = own)) (hpd : parseFieldDescriptor (T j).2.2.1 = some ty) (hn : narrow ty v = v) (hfit : fits ty v = true) (hk : k < n) (he : E k = .inr (ci, fs)) (hl : j < fs.length) (hdg : decode cc pc = .ok (.putfield index, 3))
    (kk : ∀ (H1 : Heap) (locs1 : List Loc), Yw G (uE E k (.inr (ci, fs.set j v))) n H1 → va_S (Ab G) s.heap H1 locs1 → W p l e R s m args below meth c H1 locs1 cells slots Q (F0 m (pc + 3) ls rest)) : W p l e R s m args below meth c H locs cells slots Q (F0 m pc ls (v :: .ref (gR G k) :: rest)) := by
  obtain ⟨⟨hx, hb, hml, hown, hts⟩, hlk, hK⟩ := C
  subst href
  have hD := yw_D hG E n
  have he' : (yw G E n)[k]? = some (gR G k, .inr (ci, fs)) := by rw [yw_at hk, he]
  have hap := va_apart (own := own) hts hin tyf hty hnm hK.1 hc
  obtain ⟨r, h1, cell, q1, q2, q3, q4⟩ := hP.P k _ he'
  have hr : r = (C0, T, N) := Option.some.inj (h1.symm.trans hc)
  subst hr
  obtain ⟨hSl, hfc, kC, hkC, hkind⟩ := hK.1.1 ci _ hc
  obtain ⟨cf, kf, fi, f, hi, hsl⟩ := hSl j hj
  have hlay := hts _ (hin _ (u_in_lay hj))
  unfold u_lay at hlay
  have hst := (u_facts hfc hkC (u_lays hts hin hj) hi).1
  have fin : ∀ (H' : Heap), H'[gR G k]? = some (cell.setSlot f.slot v) → H'.size = H.size → (∀ q, q ≠ gR G k → H'[q]? = H[q]?) → W p l e R s m args below meth c H' (locs ++ [⟨gR G k, f.slot⟩]) cells slots Q (F0 m (pc + 3) ls rest) := fun H' e1 e2 e3 => by
    rw [hsl] at e1 ⊢
    have hP1 := hP.P.set (e := .inr (ci, fs.set j v)) hD he' ⟨_, hc, t_OB.to (V := updV (vp_V fs) j v) ⟨_, e1, q2, q3, t_set q4 hap hj v⟩ (fun i _ => vp_updV_set hl v i)⟩ e3
    rw [yw_set] at hP1
    exact kk H' _ (Yw.of hP1 (e2.trans hP.2)) (hS.put e2 e3 (hD.2 k _ he'))
  rcases hfin with hfin | ⟨hfin, hin2, hdecl⟩
  · rw [if_neg (by rw [hfin]; decide)] at hlay
    have h6 := u_store hfc hkC hkind hlay hi hpd hn hfit
    exact W.putK hx hb (f := f) ⟨hown, hts _ hlink, ⟨_, _, _, hi⟩, hst⟩ (by rw [q2]; exact h6) q1 q3 (by rw [hsl]; exact k2_hasslot (q4 j hj)) rfl rfl hdg fin
  · rw [if_pos hfin] at hlay
    have hcf : m.cls = cf := by
      obtain ⟨_, _, c', _, _, _, -, -, hf', -, -, -, hown2, -⟩ := Cond.laysFinal_spec hlay
      have e1 : c' = cf := by have := hi.symm.trans hf'; simp at this; exact this.1.symm
      rw [hdecl] at hown2
      rw [← e1]; exact Option.some.inj (hown.symm.trans hown2)
    have h6 := u_fits hfc hkC hkind (Or.inr hlay) hi hpd hn hfit
    exact W.putFinK hx hb hown (hts _ hlink) hi hst hcf hin2 (by rw [q2]; exact h6) q1 q3 (by rw [hsl]; exact k2_hasslot (q4 j hj)) rfl rfl hdg fin
theorem N_obj (C : Cx p s m args meth c cc nL own G) {a idx : Nat} (hl : ls.size = nL) (h1 : Cond.methodLink own idx Lib.objectInit ∈ gt) (h2 : Cond.instanceMethod Lib.objectInit ∈ gt) (h3 : Cond.code Lib.objectInit ⟨#[0xb1]⟩ 1 none ∈ gt) (hf : 1 ≤ R.frames) (hlo : (rest.map fun v => v.category).sum + 12 ≤ R.locals) (hdg : decode cc pc = .ok (.invokespecial idx, 3))
    (kk : W p l e R s m args below meth c H locs cells slots Q (F0 m (pc + 3) ls rest)) : W p l e R s m args below meth c H locs cells slots Q (F0 m pc ls (.ref a :: rest)) := by
  obtain ⟨⟨hx, hb, hml, hown, hts⟩, hlk, hK⟩ := C
  exact W.objInit hx hb hown (hts _ h1) (hts _ h2) (hts _ h3) rfl (hl.trans hml.symm) rfl hdg hf (by show 2 * 0 + _ + 12 ≤ _; omega) kk
end CR
