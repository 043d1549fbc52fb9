def vl {β : Type} (x : Int32) (k : Int32 → Option β) : Option β := k x
def rr {β : Type} (a : Nat) (i : Int32) (k : Nat → Option β) : Option β := if i < 0 ∨ ln a ≤ i.toNatClampNeg then none else k (a + 1 + i.toNatClampNeg)
def rt {β : Type} (a : Nat) (i : Int32) (k : Nat → Option β) : Option β := if i < 0 ∨ ln a ≤ i.toNatClampNeg then none else k (stn a i.toNatClampNeg)
def ac {β : Type} (S : St) (a0 : Nat) (sp : Int32) (a : Nat) (dp n : Int32) (k : St → Option β) : Option β :=
  if sp < 0 ∨ dp < 0 ∨ n < 0 ∨ ln a0 < sp.toNatClampNeg + n.toNatClampNeg ∨ ln a < dp.toNatClampNeg + n.toNatClampNeg then none else k (cpy S a0 sp.toNatClampNeg a dp.toNatClampNeg n.toNatClampNeg)
def sc {β : Type} (j : Nat) (i : Int32) (k : Int32 → Option β) : Option β := if i < 0 ∨ sLen.getD j 0 ≤ i.toNatClampNeg then none else k ((sByt.getD j []).getD i.toNatClampNeg 0)
def CV (own : String) (idx : Nat) (C0 : String) (y : MethodName) (b : ByteArray) (n : Nat) (r : Option FieldType) (np : Nat) : Prop :=
  GoodIn gt (wsV own idx C0 y (wm y b n r)) ∧ (y.cls = C0 ∧ y.cls ≠ "java/lang/invoke/MethodHandle" ∧ y.cls ≠ "java/lang/invoke/VarHandle" ∧ (parseMethodDescriptor y.desc).map (fun d => d.parameters.length) = some np)
def CS (own : String) (idx : Nat) (y : MethodName) (b : ByteArray) (n : Nat) (r : Option FieldType) (np : Nat) : Prop :=
  GoodIn gt (va_wsS own idx y (wm y b n r)) ∧ (y.cls ≠ "java/lang/invoke/MethodHandle" ∧ y.cls ≠ "java/lang/invoke/VarHandle" ∧ (parseMethodDescriptor y.desc).map (fun d => d.parameters.length) = some np)
def CM (own : String) (idx : Nat) (y : MethodName) (b : ByteArray) : Prop := Cond.methodLink own idx y ∈ gt ∧ Cond.static y ∈ gt ∧ Cond.initialized "java/lang/Math" ∈ gt ∧ Cond.code y b 2 (some .int) ∈ gt
def CA (own : String) (idx : Nat) : Prop := Cond.methodLink own idx arraycopyName ∈ gt ∧ Cond.native arraycopyName ∈ gt ∧ Cond.static arraycopyName ∈ gt ∧ Cond.initialized "java/lang/System" ∈ gt
theorem kd22 : ∀ a, a < NC → kd a = 22 → ln a = 40 ∧ ∀ i, i < 40 → kd (a + 1 + i) = 20 := by decide +kernel
section RX
variable {p : Program} {l : Launch} {e : Env} {R : Room} {s : State} {m : MethodId} {args : Array Value} {below : List Frame} {meth : Method} {c : Code} {H : Heap} {locs : List Loc} {cells slots : Nat} {Q : State → Prop}
variable {cc : ByteArray} {pc nL : Nat} {ls : Array Slot} {rest : List Value} {own : String} {G : Gt} {S : St}
theorem R_vl {β : Type} {k : Int32 → Option β} {res : β} {x : Int32} (h : vl x k = some res) (kk : ∀ y : Int32, k y = some res → W p l e R s m args below meth c H locs cells slots Q (F0 m pc ls (.int y :: rest))) : W p l e R s m args below meth c H locs cells slots Q (F0 m pc ls (.int x :: rest)) := kk x h
theorem R_vi {β : Type} {k : Int32 → Option β} {res : β} {x : Int32} {g : JFrame} (h : vl x k = some res) (kk : ∀ y : Int32, y = x → k y = some res → W p l e R s m args below meth c H locs cells slots Q g) : W p l e R s m args below meth c H locs cells slots Q g := kk x rfl h
theorem R_div {β : Type} {k : Int32 → Option β} {res : β} (C : Cx p s m args meth c cc nL own G) {x y : Int32} (h : dv x y k = some res) (hdg : decode cc pc = .ok (.idiv, 1))
    (kk : ∀ z : Int32, k z = some res → W p l e R s m args below meth c H locs cells slots Q (F0 m (pc + 1) ls (.int z :: rest))) : W p l e R s m args below meth c H locs cells slots Q (F0 m pc ls (.int y :: .int x :: rest)) := by
  unfold dv at h
  split at h
  · cases h
  · rename_i hne
    exact lv_idiv C.1.1 C.1.2.1 hdg hne (kk _ h)
theorem R_rem {β : Type} {k : Int32 → Option β} {res : β} (C : Cx p s m args meth c cc nL own G) {x y : Int32} (h : rm' x y k = some res) (hdg : decode cc pc = .ok (.irem, 1))
    (kk : ∀ z : Int32, k z = some res → W p l e R s m args below meth c H locs cells slots Q (F0 m (pc + 1) ls (.int z :: rest))) : W p l e R s m args below meth c H locs cells slots Q (F0 m pc ls (.int y :: .int x :: rest)) := by
  unfold rm' at h
  split at h
  · cases h
  · rename_i hne
    exact lv_irem C.1.1 C.1.2.1 hdg hne (kk _ h)
theorem R_aald {β : Type} {k : Nat → Option β} {res : β} (C : Cx p s m args meth c cc nL own G) (hd : Dy G S s H locs) {a : Nat} {i : Int32} (hk : kd a = 22) (h : rr a i k = some res) (hdg : decode cc pc = .ok (.aaload, 1))
    (kk : ∀ q : Nat, kd q = 20 → k q = some res → W p l e R s m args below meth c H locs cells slots Q (F0 m (pc + 1) ls (.ref (gR G q) :: rest))) : W p l e R s m args below meth c H locs cells slots Q (F0 m pc ls (.int i :: .ref (gR G a) :: rest)) := by
  obtain ⟨⟨hx, hb, hml, hown, hts⟩, hlk, hK⟩ := C
  unfold rr at h
  split at h
  · cases h
  · rename_i hin
    have hlt : i.toNatClampNeg < ln a := Nat.not_le.mp fun q => hin (Or.inr q)
    have hc := cl_at (G := G) (S := S) (kd_lt hk (by omega))
    rw [cE_22 hk] at hc
    obtain ⟨g1, g2⟩ := kd22 a (kd_lt hk (by omega)) hk
    refine W.aald (v := va_rf (some (gR G (a + 1 + i.toNatClampNeg)))) (ty := .array .int) hx hb (hd.1 a _ hc) ((hK.1.2 2 (gC G 2, .array .int) rfl).1 (ln a) (fun j => va_rf (some (gR G (a + 1 + j))))) rfl (fun q => by cases q) (by show ¬ (i < 0 ∨ (arrV _ _ _).slots.size ≤ _); rw [arrV_size]; exact hin) (by show (arrV _ _ _).slots[_]? = _; rw [arrV_read _ _ hlt]) rfl rfl hdg ?_
    exact kk _ (g2 _ (by omega)) h
theorem R_aalt {β : Type} {k : Nat → Option β} {res : β} (C : Cx p s m args meth c cc nL own G) (hd : Dy G S s H locs) {a : Nat} {i : Int32} (hk : kd a = 23) (h : rt a i k = some res) (hdg : decode cc pc = .ok (.aaload, 1))
    (kk : ∀ q : Nat, k q = some res → W p l e R s m args below meth c H locs cells slots Q (F0 m (pc + 1) ls (.ref (gK G q) :: rest))) : W p l e R s m args below meth c H locs cells slots Q (F0 m pc ls (.int i :: .ref (gR G a) :: rest)) := by
  obtain ⟨⟨hx, hb, hml, hown, hts⟩, hlk, hK⟩ := C
  unfold rt at h
  split at h
  · cases h
  · rename_i hin
    have hc := cl_at (G := G) (S := S) (kd_lt hk (by omega))
    rw [cE_23 hk] at hc
    exact va_aldq hx hb hK.1 hd.1 a 3 hc rfl hin hdg (kk _ h)
theorem R_alenT (C : Cx p s m args meth c cc nL own G) (hd : Dy G S s H locs) {a : Nat} (hk : kd a = 23) {v : Int32} (hv : nI (ln a) = v) (hdg : decode cc pc = .ok (.arraylength, 1))
    (kk : W p l e R s m args below meth c H locs cells slots Q (F0 m (pc + 1) ls (.int v :: rest))) : W p l e R s m args below meth c H locs cells slots Q (F0 m pc ls (.ref (gR G a) :: rest)) := by
  obtain ⟨⟨hx, hb, hml, hown, hts⟩, hlk, hK⟩ := C
  have hc := cl_at (G := G) (S := S) (kd_lt hk (by omega))
  rw [cE_23 hk] at hc
  exact va_alen hx hb hK.1 hd.1 a 3 hc (ty := .object "java/lang/String") rfl hv hdg kk
theorem R_tab {dflt lo hi : Int} {offs : Array Int} {len : Nat} {x : Int32} {tgt : Nat} (C : Cx p s m args meth c cc nL own G) (hdg : decode cc pc = .ok (.tableswitch dflt lo hi offs, len)) (ht : (pc : Int) + dflt = (tgt : Int)) (vs : List Int32)
    (hall : hi - lo < offs.size ∧ ∀ i, i < offs.size → offs[i]? = some dflt ∨ ∃ z ∈ vs, z.toInt = lo + i) (hne : ∀ z ∈ vs, ¬ x = z)
    (k : W p l e R s m args below meth c H locs cells slots Q (F0 m tgt ls rest)) : W p l e R s m args below meth c H locs cells slots Q (F0 m pc ls (.int x :: rest)) := by
  obtain ⟨⟨hx, hb, -⟩, -⟩ := C
  by_cases h1 : x.toInt < lo
  · exact lv_tableOut hx hb hdg (Or.inl h1) ht k
  · by_cases h2 : hi < x.toInt
    · exact lv_tableOut hx hb hdg (Or.inr h2) ht k
    · have hlt : (x.toInt - lo).toNat < offs.size := by omega
      rcases hall.2 _ hlt with h3 | ⟨z, hz, h3⟩
      · exact lv_tableIn hx hb hdg h1 h2 h3 ht k
      · exact absurd (Int32.toInt_inj.mp (by omega)) (hne z hz)
theorem R_mmax {idx : Nat} (C : Cx p s m args meth c cc nL own G) (hl : ls.size = nL) (hm : CM own idx Lib.Math.max.name Lib.Math.max.code) (hf : 1 ≤ R.frames) (hlo : (rest.map fun v => v.category).sum + 13 ≤ R.locals) (hc : cells ≤ R.cells) (hs : slots ≤ R.slots) {x y : Int32} (hdg : decode cc pc = .ok (.invokestatic idx, 3))
    (kk : W p l e R s m args below meth c H locs cells slots Q (F0 m (pc + 3) ls (.int (if x < y then y else x) :: rest))) : W p l e R s m args below meth c H locs cells slots Q (F0 m pc ls (.int y :: .int x :: rest)) := by
  obtain ⟨⟨hx, hb, hml, hown, hts⟩, hlk, hK⟩ := C
  exact va_mmax hx hb (hml.trans hl.symm) hown (hts _ hm.1) (hts _ hm.2.1) (hts _ hm.2.2.1) (hts _ hm.2.2.2) hf hlo hc hs hdg kk
theorem R_mmin {idx : Nat} (C : Cx p s m args meth c cc nL own G) (hl : ls.size = nL) (hm : CM own idx Lib.Math.min.name Lib.Math.min.code) (hf : 1 ≤ R.frames) (hlo : (rest.map fun v => v.category).sum + 13 ≤ R.locals) (hc : cells ≤ R.cells) (hs : slots ≤ R.slots) {x y : Int32} (hdg : decode cc pc = .ok (.invokestatic idx, 3))
    (kk : W p l e R s m args below meth c H locs cells slots Q (F0 m (pc + 3) ls (.int (if y < x then y else x) :: rest))) : W p l e R s m args below meth c H locs cells slots Q (F0 m pc ls (.int y :: .int x :: rest)) := by
  obtain ⟨⟨hx, hb, hml, hown, hts⟩, hlk, hK⟩ := C
  exact va_mmin hx hb (hml.trans hl.symm) hown (hts _ hm.1) (hts _ hm.2.1) (hts _ hm.2.2.1) (hts _ hm.2.2.2) hf hlo hc hs hdg kk
theorem R_ac {β : Type} {k : St → Option β} {res : β} {idx : Nat} (C : Cx p s m args meth c cc nL own G) (hl : ls.size = nL) (hm : CA own idx) (hd : Dy G S s H locs) {a0 a : Nat} {sp dp n : Int32} (hk0 : kd a0 = 20) (hk : kd a = 20) (h : ac S a0 sp a dp n k = some res) (hf : 1 ≤ R.frames) (hlo : (rest.map fun v => v.category).sum + (nativeFrameWords "java/lang/System" "arraycopy" 5 + 11) ≤ R.locals) (hdg : decode cc pc = .ok (.invokestatic idx, 3))
    (kk : ∀ (S1 : St) (H1 : Heap) (locs1 : List Loc), Dy G S1 s H1 locs1 → k S1 = some res → W p l e R s m args below meth c H1 locs1 cells slots Q (F0 m (pc + 3) ls rest)) : W p l e R s m args below meth c H locs cells slots Q (F0 m pc ls (.int n :: .int dp :: .ref (gR G a) :: .int sp :: .ref (gR G a0) :: rest)) := by
  obtain ⟨⟨hx, hb, hml, hown, hts⟩, hlk, hK⟩ := C
  unfold ac at h
  split at h
  · cases h
  · rename_i hin
    simp only [not_or] at hin
    obtain ⟨g1, g2, g3, g4, g5⟩ := hin
    have hc0 := cl_at (G := G) (S := S) (kd_lt hk0 (by omega))
    rw [cE_20 hk0] at hc0
    have hc := cl_at (G := G) (S := S) (kd_lt hk (by omega))
    rw [cE_20 hk] at hc
    exact va_copyi hx hb (hml.trans hl.symm) hown (hts _ hm.1) (hts _ hm.2.1) (hts _ hm.2.2.1) (hts _ hm.2.2.2) hK.1 hd.1 (cl_D hK S) hd.2 a0 a 0 0 hc0 hc rfl rfl rfl g1 g2 g3 (by omega) (by omega) (fun _ _ => rfl) hf hlo hdg (fun H1 locs1 hP1 _ hS1 => kk _ _ _ (Dy.wr (r := va_cpy (S a0) (S a) sp.toNatClampNeg dp.toNatClampNeg n.toNatClampNeg) (kd_lt hk (by omega)) (cE_20 hk).symm hP1 hS1) h)
variable {idx n np dm ci N a : Nat} {C0 : String} {T : u_T} {y : MethodName} {b : ByteArray} {r : Option FieldType} {S1 : St} {rv : Int32} {As st0 : List Value}
theorem R_cVi (C : Cx p s m args meth c cc nL own G) (hd : Dy G S s H locs) (hM : Met l y (wm y b n r) (rmL dm 0 0) (PcW G S (.ref (gR G a) :: As)) (QI G rv S1) 0 0 (Ab G)) (hv : CV own idx C0 y b n r np) (hcl : vwCl[ci]? = some (C0, T, N)) (hci : ci < 20) (hk : kd a = ci) (hl : ls.size = nL)
    (hR : (rmL dm 0 0).frames + 1 ≤ R.frames ∧ 8 + (n + 11) + (rmL dm 0 0).locals ≤ R.locals) (hn : As.length = np) (hst : st0 = As.reverse ++ .ref (gR G a) :: rest) (hW : (rest.map fun v => v.category).sum ≤ 8) (hdg : decode cc pc = .ok (.invokevirtual idx, 3)) (hf : cells + 0 ≤ R.cells ∧ slots + 0 ≤ R.slots)
    (kk : ∀ (H1 : Heap) (locs1 : List Loc), Dy G S1 s H1 locs1 → W p l e R s m args below meth c H1 locs1 cells slots Q (F0 m (pc + 3) ls (.int rv :: rest))) : W p l e R s m args below meth c H locs cells slots Q (F0 m pc ls st0) := by
  refine va_calli (A1 := Ab G) (A0 := Ab G) (free := Ab G) (rest := rest) (va_runV (As := As) (rest := rest) C.1 hM (cwV np C.1.2.2.2.2 hv.1 rfl rfl rfl hv.2 hR) ⟨PcW.blind, C.recv hd hk hci hcl, C.pre hd⟩ rfl hn hl hst (lv_room hW) hdg hf) hd.2 (fun _ _ h => h) (fun _ h => h) ?_
  intro rx u t H1 locs1 ht _ hw hB _ _ hS1
  subst hw
  exact kk H1 locs1 ⟨by rw [← ht]; exact hB, hS1⟩
theorem R_cVv (C : Cx p s m args meth c cc nL own G) (hd : Dy G S s H locs) (hM : Met l y (wm y b n r) (rmL dm 0 0) (PcW G S (.ref (gR G a) :: As)) (QV G S1) 0 0 (Ab G)) (hv : CV own idx C0 y b n r np) (hcl : vwCl[ci]? = some (C0, T, N)) (hci : ci < 20) (hk : kd a = ci) (hl : ls.size = nL)
    (hR : (rmL dm 0 0).frames + 1 ≤ R.frames ∧ 8 + (n + 11) + (rmL dm 0 0).locals ≤ R.locals) (hn : As.length = np) (hst : st0 = As.reverse ++ .ref (gR G a) :: rest) (hW : (rest.map fun v => v.category).sum ≤ 8) (hdg : decode cc pc = .ok (.invokevirtual idx, 3)) (hf : cells + 0 ≤ R.cells ∧ slots + 0 ≤ R.slots)
    (kk : ∀ (H1 : Heap) (locs1 : List Loc), Dy G S1 s H1 locs1 → W p l e R s m args below meth c H1 locs1 cells slots Q (F0 m (pc + 3) ls rest)) : W p l e R s m args below meth c H locs cells slots Q (F0 m pc ls st0) := by
  refine va_callv (A1 := Ab G) (A0 := Ab G) (free := Ab G) (rest := rest) (va_runV (As := As) (rest := rest) C.1 hM (cwV np C.1.2.2.2.2 hv.1 rfl rfl rfl hv.2 hR) ⟨PcW.blind, C.recv hd hk hci hcl, C.pre hd⟩ rfl hn hl hst (lv_room hW) hdg hf) hd.2 (fun _ _ h => h) (fun _ h => h) ?_
  intro u t H1 locs1 ht _ hw hB _ _ hS1
  exact kk H1 locs1 ⟨by rw [← ht]; exact hB, hS1⟩
theorem R_cSi (C : Cx p s m args meth c cc nL own G) (hd : Dy G S s H locs) (hM : Met l y (wm y b n r) (rmL dm 0 0) (PcW G S As) (QI G rv S1) 0 0 (Ab G)) (hv : CS own idx y b n r np) (hl : ls.size = nL)
    (hR : (rmL dm 0 0).frames + 1 ≤ R.frames ∧ 8 + (n + 11) + (rmL dm 0 0).locals ≤ R.locals) (hn : As.length = np) (hst : st0 = As.reverse ++ rest) (hW : (rest.map fun v => v.category).sum ≤ 8) (hdg : decode cc pc = .ok (.invokestatic idx, 3)) (hf : cells + 0 ≤ R.cells ∧ slots + 0 ≤ R.slots)
    (kk : ∀ (H1 : Heap) (locs1 : List Loc), Dy G S1 s H1 locs1 → W p l e R s m args below meth c H1 locs1 cells slots Q (F0 m (pc + 3) ls (.int rv :: rest))) : W p l e R s m args below meth c H locs cells slots Q (F0 m pc ls st0) := by
  refine va_calli (A1 := Ab G) (A0 := Ab G) (free := Ab G) (rest := rest) (va_runS (As := As) (rest := rest) C.1 hM (va_cwS np C.1.2.2.2.2 hv.1 rfl rfl rfl hv.2 hR) ⟨PcW.blind, C.pre hd⟩ rfl hn hl hst (lv_room hW) hdg hf) hd.2 (fun _ _ h => h) (fun _ h => h) ?_
  intro rx u t H1 locs1 ht _ hw hB _ _ hS1
  subst hw
  exact kk H1 locs1 ⟨by rw [← ht]; exact hB, hS1⟩
theorem R_cSv (C : Cx p s m args meth c cc nL own G) (hd : Dy G S s H locs) (hM : Met l y (wm y b n r) (rmL dm 0 0) (PcW G S As) (QV G S1) 0 0 (Ab G)) (hv : CS own idx y b n r np) (hl : ls.size = nL)
    (hR : (rmL dm 0 0).frames + 1 ≤ R.frames ∧ 8 + (n + 11) + (rmL dm 0 0).locals ≤ R.locals) (hn : As.length = np) (hst : st0 = As.reverse ++ rest) (hW : (rest.map fun v => v.category).sum ≤ 8) (hdg : decode cc pc = .ok (.invokestatic idx, 3)) (hf : cells + 0 ≤ R.cells ∧ slots + 0 ≤ R.slots)
    (kk : ∀ (H1 : Heap) (locs1 : List Loc), Dy G S1 s H1 locs1 → W p l e R s m args below meth c H1 locs1 cells slots Q (F0 m (pc + 3) ls rest)) : W p l e R s m args below meth c H locs cells slots Q (F0 m pc ls st0) := by
  refine va_callv (A1 := Ab G) (A0 := Ab G) (free := Ab G) (rest := rest) (va_runS (As := As) (rest := rest) C.1 hM (va_cwS np C.1.2.2.2.2 hv.1 rfl rfl rfl hv.2 hR) ⟨PcW.blind, C.pre hd⟩ rfl hn hl hst (lv_room hW) hdg hf) hd.2 (fun _ _ h => h) (fun _ h => h) ?_
  intro u t H1 locs1 ht _ hw hB _ _ hS1
  exact kk H1 locs1 ⟨by rw [← ht]; exact hB, hS1⟩
end RX
