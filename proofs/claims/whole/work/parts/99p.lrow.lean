/-! rows of the law's own body -/
def CH (own : String) (idx : Nat) (y : MethodName) (b : ByteArray) (n : Nat) (r : Option FieldType) (hh : List (Nat × Nat × Nat × Nat)) (np : Nat) : Prop :=
  GoodIn gt (va_wsS own idx y (wmH y b n r hh)) ∧ (y.cls ≠ "java/lang/invoke/MethodHandle" ∧ y.cls ≠ "java/lang/invoke/VarHandle" ∧ (parseMethodDescriptor y.desc).map (fun d => d.parameters.length) = some np)
theorem wsH_gt {own : String} {idx : Nat} {y : MethodName} {b : ByteArray} {n : Nat} {r : Option FieldType} {hh : List (Nat × Nat × Nat × Nat)} (h1 : Cond.methodLink own idx y ∈ gt) (h2 : Cond.static y ∈ gt) (h4 : Cond.initialized y.cls ∈ gt) (h5 : Cond.codeWith y b n r hh ∈ gt) : GoodIn gt (va_wsS own idx y (wmH y b n r hh)) := gt_in (by
  intro w hw
  simp only [va_wsS, wmH, List.mem_append, List.mem_cons, List.not_mem_nil, or_false] at hw
  rcases hw with (rfl | rfl | rfl) | (rfl | hw)
  · exact h1
  · exact h2
  · exact h4
  · exact h5
  · exact hw)
theorem lv_sbs {ls : Array Slot} {n : Nat} {l l' : List (Nat × Value)} (h : lv_has ls n l) (hs : ∀ q ∈ l', q ∈ l) : lv_has ls n l' := ⟨h.1, h.2.1, fun q hq => h.2.2 q (hs q hq)⟩
theorem lfit {cells slots mc ms : Nat} (h : cells + 20 ≤ 601024 ∧ slots + 120 ≤ 7293034) (h1 : mc ≤ 20) (h2 : ms ≤ 120) : cells + mc ≤ room_1.cells ∧ slots + ms ≤ room_1.slots := ⟨show cells + mc ≤ 601024 by omega, show slots + ms ≤ 7293034 by omega⟩
theorem lfit2 {cells slots mc ms mc' ms' : Nat} (h : cells + 20 ≤ 601024 ∧ slots + 120 ≤ 7293034) (h1 : mc + mc' ≤ 20) (h2 : ms + ms' ≤ 120) : cells + mc + mc' ≤ room_1.cells ∧ slots + ms + ms' ≤ room_1.slots := ⟨show cells + mc + mc' ≤ 601024 by omega, show slots + ms + ms' ≤ 7293034 by omega⟩
theorem lcmp_eq {x : Int64} : lg_cmp x x = 0 := by
  unfold lg_cmp
  simp
section LR
variable {p : Program} {l : Launch} {e : Env} {R : Room} {s : State} {m : MethodId} {args : Array Value} {below : List Frame} {meth : Method} {c : Code} {H : Heap} {locs : List Loc} {cells slots : Nat} {Q : State → Prop}
variable {cc : ByteArray} {pc nL : Nat} {ls : Array Slot} {rest : List Value} {own : String} {G : Gt} {S : St} {mc ms : Nat}
variable {idx n np dm : Nat} {y : MethodName} {b : ByteArray} {r : Option FieldType} {hh : List (Nat × Nat × Nat × Nat)} {As st0 : List Value} {rv : Int32} {S1 : St}
theorem R_cHi (C : Cx p s m args meth c cc nL own G) (hd : Dy G S s H locs) (hM : Met l y (wmH y b n r hh) (rmL dm mc ms) (PcW G S As) (QI G rv S1) mc ms (Ab G)) (hv : CH own idx y b n r hh np) (hl : ls.size = nL)
    (hR : (rmL dm mc ms).frames + 1 ≤ R.frames ∧ 8 + (n + 11) + (rmL dm mc ms).locals ≤ R.locals) (hn : As.length = np) (hst : st0 = As.reverse ++ rest) (hW : (rest.map fun v => v.category).sum ≤ 8) (hdg : decode cc pc = .ok (.invokestatic idx, 3)) (hf : cells + mc ≤ R.cells ∧ slots + ms ≤ R.slots)
    (kk : ∀ (H1 : Heap) (locs1 : List Loc), Dy G S1 s H1 locs1 → W p l e R s m args below meth c H1 locs1 (cells + mc) (slots + ms) Q (F0 m (pc + 3) ls (.int rv :: rest))) : W p l e R s m args below meth c H locs cells slots Q (F0 m pc ls st0) := by
  refine va_calli (A1 := Ab G) (A0 := Ab G) (free := Ab G) (rest := rest) (vx_runSW (hh := hh) (As := As) (rest := rest) C.1 hM (vx_cwSW np C.1.2.2.2.2 hv.1 rfl rfl rfl hv.2 hR) ⟨PcW.blind, C.pre hd⟩ rfl hn hl hst (lv_room hW) hdg hf) hd.2 (fun _ _ h => h) (fun _ h => h) ?_
  intro rx u t H1 locs1 ht _ hw hB _ _ hS1
  subst hw
  exact kk H1 locs1 ⟨by rw [← ht]; exact hB, hS1⟩
/-- the script's number k behind the law's place -/
theorem R_scr {bx L i k : Nat} {xs : Nat → Int32} {kI : Int} (C : Cx p s m args meth c cc nL own G) (hd : Dy G S s H locs) (hX : va_X bx L xs s s.heap) (hbl : bx < s.heap.size) (hbA : ¬ Ab G bx) (h0 : ls[0]? = some (.val (.ref bx))) (h4 : ls[4]? = some (.val (.int (nI (6 * i))))) (hi : 6 * i + 5 < L) (hL : L ≤ 3072) (hk : k ≤ 5) (hkI : Int32.ofInt kI = nI k)
    (d0 : decode cc pc = .ok (.aload_n 0, 1)) (d1 : decode cc (pc + 1) = .ok (.iload 4, 2)) (d3 : decode cc (pc + 3) = .ok (.iconst kI, 1)) (d4 : decode cc (pc + 4) = .ok (.iadd, 1)) (d5 : decode cc (pc + 5) = .ok (.iaload, 1))
    (kk : W p l e R s m args below meth c H locs cells slots Q (F0 m (pc + 6) ls (.int (xs (6 * i + k)) :: rest))) : W p l e R s m args below meth c H locs cells slots Q (F0 m pc ls rest) := by
  have hx := C.1.1
  have hb := C.1.2.1
  refine lv_aload_n hx hb d0 rfl h0 ?_
  refine lv_iload hx hb d1 h4 ?_
  refine lv_iconst hx hb d3 hkI ?_
  refine lv_iadd hx hb d4 ?_
  rw [nI_add]
  refine va_sld hx hb hX hbl hbA hd.2 (show ¬ (nI (6 * i + k) < 0 ∨ L ≤ (nI (6 * i + k)).toNatClampNeg) from ?_) d5 ?_
  · rw [nI_clamp (by omega)]
    rintro (q | q)
    · exact nI_pos (by omega) q
    · omega
  · rw [nI_clamp (by omega)]; exact kk
end LR
/-! what the law's helper and the reference give -/
theorem up_self {S : St} {a i : Nat} : up S a i (S a i) = S := by
  funext b j
  rw [up_2]
  split
  · rename_i h; rw [h.1, h.2]
  · rfl
def thr (fc : St → Option TR) (n : Nat) : Prop := ∀ S S1, Rel S → fc S = some (.inr n, S1) → False
theorem no2 {fc : St → Option TR} {fm : St → Option (Int32 × St)} (h : ∀ n2, Agr n2 fc fm) : thr fc 2 := by
  intro S S1 hR e1
  obtain ⟨w, S1', e2, h2⟩ := h 0 S hR
  obtain ⟨w3, S3', e3, h3⟩ := h 5 S hR
  cases e1.symm.trans e2
  cases e1.symm.trans e3
  obtain ⟨b, S2, f1, -, q1⟩ := h2 0
  obtain ⟨b', S2', f1', -, q1'⟩ := h3 0
  cases f1.symm.trans f1'
  rcases q1 with ⟨q, -⟩ | ⟨-, q⟩
  · omega
  · rcases q1' with ⟨q', -⟩ | ⟨-, q'⟩
    · omega
    · rw [q] at q'; exact absurd q' (by decide)
theorem useC {n2 : Int32} {fc : St → Option TR} {fm : St → Option (Int32 × St)} (h : Agr n2 fc fm) (c1 c2 : Option Int32) (z : Bool) (hc1 : c1 = some 1 ∨ (c1 = none ∧ thr fc 1)) (hc2 : c2 = some n2 ∨ (c2 = none ∧ thr fc 2)) (hn2 : n2 ≠ 0) (hk : ∀ S b S', fm S = some (b, S') → S' 186 = S 186) {S : St} (hR : Rel S) :
    ∃ k S1 b S2, fC c1 c2 z (fc S) = some (k, S1) ∧ fm S1 = some (b, S2) ∧ Rel S2 ∧ S2 142 3 = k ∧ (k = 0 → S2 186 0 = if z then (if b = 0 then 0 else 1) else b) := by
  obtain ⟨w, S1, e1, h2⟩ := h S hR
  rw [e1]
  cases w with
  | inl r =>
    obtain ⟨b, S2, f1, f2, f3, f4⟩ := h2 (if z then (if r = 0 then 0 else 1) else r)
    refine ⟨0, _, b, S2, rfl, f1, f2, f3, fun _ => ?_⟩
    rw [hk _ _ _ f1, up_at, f4]
  | inr n =>
    obtain ⟨b, S2, f1, f2, f3⟩ := h2 (S1 186 0)
    rw [up_self] at f1
    rcases f3 with ⟨q1, q2⟩ | ⟨q1, q2⟩
    · subst q1
      rcases hc1 with rfl | ⟨-, q⟩
      · exact ⟨1, S1, b, S2, rfl, f1, f2, q2, fun q => absurd q (by decide)⟩
      · exact (q S S1 hR e1).elim
    · subst q1
      rcases hc2 with rfl | ⟨-, q⟩
      · exact ⟨n2, S1, b, S2, rfl, f1, f2, q2, fun q => absurd q hn2⟩
      · exact (q S S1 hR e1).elim
/-! calls that throw IllegalArgumentException alone -/
def T1 (x : Option TR) : Prop := ∀ S1, x = some (.inr 1, S1) → False
theorem t_none : T1 none := fun _ h => by cases h
theorem t_if {c : Prop} {d : Decidable c} {x y : Option TR} (h1 : T1 x) (h2 : T1 y) : T1 (@ite _ c d x y) := by
  by_cases q : c
  · rw [if_pos q]; exact h1
  · rw [if_neg q]; exact h2
theorem t_gm {S : St} {a i c : Nat} {k : Nat → Option TR} (h : ∀ x, T1 (k x)) : T1 (gm S a i c k) := t_if (h _) t_none
theorem t_pf {S : St} {a i : Nat} {v : Int32} {k : St → Option TR} (h : ∀ S, T1 (k S)) : T1 (pf S a i v k) := h _
theorem t_pz {S : St} {a i : Nat} {v : Int32} {k : St → Option TR} (h : ∀ S, T1 (k S)) : T1 (pz S a i v k) := t_if (h _) t_none
theorem t_bd {x : Option (Int32 × St)} {k : Int32 → St → Option TR} (h : ∀ v S, T1 (k v S)) : T1 (bd x k) := fun S1 hb => by
  obtain ⟨v, S', e1, e2⟩ := bd_some hb
  exact h v S' S1 e2
theorem t_bv {x : Option St} {k : St → Option TR} (h : ∀ S, T1 (k S)) : T1 (bv x k) := fun S1 hb => by
  obtain ⟨S', e1, e2⟩ := bv_some hb
  exact h S' S1 e2
theorem t_tri {v : Int32} {S : St} : T1 (tri v S) := fun _ h => by cases h
theorem t_x {S : St} : T1 (trx 2 S) := fun _ h => by
  have h : some ((Sum.inr 2 : Int32 ⊕ Nat), S) = some (.inr 1, _) := h
  injection h with h
  injection h with h1 h2
  injection h1 with h3
  exact absurd h3 (by decide)
theorem thr_heirs (a1 : Int32) : thr (fX9_heirs a1) 1 := fun S S1 _ h => by
  unfold fX9_heirs at h
  exact (t_if t_x (t_if (t_gm fun _ => t_bd fun _ _ => t_tri) t_x)) S1 h
theorem thr_valley (a1 : Int32) : thr (fX9_valley a1) 1 := fun S S1 _ h => by
  unfold fX9_valley at h
  exact (t_if t_x (t_if (t_gm fun _ => t_bd fun _ _ => t_pf fun _ => t_pf fun _ => t_if (t_gm fun _ => t_gm fun _ => t_pf fun _ => t_pf fun _ => t_gm fun _ => t_bv fun _ => t_pz fun _ => t_tri) (t_bv fun _ => t_tri)) t_x)) S1 h
