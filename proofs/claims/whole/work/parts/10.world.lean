/-! the layout: cells 0 .. 186 as the constructors make them: kinds (0 .. 10 the class in vwCl; 20 int row, 21 byte row, 22 row of rows, 23 row of Strings, 24 long row), lengths, fixed references -/
abbrev vwCl : List vw_C := [(RX0, TX0, 7), (RX1, TX1, 6), (RX2, TX2, 7), (RX3, TX3, 5), (RX4, TX4, 9), (RX5, TX5, 1), (RX6, TX6, 5), (RX7, TX7, 6), (RX8, TX8, 14), (RX9, TX9, 12), (RX10, TX10, 66)]
def NC : Nat := 187
def NS : Nat := 29
def kdL : List Nat := [9, 21, 8, 20, 20, 20, 20, 20, 20, 20, 20, 20, 20, 3, 20, 3, 20, 8, 20, 20, 20, 20, 20, 20, 20, 20, 20, 20, 3, 20, 3, 20, 6, 7, 2, 20, 4, 20, 22, 20, 20, 20, 20, 20, 20, 20, 20, 20, 20, 20, 20, 20, 20, 20, 20, 20, 20, 20, 20, 20, 20, 20, 20, 20, 20, 20, 20, 20, 20, 20, 20, 20, 20, 20, 20, 20, 20, 20, 20, 20, 20, 20, 20, 4, 20, 22, 20, 20, 20, 20, 20, 20, 20, 20, 20, 20, 20, 20, 20, 20, 20, 20, 20, 20, 20, 20, 20, 20, 20, 20, 20, 20, 20, 20, 20, 20, 20, 20, 20, 20, 20, 20, 20, 20, 20, 20, 20, 20, 20, 20, 0, 20, 20, 20, 20, 20, 20, 1, 20, 20, 5, 20, 10, 23, 23, 20, 20, 20, 20, 20, 20, 20, 20, 20, 20, 20, 20, 20, 20, 20, 20, 20, 20, 20, 20, 20, 20, 20, 20, 20, 20, 20, 20, 20, 20, 20, 20, 20, 20, 20, 20, 20, 20, 20, 20, 20, 24]
def lnL : List Nat := [0, 700, 0, 8, 8, 48, 8, 64, 6, 36, 6, 8, 701, 0, 40, 0, 40, 0, 8, 8, 48, 8, 64, 6, 36, 6, 8, 701, 0, 40, 0, 40, 0, 0, 0, 96, 0, 106, 40, 106, 106, 106, 106, 106, 106, 106, 106, 106, 106, 106, 106, 106, 106, 106, 106, 106, 106, 106, 106, 106, 106, 106, 106, 106, 106, 106, 106, 106, 106, 106, 106, 106, 106, 106, 106, 106, 106, 106, 106, 8, 8, 8, 3, 0, 106, 40, 106, 106, 106, 106, 106, 106, 106, 106, 106, 106, 106, 106, 106, 106, 106, 106, 106, 106, 106, 106, 106, 106, 106, 106, 106, 106, 106, 106, 106, 106, 106, 106, 106, 106, 106, 106, 106, 106, 106, 106, 8, 8, 8, 3, 0, 106, 6, 6, 6, 8, 5, 0, 8, 8, 0, 2048, 0, 5, 5, 10, 16, 16, 96, 128, 72, 12, 12, 16, 1400, 1400, 3, 700, 6, 6, 48, 36, 8, 4240, 64, 5, 64, 6, 6, 106, 7, 2048, 4, 8, 8, 8, 106, 8, 288, 2304, 106, 4240, 8, 8, 8, 3, 1]
def srL : List (List Nat) := [[1, 0, 0, 0, 0, 32, 36, 83, 0, 130, 137, 140], [], [0, 0, 0, 3, 4, 5, 6, 7, 8, 9, 10, 11, 13, 15], [], [], [], [], [], [], [], [], [], [], [0, 12, 0, 0, 14], [], [0, 12, 0, 0, 16], [], [0, 0, 0, 18, 19, 20, 21, 22, 23, 24, 25, 26, 28, 30], [], [], [], [], [], [], [], [], [], [], [0, 27, 0, 0, 29], [], [0, 27, 0, 0, 31], [], [33, 34], [1], [33, 35], [], [37, 38, 0, 0, 0, 79, 80, 81, 82], [], [], [], [], [], [], [], [], [], [], [], [], [], [], [], [], [], [], [], [], [], [], [], [], [], [], [], [], [], [], [], [], [], [], [], [], [], [], [], [], [], [], [], [], [], [], [84, 85, 0, 0, 0, 126, 127, 128, 129], [], [], [], [], [], [], [], [], [], [], [], [], [], [], [], [], [], [], [], [], [], [], [], [], [], [], [], [], [], [], [], [], [], [], [], [], [], [], [], [], [], [], [], [], [], [], [0, 131, 132, 133, 134, 135, 136], [], [], [], [], [], [], [130, 0, 0, 138, 139], [], [], [141], [], [143, 144, 0, 0, 145, 146, 147, 148, 149, 150, 151, 152, 153, 154, 155, 156, 157, 0, 0, 0, 0, 0, 0, 0, 0, 0, 0, 0, 158, 159, 160, 161, 162, 163, 0, 0, 0, 0, 164, 165, 166, 0, 167, 168, 169, 170, 171, 172, 173, 174, 175, 176, 177, 178, 179, 0, 0, 0, 0, 0, 180, 181, 182, 183, 184, 185], [], [], [], [], [], [], [], [], [], [], [], [], [], [], [], [], [], [], [], [], [], [], [], [], [], [], [], [], [], [], [], [], [], [], [], [], [], [], [], [], [], [], [], []]
def slL : List (List Nat) := [[2, 1, 1, 1, 1, 1, 1], [1, 0, 0, 1, 1, 0], [1, 1, 0, 0, 0, 0, 0], [0, 1, 0, 0, 1], [1, 1, 0, 0, 0, 1, 1, 1, 1], [1], [1, 1, 2, 0, 0], [1, 0, 0, 0, 0, 0], [0, 0, 0, 1, 1, 1, 1, 1, 1, 1, 1, 1, 1, 1], [1, 0, 0, 2, 2, 1, 1, 1, 0, 1, 1, 1], [1, 1, 2, 0, 1, 1, 1, 1, 1, 1, 1, 1, 1, 1, 1, 1, 1, 0, 0, 0, 0, 0, 0, 0, 0, 0, 0, 0, 1, 1, 1, 1, 1, 1, 0, 0, 0, 0, 1, 1, 1, 0, 1, 1, 1, 1, 1, 1, 1, 1, 1, 1, 1, 1, 1, 0, 0, 0, 0, 0, 1, 1, 1, 1, 1, 1]]
def sLen : List Nat := [30, 5, 4, 6, 5, 4, 5, 3, 5, 4, 3, 5, 5, 5, 7, 2, 3, 5, 13, 13, 24, 12, 14, 25, 22, 17, 12, 16, 32]
def sByt : List (List Int32) := [[116, 104, 101, 32, 116, 97, 112, 101, 32, 104, 97, 115, 32, 110, 111, 116, 32, 115, 111, 32, 109, 97, 110, 121, 32, 98, 121, 116, 101, 115], [102, 105, 101, 108, 100], [112, 97, 116, 104], [115, 105, 110, 103, 101, 114], [107, 110, 111, 119, 115], [111, 119, 110, 115], [115, 105, 110, 103, 115], [110, 111, 116], [112, 117, 114, 115, 101], [104, 111, 117, 114], [102, 97, 114], [97, 99, 114, 101, 115], [110, 111, 116, 101, 115], [107, 110, 111, 119, 110], [104, 101, 97, 114, 101, 114, 115], [111, 114], [97, 110, 100], [102, 105, 110, 101, 115], [110, 111, 32, 115, 117, 99, 104, 32, 99, 111, 117, 110, 116], [110, 111, 32, 115, 117, 99, 104, 32, 102, 105, 101, 108, 100], [110, 111, 32, 115, 117, 99, 104, 32, 116, 104, 105, 110, 103, 32, 111, 102, 32, 97, 32, 102, 105, 101, 108, 100], [110, 111, 32, 115, 117, 99, 104, 32, 110, 111, 116, 101], [110, 111, 32, 115, 117, 99, 104, 32, 115, 105, 110, 103, 101, 114], [110, 111, 32, 115, 117, 99, 104, 32, 116, 104, 105, 110, 103, 32, 111, 102, 32, 97, 32, 115, 105, 110, 103, 101, 114], [110, 111, 32, 115, 117, 99, 104, 32, 112, 108, 97, 99, 101, 32, 111, 102, 32, 97, 32, 119, 97, 121], [110, 111, 116, 32, 115, 111, 32, 109, 97, 110, 121, 32, 104, 111, 117, 114, 115], [110, 111, 32, 115, 117, 99, 104, 32, 119, 104, 97, 116], [110, 111, 116, 32, 49, 32, 116, 111, 32, 52, 32, 104, 101, 105, 114, 115], [116, 119, 111, 32, 97, 114, 101, 32, 110, 101, 101, 100, 101, 100, 32, 119, 104, 111, 32, 107, 110, 111, 119, 32, 116, 104, 101, 32, 116, 117, 110, 101]]
def sW : List (String × Nat × String × Nat) := [("SongFields", 80, "the tape has not so many bytes", 0), ("SongFields$Teller", 52, "field", 1), ("SongFields$Teller", 61, "path", 2), ("SongFields$Teller", 66, "singer", 3), ("SongFields$Teller", 71, "knows", 4), ("SongFields$Teller", 76, "owns", 5), ("SongFields$Teller", 81, "sings", 6), ("SongFields$Phrase", 72, "not", 7), ("SongFields$Phrase", 92, "purse", 8), ("SongFields$Phrase", 94, "hour", 9), ("SongFields$Phrase", 96, "far", 10), ("SongFields$Phrase", 98, "singer", 3), ("SongFields$Phrase", 100, "acres", 11), ("SongFields$Phrase", 102, "field", 1), ("SongFields$Phrase", 104, "notes", 12), ("SongFields$Phrase", 106, "known", 13), ("SongFields$Phrase", 108, "hearers", 14), ("SongFields$Phrase", 121, "or", 15), ("SongFields$Phrase", 123, "and", 16), ("SongFields$Teller", 90, "fines", 17), ("SongFields", 126, "no such count", 18), ("SongFields", 313, "no such field", 19), ("SongFields", 149, "no such thing of a field", 20), ("SongFields", 155, "no such note", 21), ("SongFields", 315, "no such singer", 22), ("SongFields", 176, "no such thing of a singer", 23), ("SongFields", 178, "no such place of a way", 24), ("SongFields", 319, "not so many hours", 25), ("SongFields", 317, "no such what", 26), ("SongFields", 248, "not 1 to 4 heirs", 27), ("SongFields", 283, "two are needed who know the tune", 28), ("SongFieldsModel", 11, "hour", 9), ("SongFieldsModel", 13, "singer", 3), ("SongFieldsModel", 15, "field", 1), ("SongFieldsModel", 17, "known", 13), ("SongFieldsModel", 19, "purse", 8), ("SongFieldsModel", 25, "far", 10), ("SongFieldsModel", 27, "acres", 11), ("SongFieldsModel", 29, "notes", 12), ("SongFieldsModel", 31, "hearers", 14), ("SongFieldsModel", 301, "sings", 6), ("SongFieldsModel", 303, "fines", 17), ("SongFieldsModel", 276, "not", 7), ("SongFieldsModel", 284, "and", 16), ("SongFieldsModel", 289, "or", 15), ("SongFieldsModel", 308, "path", 2), ("SongFieldsModel", 315, "knows", 4), ("SongFieldsModel", 320, "owns", 5)]
def stn (k i : Nat) : Nat := if k = 143 then ([9, 3, 1, 13, 8] : List Nat).getD i 0 else ([10, 11, 12, 14, 8] : List Nat).getD i 0
abbrev St : Type := Nat → Nat → Int32
def up (S : St) (a i : Nat) (v : Int32) : St := fun b => if b = a then upd (S a) i v else S b
def cpy (S : St) (a0 sp a dp n : Nat) : St := fun b => if b = a then va_cpy (S a0) (S a) sp dp n else S b
def ix (x : Int32) : Nat := x.toNatClampNeg
def kd (k : Nat) : Nat := kdL.getD k 99
def ln (k : Nat) : Nat := lnL.getD k 0
def sr (k j : Nat) : Nat := (srL.getD k []).getD j 0
abbrev Gt : Type := Nat × va_G × (Nat → ClassId) × (Nat → Nat) × (Nat → Nat) × (Nat → Nat)
abbrev gB (G : Gt) : Nat := G.1
abbrev gD (G : Gt) : va_G := G.2.1
abbrev gC (G : Gt) : Nat → ClassId := G.2.2.1
abbrev gR (G : Gt) : Nat → Nat := G.2.2.2.1
abbrev gK (G : Gt) : Nat → Nat := G.2.2.2.2.1
abbrev gV (G : Gt) : Nat → Nat := G.2.2.2.2.2
def Ab (G : Gt) : Nat → Prop := fun q => gB G ≤ q
def tysG (G : Gt) : List (ClassId × FieldType) := [(gC G 0, .int), (gC G 1, .byte), (gC G 2, .array .int), (gC G 3, .object "java/lang/String"), (gC G 4, .long)]
def fd (G : Gt) (k : Nat) (r : Nat → Int32) (j t : Nat) : Value := if t = 0 then .int (r j) else if t = 1 then .ref (gR G (sr k j)) else .ref (gR G (ix (r j)))
def flds (G : Gt) (k : Nat) (r : Nat → Int32) : List Value := (slL.getD (kd k) []).mapIdx (fun j t => fd G k r j t)
def cE (G : Gt) (k : Nat) (r : Nat → Int32) : va_E :=
  if kd k = 20 then .inl (gC G 0, ln k, .inl r) else if kd k = 21 then .inl (gC G 1, ln k, .inl r)
  else if kd k = 22 then .inl (gC G 2, ln k, .inr (.inr (.inr (.inr (fun i => some (gR G (k + 1 + i)))))))
  else if kd k = 23 then .inl (gC G 3, ln k, .inr (.inr (.inr (.inr (fun i => some (gK G (stn k i)))))))
  else if kd k = 24 then .inl (gC G 4, ln k, .inr (.inl (fun j => (r j).toInt64)))
  else .inr (kd k, flds G k r)
theorem cE_20 {G : Gt} {k : Nat} {r : Nat → Int32} (h : kd k = 20) : cE G k r = .inl (gC G 0, ln k, .inl r) := by rw [cE, if_pos h]
theorem cE_21 {G : Gt} {k : Nat} {r : Nat → Int32} (h : kd k = 21) : cE G k r = .inl (gC G 1, ln k, .inl r) := by rw [cE, if_neg (by omega), if_pos h]
theorem cE_22 {G : Gt} {k : Nat} {r : Nat → Int32} (h : kd k = 22) : cE G k r = .inl (gC G 2, ln k, .inr (.inr (.inr (.inr (fun i => some (gR G (k + 1 + i))))))) := by rw [cE, if_neg (by omega), if_neg (by omega), if_pos h]
theorem cE_23 {G : Gt} {k : Nat} {r : Nat → Int32} (h : kd k = 23) : cE G k r = .inl (gC G 3, ln k, .inr (.inr (.inr (.inr (fun i => some (gK G (stn k i))))))) := by rw [cE, if_neg (by omega), if_neg (by omega), if_neg (by omega), if_pos h]
theorem cE_24 {G : Gt} {k : Nat} {r : Nat → Int32} (h : kd k = 24) : cE G k r = .inl (gC G 4, ln k, .inr (.inl (fun j => (r j).toInt64))) := by rw [cE, if_neg (by omega), if_neg (by omega), if_neg (by omega), if_neg (by omega), if_pos h]
theorem cE_o {G : Gt} {k c : Nat} {r : Nat → Int32} (h : kd k = c) (hc : c < 20) : cE G k r = .inr (c, flds G k r) := by rw [cE, if_neg (by omega), if_neg (by omega), if_neg (by omega), if_neg (by omega), if_neg (by omega), h]
theorem kd_lt {k c : Nat} (h : kd k = c) (hc : c < 99) : k < NC := by
  rcases Nat.lt_or_ge k NC with q | q
  · exact q
  · have : kd k = 99 := by
      unfold kd
      rw [List.getD_eq_getElem?_getD, List.getElem?_eq_none (by exact q)]
      rfl
    omega
def cl (G : Gt) (S : St) : va_W := (List.range NC).map (fun k => (gR G k, cE G k (S k)))
theorem cl_at {G : Gt} {S : St} {k : Nat} (hk : k < NC) : (cl G S)[k]? = some (gR G k, cE G k (S k)) := by
  unfold cl
  rw [List.getElem?_map, List.getElem?_range hk]
  rfl
theorem cl_len {G : Gt} {S : St} : (cl G S).length = NC := by unfold cl; rw [List.length_map, List.length_range]
def row (S : St) (a : Nat) (r : Nat → Int32) : St := fun b => if b = a then r else S b
theorem cl_set {G : Gt} {S : St} {k : Nat} (hk : k < NC) (r : Nat → Int32) : (cl G S).set k (gR G k, cE G k r) = cl G (row S k r) := by
  apply List.ext_getElem?
  intro i
  rcases Nat.lt_or_ge i NC with hi | hi
  · by_cases e : k = i
    · subst e
      rw [List.getElem?_set_self (by rw [cl_len]; exact hk), cl_at hk, row, if_pos rfl]
    · rw [List.getElem?_set_ne e, cl_at hi, cl_at hi, row, if_neg (Ne.symm e)]
  · rw [List.getElem?_eq_none (by rw [List.length_set, cl_len]; exact hi), List.getElem?_eq_none (by rw [cl_len]; exact hi)]
/-- the String constants, by their numbers -/
def vS (G : Gt) (U : State) (H : Heap) : Prop := ∀ i : Nat, i < NS → va_O "java/lang/String" (gK G i) (Ab G) U H ∧ va_OF "java/lang/String" "coder" "B" (.int 0) (gK G i) (Ab G) U H ∧ va_OF "java/lang/String" "value" "[B" (.ref (gV G i)) (gK G i) (Ab G) U H ∧ va_T .byte (gV G i) (sLen.getD i 0) (fun j => .int ((sByt.getD i []).getD j 0)) (Ab G) U H
def nNS : String := "java/util/NoSuchElementException"
def nIA : String := "java/lang/IllegalArgumentException"
/-- words of the tables that stay by their own laws: what may be caught, what is declared -/
def xN : List Cond := [.castable nNS nNS, .castable nIA nIA, .declares (Bundle.initS "java/lang/RuntimeException"), .declares (Bundle.initS "java/lang/Exception"), .declares (Bundle.initS Bundle.tN)]
theorem xN_ok : ∀ w ∈ xN, w.faceAtom = true ∧ w.onTables = true := by decide +kernel
theorem xN_go {s U : State} (hal : s.vm.Alike U.vm) (h : ∀ w ∈ xN, va_Nw w s) : ∀ w ∈ xN, va_Nw w U := fun w hw => va_tabs (xN_ok w hw).2 (rfl : (s.setVm U.vm).vm = U.vm) (Cond.faceAtom_setVm hal w (xN_ok w hw).1 (h w hw))
/-- what stays: classes, row classes, String constants, statics, what may be caught, apart addresses -/
def Ks (G : Gt) (U : State) (H : Heap) : Prop :=
  va_K (gD G) vwCl (tysG G) U ∧ vS G U H ∧ (∀ q ∈ sW, vk_R q.1 q.2.1 q.2.2.1 (gK G q.2.2.2) U) ∧
  va_Z "java/lang/String" "COMPACT_STRINGS" "Z" (.int 1) (Ab G) U H ∧ vx_Zq Bundle.tN "UNASSIGNED_STACK" Bundle.steD (Ab G) U H ∧ vx_Zq Bundle.tN "SUPPRESSED_SENTINEL" Bundle.listD (Ab G) U H ∧
  va_Zq "jdk/internal/util/Preconditions" "SIOOBE_FORMATTER" "Ljava/util/function/BiFunction;" (Ab G) U H ∧ (∀ w ∈ xN, va_Nw w U) ∧ va_Nc nIA nNS U ∧
  (∀ i j, i < NC → j < NC → gR G i = gR G j → i = j) ∧ (∀ k, k < NC → gB G ≤ gR G k)
theorem vS.go {G : Gt} {s U : State} {H H1 : Heap} (h : vS G s H) (hal : s.vm.Alike U.vm) (hq : ∀ a : Nat, a < H.size → ¬ Ab G a → H1[a]? = H[a]?) : vS G U H1 := fun i hi =>
  ⟨(va_O.moved hal (h i hi).1).kept hq, (va_OF.moved hal (h i hi).2.1).kept hq, (va_OF.moved hal (h i hi).2.2.1).kept hq, (va_T.moved hal (h i hi).2.2.2).kept hq⟩
theorem Ks.go {G : Gt} {s U : State} {H H1 : Heap} (h : Ks G s H) (hW : s.WarmedH U.vm) (hq : ∀ a : Nat, a < H.size → ¬ Ab G a → H1[a]? = H[a]?) : Ks G U H1 := by
  obtain ⟨h1, h2, h3, h4, h5, h6, h9, h10, h12, h7, h8⟩ := h
  have hal := hW.alike
  exact ⟨va_K.moved hal h1, h2.go hal hq, fun q hm => (h3 q hm).warm hW, (va_Z.moved hal h4).kept hq, (vx_Zq.moved hal h5).kept hq, (vx_Zq.moved hal h6).kept hq, (va_Zq.moved hal h9).kept hq, xN_go hal h10, va_Nc.moved hal h12, h7, h8⟩
theorem Ks.vm {G : Gt} {s U : State} {H : Heap} (h : Ks G s H) (hv : U.vm = s.vm) : Ks G U H := by
  obtain ⟨h1, h2, h3, h4, h5, h6, h9, h10, h12, h7, h8⟩ := h
  have hal : s.vm.Alike U.vm := by rw [hv]; exact Vm.Alike.refl _
  exact ⟨va_K.moved hal h1, h2.go hal (fun _ _ _ => rfl), fun q hm => (h3 q hm).same hv, va_Z.moved hal h4, vx_Zq.moved hal h5, vx_Zq.moved hal h6, va_Zq.moved hal h9, xN_go hal h10, va_Nc.moved hal h12, h7, h8⟩
theorem cl_D {G : Gt} {U : State} {H : Heap} (h : Ks G U H) (S : St) : va_D (Ab G) (cl G S) := by
  obtain ⟨-, -, -, -, -, -, -, -, -, h7, h8⟩ := h
  have key : ∀ (k : Nat) (q : Nat × va_E), (cl G S)[k]? = some q → k < NC ∧ q.1 = gR G k := fun k q hq => by
    have hk : k < NC := by rw [← cl_len (G := G) (S := S)]; exact (List.getElem?_eq_some_iff.mp hq).1
    rw [cl_at hk] at hq
    cases hq
    exact ⟨hk, rfl⟩
  refine ⟨fun i j x y hi hj hxy => ?_, fun k q hq => ?_⟩
  · obtain ⟨a1, a2⟩ := key i x hi
    obtain ⟨b1, b2⟩ := key j y hj
    exact h7 i j a1 b1 (by rw [← a2, ← b2]; exact hxy)
  · obtain ⟨a1, a2⟩ := key k q hq
    rw [a2]
    exact h8 k a1
theorem gt_good : ∀ w ∈ gt, (w.onTables && w.keeps) = true ∨ ∃ ty, w = .arrayClass ty := fun w h => good_of_word (List.mem_filter.mp h).2
theorem gt_in {ws : List Cond} (h : ∀ w ∈ ws, w ∈ gt) : GoodIn gt ws := fun w hw => ⟨h w hw, gt_good w (h w hw)⟩
def wm (y : MethodName) (b : ByteArray) (n : Nat) (r : Option FieldType) : List Cond := .code y b n r :: gt
def rmL (d mc ms : Nat) : Room := { frames := d, cells := mc, slots := ms, locals := 60 * d }
/-- the machine's world at H, since the entry s -/
def Dy (G : Gt) (S : St) (s : State) (H : Heap) (locs : List Loc) : Prop := va_P (gD G) vwCl (cl G S) H ∧ va_S (Ab G) s.heap H locs
def Cx (p : Program) (s : State) (m : MethodId) (args : Array Value) (meth : Method) (c : Code) (cc : ByteArray) (nL : Nat) (own : String) (G : Gt) : Prop :=
  CallFix p m c cc nL s args gt own ∧ meth.locks = false ∧ Ks G s s.heap
/-- a contract's start and its ends -/
def PcW (G : Gt) (S : St) (vs : List Value) : Array Value → State → Prop := fun v U => v = vs.toArray ∧ Ks G U U.heap ∧ va_P (gD G) vwCl (cl G S) U.heap
theorem PcW.blind {G : Gt} {S : St} {vs : List Value} : FrameBlind (PcW G S vs) := fun a U g mk h => by
  obtain ⟨h1, h2, h3⟩ := h
  exact ⟨h1, h2.vm rfl, h3⟩
abbrev QI (G : Gt) (r : Int32) (S : St) : Array Value → State → Outcome → State → Prop := va_Qi (fun (x : Int32) (_ : Unit) => x = r) (fun _ t => va_P (gD G) vwCl (cl G S) t.heap) (Ab G)
abbrev QV (G : Gt) (S : St) : Array Value → State → Outcome → State → Prop := va_Qv (fun (_ : Unit) => True) (fun _ t => va_P (gD G) vwCl (cl G S) t.heap) (Ab G)
/-- the words of the functions that the methods are read as -/
def rd {β : Type} (S : St) (a : Nat) (i : Int32) (k : Int32 → Option β) : Option β := if i < 0 ∨ ln a ≤ i.toNatClampNeg then none else k (S a i.toNatClampNeg)
def wr {β : Type} (S : St) (a : Nat) (i v : Int32) (k : St → Option β) : Option β := if i < 0 ∨ ln a ≤ i.toNatClampNeg then none else k (up S a i.toNatClampNeg v)
def wb {β : Type} (S : St) (a : Nat) (i v : Int32) (k : St → Option β) : Option β := if i < 0 ∨ ln a ≤ i.toNatClampNeg then none else k (up S a i.toNatClampNeg v.toInt8.toInt32)
def pf {β : Type} (S : St) (a i : Nat) (v : Int32) (k : St → Option β) : Option β := k (up S a i v)
def pz {β : Type} (S : St) (a i : Nat) (v : Int32) (k : St → Option β) : Option β := if v = 0 ∨ v = 1 then k (up S a i v) else none
def gm {β : Type} (S : St) (a i c : Nat) (k : Nat → Option β) : Option β := if kd (ix (S a i)) = c then k (ix (S a i)) else none
def dv {β : Type} (x y : Int32) (k : Int32 → Option β) : Option β := if y = 0 then none else k (x / y)
def rm' {β : Type} (x y : Int32) (k : Int32 → Option β) : Option β := if y = 0 then none else k (x - x / y * y)
def bd {β : Type} (x : Option (Int32 × St)) (k : Int32 → St → Option β) : Option β := match x with
  | none => none
  | some q => k q.1 q.2
def bv {β : Type} (x : Option St) (k : St → Option β) : Option β := match x with
  | none => none
  | some q => k q
def ri (v : Int32) (S : St) : Option (Int32 × St) := some (v, S)
def rz (v : Int32) (S : St) : Option (Int32 × St) := if v = 0 ∨ v = 1 then some (v, S) else none
def FU : Nat := 5000
theorem bd_some {β : Type} {x : Option (Int32 × St)} {k : Int32 → St → Option β} {b : β} (h : bd x k = some b) : ∃ r S, x = some (r, S) ∧ k r S = some b := by
  cases x with
  | none => cases h
  | some q => exact ⟨q.1, q.2, rfl, h⟩
theorem bv_some {β : Type} {x : Option St} {k : St → Option β} {b : β} (h : bv x k = some b) : ∃ S, x = some S ∧ k S = some b := by
  cases x with
  | none => cases h
  | some q => exact ⟨q, rfl, h⟩
section RW
variable {p : Program} {l : Launch} {e : Env} {R : Room} {s : State} {m : MethodId} {args : Array Value} {below : List Frame} {meth : Method} {c : Code} {H : Heap} {locs : List Loc} {cells slots : Nat} {Q : State → Prop}
variable {cc : ByteArray} {pc nL : Nat} {ls : Array Slot} {rest : List Value} {own : String} {G : Gt} {S : St}
theorem Dy.wr {a : Nat} {r : Nat → Int32} {e0 : va_E} {H1 : Heap} {locs1 : List Loc} (ha : a < NC) (he : e0 = cE G a r) (hP : va_P (gD G) vwCl ((cl G S).set a (gR G a, e0)) H1) (hS : va_S (Ab G) s.heap H1 locs1) : Dy G (row S a r) s H1 locs1 := by
  subst he
  rw [cl_set ha] at hP
  exact ⟨hP, hS⟩
theorem R_iald {β : Type} {k : Int32 → Option β} {res : β} (C : Cx p s m args meth c cc nL own G) (hd : Dy G S s H locs) {a : Nat} {i : Int32} (hk : kd a = 20) (h : rd S a i k = some res) (hdg : decode cc pc = .ok (.iaload, 1))
    (kk : ∀ x : Int32, k x = some res → W p l e R s m args below meth c H locs cells slots Q (F0 m (pc + 1) ls (.int x :: rest))) : W p l e R s m args below meth c H locs cells slots Q (F0 m pc ls (.int i :: .ref (gR G a) :: rest)) := by
  obtain ⟨⟨hx, hb, hml, hown, hts⟩, hlk, hK⟩ := C
  unfold rd at h
  split at h
  · cases h
  · rename_i hin
    have hc := cl_at (G := G) (S := S) (kd_lt hk (by omega))
    rw [cE_20 hk] at hc
    exact va_iald hx hb hK.1 hd.1 a 0 hc rfl hin hdg (kk _ h)
theorem R_bald {β : Type} {k : Int32 → Option β} {res : β} (C : Cx p s m args meth c cc nL own G) (hd : Dy G S s H locs) {a : Nat} {i : Int32} (hk : kd a = 21) (h : rd S a i k = some res) (hdg : decode cc pc = .ok (.baload, 1))
    (kk : ∀ x : Int32, k x = some res → W p l e R s m args below meth c H locs cells slots Q (F0 m (pc + 1) ls (.int x :: rest))) : W p l e R s m args below meth c H locs cells slots Q (F0 m pc ls (.int i :: .ref (gR G a) :: rest)) := by
  obtain ⟨⟨hx, hb, hml, hown, hts⟩, hlk, hK⟩ := C
  unfold rd at h
  split at h
  · cases h
  · rename_i hin
    have hc := cl_at (G := G) (S := S) (kd_lt hk (by omega))
    rw [cE_21 hk] at hc
    exact va_bald hx hb hK.1 hd.1 a 1 hc rfl hin hdg (kk _ h)
theorem R_iast {β : Type} {k : St → Option β} {res : β} (C : Cx p s m args meth c cc nL own G) (hd : Dy G S s H locs) {a : Nat} {i v : Int32} (hk : kd a = 20) (h : wr S a i v k = some res) (hdg : decode cc pc = .ok (.iastore, 1))
    (kk : ∀ (S1 : St) (H1 : Heap) (locs1 : List Loc), Dy G S1 s H1 locs1 → k S1 = some res → W p l e R s m args below meth c H1 locs1 cells slots Q (F0 m (pc + 1) ls rest)) : W p l e R s m args below meth c H locs cells slots Q (F0 m pc ls (.int v :: .int i :: .ref (gR G a) :: rest)) := by
  obtain ⟨⟨hx, hb, hml, hown, hts⟩, hlk, hK⟩ := C
  unfold wr at h
  split at h
  · cases h
  · rename_i hin
    have hc := cl_at (G := G) (S := S) (kd_lt hk (by omega))
    rw [cE_20 hk] at hc
    exact va_iast hx hb hK.1 hd.1 (cl_D hK S) hd.2 a 0 hc rfl hin hdg (fun H1 locs1 hP1 _ hS1 => kk _ _ _ (Dy.wr (r := upd (S a) i.toNatClampNeg v) (kd_lt hk (by omega)) (cE_20 hk).symm hP1 hS1) h)
theorem R_bast {β : Type} {k : St → Option β} {res : β} (C : Cx p s m args meth c cc nL own G) (hd : Dy G S s H locs) {a : Nat} {i v : Int32} (hk : kd a = 21) (h : wb S a i v k = some res) (hdg : decode cc pc = .ok (.bastore, 1))
    (kk : ∀ (S1 : St) (H1 : Heap) (locs1 : List Loc), Dy G S1 s H1 locs1 → k S1 = some res → W p l e R s m args below meth c H1 locs1 cells slots Q (F0 m (pc + 1) ls rest)) : W p l e R s m args below meth c H locs cells slots Q (F0 m pc ls (.int v :: .int i :: .ref (gR G a) :: rest)) := by
  obtain ⟨⟨hx, hb, hml, hown, hts⟩, hlk, hK⟩ := C
  unfold wb at h
  split at h
  · cases h
  · rename_i hin
    have hc := cl_at (G := G) (S := S) (kd_lt hk (by omega))
    rw [cE_21 hk] at hc
    exact va_bast hx hb hK.1 hd.1 (cl_D hK S) hd.2 a 1 hc rfl hin hdg (fun H1 locs1 hP1 _ hS1 => kk _ _ _ (Dy.wr (r := upd (S a) i.toNatClampNeg v.toInt8.toInt32) (kd_lt hk (by omega)) (cE_21 hk).symm hP1 hS1) h)
theorem R_alen (C : Cx p s m args meth c cc nL own G) (hd : Dy G S s H locs) {a : Nat} (hk : kd a = 20) {v : Int32} (hv : nI (ln a) = v) (hdg : decode cc pc = .ok (.arraylength, 1))
    (kk : W p l e R s m args below meth c H locs cells slots Q (F0 m (pc + 1) ls (.int v :: rest))) : W p l e R s m args below meth c H locs cells slots Q (F0 m pc ls (.ref (gR G a) :: rest)) := by
  obtain ⟨⟨hx, hb, hml, hown, hts⟩, hlk, hK⟩ := C
  have hc := cl_at (G := G) (S := S) (kd_lt hk (by omega))
  rw [cE_20 hk] at hc
  exact va_alen hx hb hK.1 hd.1 a 0 hc (ty := .int) rfl hv hdg kk
theorem R_alenB (C : Cx p s m args meth c cc nL own G) (hd : Dy G S s H locs) {a : Nat} (hk : kd a = 21) {v : Int32} (hv : nI (ln a) = v) (hdg : decode cc pc = .ok (.arraylength, 1))
    (kk : W p l e R s m args below meth c H locs cells slots Q (F0 m (pc + 1) ls (.int v :: rest))) : W p l e R s m args below meth c H locs cells slots Q (F0 m pc ls (.ref (gR G a) :: rest)) := by
  obtain ⟨⟨hx, hb, hml, hown, hts⟩, hlk, hK⟩ := C
  have hc := cl_at (G := G) (S := S) (kd_lt hk (by omega))
  rw [cE_21 hk] at hc
  exact va_alen hx hb hK.1 hd.1 a 1 hc (ty := .byte) rfl hv hdg kk
theorem fd_get {k ci j t : Nat} {r : Nat → Int32} (hk : kd k = ci) (hs : (slL.getD ci [])[j]? = some t) : (flds G k r)[j]? = some (fd G k r j t) := by
  unfold flds
  rw [hk, List.getElem?_mapIdx, hs]
  rfl
theorem R_get {ci j t index : Nat} {C0 ref : String} {T : u_T} {N : Nat} {v : Value} (C : Cx p s m args meth c cc nL own G) (hd : Dy G S s H locs) {a : Nat} (hin : ∀ w ∈ u_ws C0 T N, w ∈ gt) (hcl : vwCl[ci]? = some (C0, T, N)) (hci : ci < 20) (hj : j < N) (hs : (slL.getD ci [])[j]? = some t) (hlink : Cond.fieldLink own index ref (T j).2.1 (T j).2.2.1 ∈ gt) (href : (T j).1 = ref) (hk : kd a = ci) (hv : fd G a (S a) j t = v) (hdg : decode cc pc = .ok (.getfield index, 3))
    (kk : W p l e R s m args below meth c H locs cells slots Q (F0 m (pc + 3) ls (v :: rest))) : W p l e R s m args below meth c H locs cells slots Q (F0 m pc ls (.ref (gR G a) :: rest)) := by
  obtain ⟨⟨hx, hb, hml, hown, hts⟩, hlk, hK⟩ := C
  have hc := cl_at (G := G) (S := S) (kd_lt hk (by omega))
  rw [cE_o hk hci] at hc
  subst href
  exact va_get hx hb hts hin hown hK.1 hd.1 a hc hcl j hj (hts _ hlink) (fun _ h9 => h9) (by rw [fd_get hk hs, hv]) hdg kk
theorem flds_set {k ci j t : Nat} {r r' : Nat → Int32} {v : Value} (hk : kd k = ci) (hs : (slL.getD ci [])[j]? = some t) (hv : fd G k r' j t = v) (hr : ∀ i, i ≠ j → r' i = r i) : (flds G k r).set j v = flds G k r' := by
  unfold flds
  rw [hk]
  generalize slL.getD ci [] = L at hs ⊢
  have hjl : j < L.length := (List.getElem?_eq_some_iff.mp hs).1
  apply List.ext_getElem?
  intro i
  by_cases e : j = i
  · subst e
    rw [List.getElem?_set_self (by rw [List.length_mapIdx]; exact hjl), List.getElem?_mapIdx, hs]
    exact congrArg some hv.symm
  · rw [List.getElem?_set_ne e, List.getElem?_mapIdx, List.getElem?_mapIdx]
    refine congrArg (fun g => Option.map g L[i]?) (funext fun t2 => ?_)
    unfold fd
    rw [hr i (Ne.symm e)]
theorem flds_len {k ci : Nat} {r : Nat → Int32} (hk : kd k = ci) : (flds G k r).length = (slL.getD ci []).length := by unfold flds; rw [hk, List.length_mapIdx]
theorem R_put {ci j t index : Nat} {C0 ref : String} {T : u_T} {N : Nat} {v : Value} {x : Int32} {ty : FieldType} (C : Cx p s m args meth c cc nL own G) (hd : Dy G S s H locs) {a : Nat} (hin : ∀ w ∈ u_ws C0 T N, w ∈ gt) (tyf : Nat → FieldType) (hty : ∀ k, k < N → parseFieldDescriptor (T k).2.2.1 = some (tyf k)) (hnm : ∀ a, a < N → ∀ b, b < N → a ≠ b → (T a).2.1 ≠ (T b).2.1) (hcl : vwCl[ci]? = some (C0, T, N)) (hci : ci < 20) (hj : j < N) (hs : (slL.getD ci [])[j]? = some t) (hlink : Cond.fieldLink own index ref (T j).2.1 (T j).2.2.1 ∈ gt) (href : (T j).1 = ref) (hfin : (T j).2.2.2 = false) (hpd : parseFieldDescriptor (T j).2.2.1 = some ty) (hn : narrow ty v = v) (hfit : fits ty v = true) (hk : kd a = ci) (hv : fd G a (upd (S a) j x) j t = v) (hdg : decode cc pc = .ok (.putfield index, 3))
    (kk : ∀ (H1 : Heap) (locs1 : List Loc), Dy G (up S a j x) s H1 locs1 → W p l e R s m args below meth c H1 locs1 cells slots Q (F0 m (pc + 3) ls rest)) : W p l e R s m args below meth c H locs cells slots Q (F0 m pc ls (v :: .ref (gR G a) :: rest)) := by
  obtain ⟨⟨hx, hb, hml, hown, hts⟩, hlk, hK⟩ := C
  have hc := cl_at (G := G) (S := S) (kd_lt hk (by omega))
  rw [cE_o hk hci] at hc
  subst href
  refine va_put hx hb hts hin tyf hty hnm hown hK.1 hd.1 (cl_D hK S) hd.2 a hc hcl j hj (hts _ hlink) (fun _ h9 => h9) hfin hpd hn hfit (by rw [flds_len hk]; exact (List.getElem?_eq_some_iff.mp hs).1) hdg (fun H1 locs1 hP1 _ hS1 => kk H1 locs1 (Dy.wr (r := upd (S a) j x) (kd_lt hk (by omega)) ?_ hP1 hS1))
  rw [cE_o hk hci, flds_set hk hs hv (fun i hi => by unfold upd; rw [if_neg hi])]
theorem R_iret {res : Int32 × St} {v : Int32} (C : Cx p s m args meth c cc nL own G) (hr : meth.sig.returnType = some .int) (hd : Dy G S s H locs) (h : ri v S = some res) (hdg : decode cc pc = .ok (.ireturn, 1)) : W p l e R s m args below meth c H locs cells slots (MQ below (QI G res.1 res.2) args s cells slots (Ab G)) (F0 m pc ls [.int v]) := by
  obtain ⟨⟨hx, hb, hml, hown, hts⟩, hlk, hK⟩ := C
  cases h
  exact W.iret (v := v) hx hb hr (fun t ht hW => ⟨⟨v, (), rfl, rfl, by show va_P _ _ _ t.heap; rw [ht]; exact hd.1⟩, hd.2.F ht⟩) hd.2.2.2 hdg
theorem R_zret {res : Int32 × St} {v : Int32} (C : Cx p s m args meth c cc nL own G) (hr : meth.sig.returnType = some .boolean) (hd : Dy G S s H locs) (h : rz v S = some res) (hdg : decode cc pc = .ok (.ireturn, 1)) : W p l e R s m args below meth c H locs cells slots (MQ below (QI G res.1 res.2) args s cells slots (Ab G)) (F0 m pc ls [.int v]) := by
  obtain ⟨⟨hx, hb, hml, hown, hts⟩, hlk, hK⟩ := C
  unfold rz at h
  split at h
  · rename_i hz
    cases h
    refine W.zret (v := v) hx hb hr ?_ (fun t ht hW => ⟨⟨v, (), rfl, rfl, by show va_P _ _ _ t.heap; rw [ht]; exact hd.1⟩, hd.2.F ht⟩) hd.2.2.2 hdg
    rcases hz with rfl | rfl <;> rfl
  · cases h
theorem R_vret {res : St} (C : Cx p s m args meth c cc nL own G) (hr : meth.sig.returnType = none) (hd : Dy G S s H locs) (h : some S = some res) (hdg : decode cc pc = .ok (.return_, 1)) : W p l e R s m args below meth c H locs cells slots (MQ below (QV G res) args s cells slots (Ab G)) (F0 m pc ls []) := by
  obtain ⟨⟨hx, hb, hml, hown, hts⟩, hlk, hK⟩ := C
  cases h
  exact W.vret hx hb hr (fun t ht hW => ⟨⟨(), rfl, trivial, by show va_P _ _ _ t.heap; rw [ht]; exact hd.1⟩, hd.2.F ht⟩) hd.2.2.2 hdg
theorem Cx.pre (C : Cx p s m args meth c cc nL own G) (hd : Dy G S s H locs) {vs : List Value} : ∀ U : State, U.heap = H → s.WarmedH U.vm → PcW G S vs vs.toArray U := fun U hU hW => ⟨rfl, by rw [hU]; exact C.2.2.go hW hd.2.2.1, by rw [hU]; exact hd.1⟩
theorem Cx.recv (C : Cx p s m args meth c cc nL own G) (hd : Dy G S s H locs) {a ci : Nat} {q : vw_C} (hk : kd a = ci) (hci : ci < 20) (hcl : vwCl[ci]? = some q) : ∃ cell : Cell, H[gR G a]? = some cell ∧ cell.vm.isStatics = false ∧ s.vm.findClass q.1 = some cell.cls := by
  have hc := cl_at (G := G) (S := S) (kd_lt hk (by omega))
  rw [cE_o hk hci] at hc
  exact va_recv C.2.2.1 hd.1 hcl hc
theorem wsV_gt {idx : Nat} {C0 : String} {y : MethodName} {b : ByteArray} {n : Nat} {r : Option FieldType} (h1 : Cond.methodLink own idx y ∈ gt) (h2 : Cond.instanceMethod y ∈ gt) (h3 : Cond.selects C0 y y ∈ gt) (h4 : Cond.initialized C0 ∈ gt) (h5 : Cond.code y b n r ∈ gt) : GoodIn gt (wsV own idx C0 y (wm y b n r)) := gt_in (by
  intro w hw
  simp only [wsV, wm, List.mem_append, List.mem_cons, List.not_mem_nil, or_false] at hw
  rcases hw with (rfl | rfl | rfl | rfl) | (rfl | hw)
  · exact h1
  · exact h2
  · exact h3
  · exact h4
  · exact h5
  · exact hw)
theorem wsS_gt {idx : Nat} {y : MethodName} {b : ByteArray} {n : Nat} {r : Option FieldType} (h1 : Cond.methodLink own idx y ∈ gt) (h2 : Cond.static y ∈ gt) (h4 : Cond.initialized y.cls ∈ gt) (h5 : Cond.code y b n r ∈ gt) : GoodIn gt (va_wsS own idx y (wm y b n r)) := gt_in (by
  intro w hw
  simp only [va_wsS, wm, List.mem_append, List.mem_cons, List.not_mem_nil, or_false] at hw
  rcases hw with (rfl | rfl | rfl) | (rfl | hw)
  · exact h1
  · exact h2
  · exact h4
  · exact h5
  · exact hw)
end RW

