/-! what the Statement gives at the law's entry -/
def c_gn : Cond := Jvm.Cond.and given_1 narrow_1
def sF : List (String × Nat) := [("SongFields", 80), ("SongFields$Teller", 52), ("SongFields$Teller", 61), ("SongFields$Teller", 66), ("SongFields$Teller", 71), ("SongFields$Teller", 76), ("SongFields$Teller", 81), ("SongFields$Phrase", 72), ("SongFields$Phrase", 92), ("SongFields$Phrase", 94), ("SongFields$Phrase", 96), ("SongFields$Phrase", 100), ("SongFields$Phrase", 104), ("SongFields$Phrase", 106), ("SongFields$Phrase", 108), ("SongFields$Phrase", 121), ("SongFields$Phrase", 123), ("SongFields$Teller", 90), ("SongFields", 126), ("SongFields", 313), ("SongFields", 149), ("SongFields", 155), ("SongFields", 315), ("SongFields", 176), ("SongFields", 178), ("SongFields", 319), ("SongFields", 317), ("SongFields", 248), ("SongFields", 283)]
def sPos : List Nat := [35, 69, 78, 86, 96, 105, 113, 122, 129, 138, 146, 164, 183, 192, 201, 212, 218, 225, 234, 251, 268, 296, 312, 330, 359, 385, 406, 422, 442]
def sWp : List Nat := [561, 613, 691, 704, 709, 718, 723, 755, 765, 766, 767, 768, 769, 770, 771, 772, 773, 793, 794, 796, 823, 841, 854, 862, 874, 880, 888, 936, 970, 1053, 1130, 1172, 1173, 1174, 1175, 1176, 1177, 1178, 1179, 1180, 1419, 1426, 1447, 1480, 1481, 1490, 1507, 1515]
def sWe : List Nat := [0, 0, 0, 0, 0, 0, 0, 0, 0, 0, 0, 163, 0, 182, 0, 0, 0, 0, 0, 0, 0, 0, 0, 0, 0, 0, 0, 0, 0, 0, 0, 486, 497, 508, 519, 529, 537, 547, 557, 569, 579, 589, 597, 605, 612, 621, 631, 640]
def tmS (i : Nat) : Term := .string (sF.getD i ("", 0)).1 (sF.getD i ("", 0)).2
def vlS (i : Nat) : Term := .field (tmS i) "java/lang/String" "value" "[B"
def z4S (i : Nat) : List Cond := [.exactly (tmS i) "java/lang/String", .eq (.field (tmS i) "java/lang/String" "coder" "B") (.int 0), .arrayOf (vlS i) .byte, .eq (.length (vlS i)) (.int (Int32.ofNat (sLen.getD i 0)))]
def zeS (i j : Nat) : Cond := .eq (.elem (vlS i) (.int (Int32.ofNat j))) (.int ((sByt.getD i []).getD j 0))
def zS (i : Nat) : List Cond := z4S i ++ (List.range (sLen.getD i 0)).map (zeS i)
def sW0 : String × Nat × String × Nat := ("", 0, "", 0)
set_option maxRecDepth 100000 in
theorem fl_S : ∀ i, i < NS → ((flatC c_gn).drop (sPos.getD i 0)).take (4 + sLen.getD i 0) = zS i := by decide +kernel
set_option maxRecDepth 100000 in
theorem fl_W : ∀ i, i < 48 → tables_1[sWp.getD i 0]? = some (Cond.stringRef (sW.getD i sW0).1 (sW.getD i sW0).2.1 (sW.getD i sW0).2.2.1) := by decide +kernel
set_option maxRecDepth 100000 in
theorem fl_E : ∀ i, i < 48 → (sW.getD i sW0).2.2.2 < NS ∧ (tmS (sW.getD i sW0).2.2.2 = .string (sW.getD i sW0).1 (sW.getD i sW0).2.1 ∨ (flatC c_gn)[sWe.getD i 0]? = some (Cond.eq (tmS (sW.getD i sW0).2.2.2) (.string (sW.getD i sW0).1 (sW.getD i sW0).2.1))) := by decide +kernel
theorem sW_len : sW.length = 48 := by decide +kernel
theorem sL_lt : ∀ i, i < NS → sLen.getD i 0 < 2 ^ 31 := by decide +kernel
theorem q_us : (.isRef (.static Bundle.tN "UNASSIGNED_STACK" Bundle.steD) : Cond) ∈ flatC c_gn := List.mem_of_getElem? (i := 4) (by decide +kernel)
theorem q_ss : (.isRef (.static Bundle.tN "SUPPRESSED_SENTINEL" Bundle.listD) : Cond) ∈ flatC c_gn := List.mem_of_getElem? (i := 5) (by decide +kernel)
theorem q_cs : (.eq (.static "java/lang/String" "COMPACT_STRINGS" "Z") (.int 1) : Cond) ∈ flatC c_gn := List.mem_of_getElem? (i := 6) (by decide +kernel)
theorem q_sf : (.isRef (.static "jdk/internal/util/Preconditions" "SIOOBE_FORMATTER" "Ljava/util/function/BiFunction;") : Cond) ∈ flatC c_gn := List.mem_of_getElem? (i := 7) (by decide +kernel)
theorem q_nc : (.not (.castable nIA nNS) : Cond) ∈ flatC c_gn := List.mem_of_getElem? (i := 34) (by decide +kernel)
theorem lw_t {w : Cond} (i : Nat) (h : tables_1[i]? = some w) : w ∈ lw_tbl := List.mem_append_right _ (List.mem_of_getElem? h)
theorem t_us : (.laysStatic Bundle.tN "UNASSIGNED_STACK" Bundle.steD : Cond) ∈ lw_tbl := lw_t 548 (by decide +kernel)
theorem t_ss : (.laysStatic Bundle.tN "SUPPRESSED_SENTINEL" Bundle.listD : Cond) ∈ lw_tbl := lw_t 550 (by decide +kernel)
theorem t_cs : (.laysStatic "java/lang/String" "COMPACT_STRINGS" "Z" : Cond) ∈ lw_tbl := lw_t 627 (by decide +kernel)
theorem t_sf : (.laysStatic "jdk/internal/util/Preconditions" "SIOOBE_FORMATTER" "Ljava/util/function/BiFunction;" : Cond) ∈ lw_tbl := lw_t 643 (by decide +kernel)
theorem t_iT : (.initialized Bundle.tN : Cond) ∈ lw_tbl := lw_t 12 (by decide +kernel)
theorem t_iS : (.initialized "java/lang/String" : Cond) ∈ lw_tbl := lw_t 18 (by decide +kernel)
theorem t_iP : (.initialized "jdk/internal/util/Preconditions" : Cond) ∈ lw_tbl := lw_t 20 (by decide +kernel)
theorem t_x0 : (.castable nNS nNS : Cond) ∈ lw_tbl := lw_t 816 (by decide +kernel)
theorem t_x1 : (.castable nIA nIA : Cond) ∈ lw_tbl := lw_t 523 (by decide +kernel)
theorem t_x2 : (.declares (Bundle.initS "java/lang/RuntimeException") : Cond) ∈ lw_tbl := lw_t 525 (by decide +kernel)
theorem t_x3 : (.declares (Bundle.initS "java/lang/Exception") : Cond) ∈ lw_tbl := lw_t 527 (by decide +kernel)
theorem t_x4 : (.declares (Bundle.initS Bundle.tN) : Cond) ∈ lw_tbl := lw_t 529 (by decide +kernel)
theorem t_aI : (.arrayClass .int : Cond) ∈ lw_tbl := lw_t 65 (by decide +kernel)
theorem t_aB : (.arrayClass .byte : Cond) ∈ lw_tbl := lw_t 64 (by decide +kernel)
theorem t_aJ : (.arrayClass .long : Cond) ∈ lw_tbl := lw_t 1813 (by decide +kernel)
theorem t_oI : (.arrayOver (.array .int) : Cond) ∈ lw_tbl := lw_t 239 (by decide +kernel)
theorem t_oS : (.arrayOver (.object "java/lang/String") : Cond) ∈ lw_tbl := lw_t 1171 (by decide +kernel)
theorem t_n4 : (.methodLinkNest RX9 34 yX4_init RX9 : Cond) ∈ lw_tbl := lw_t 234 (by decide +kernel)
theorem t_n5 : (.methodLinkNest RX9 62 yX5_init RX9 : Cond) ∈ lw_tbl := lw_t 339 (by decide +kernel)
section WG
variable {args : Array Value} {s : State}
theorem arr_of {ty : FieldType} (h : (Cond.arrayClass ty).before args s = true) : ∃ cA : ClassId, ArrOfT s cA ty ∧ s.vm.findClass ("[" ++ ty.toString) = some cA := by
  obtain ⟨c, k, comp, hc, hk, hkind⟩ := Cond.arrayClass_spec h
  exact ⟨c, fun N z => ⟨(fun k h => by cases h), k, hk, comp, hkind⟩, hc⟩
theorem arr_oI (h : (Cond.arrayOver (.array .int)).before args s = true) : ∃ cA : ClassId, ArrOfT s cA (.array .int) ∧ s.vm.findClass ("[" ++ (FieldType.array .int).toString) = some cA := by
  unfold Cond.before at h
  obtain ⟨comp, c, k, h1, h2, h3, h4, h5⟩ := Jvm.Stand.arrayOver_specB h
  exact ⟨c, fun N z => ⟨(fun k h => by cases h), k, h3, comp, h4⟩, h5⟩
theorem arr_oS (h : (Cond.arrayOver (.object "java/lang/String")).before args s = true) : ∃ cA : ClassId, ArrOfT s cA (.object "java/lang/String") ∧ va_RA s cA (.object "java/lang/String") := by
  obtain ⟨comp, c, k, h1, h2, h3, h4, h5⟩ := Cond.arrayOver_spec h
  exact ⟨c, fun N z => ⟨(fun k h => by cases h), k, h3, comp, h4⟩, k, comp, h3, h4, h1, h5⟩
theorem str_of {A : Nat → Prop} (hgv : c_gn.before args s = true) (hA : ∀ a : Nat, a < s.heap.size → ¬ A a) : ∃ adK adV : Nat → Nat, ∀ i : Nat, i < NS → (tmS i).eval args s none [] s = some (.ref (adK i)) ∧ va_O "java/lang/String" (adK i) A s s.heap ∧ va_OF "java/lang/String" "coder" "B" (.int 0) (adK i) A s s.heap ∧ va_OF "java/lang/String" "value" "[B" (.ref (adV i)) (adK i) A s s.heap ∧ va_T .byte (adV i) (sLen.getD i 0) (fun j => .int ((sByt.getD i []).getD j 0)) A s s.heap := by
  have hs := flat_of_before _ hgv
  have hw : ∀ i, i < NS → ∀ w ∈ zS i, w.before args s = true := fun i hi w h => by
    rw [← fl_S i hi] at h
    exact hs w (List.mem_of_mem_drop (List.mem_of_mem_take h))
  have h0 : ∀ i : Nat, ∃ q : Nat × Nat, i < NS → (tmS i).eval args s none [] s = some (.ref q.1) ∧ va_O "java/lang/String" q.1 A s s.heap ∧ va_OF "java/lang/String" "coder" "B" (.int 0) q.1 A s s.heap ∧ va_OF "java/lang/String" "value" "[B" (.ref q.2) q.1 A s s.heap ∧ va_T .byte q.2 (sLen.getD i 0) (fun j => .int ((sByt.getD i []).getD j 0)) A s s.heap := by
    intro i
    by_cases hi : i < NS
    · have hx : (Cond.exactly (tmS i) "java/lang/String").before args s = true := hw i hi _ (List.mem_append_left _ List.mem_cons_self)
      have hco : (Cond.eq (.field (tmS i) "java/lang/String" "coder" "B") (.int 0)).before args s = true := hw i hi _ (List.mem_append_left _ (List.mem_cons_of_mem _ List.mem_cons_self))
      have har : (Cond.arrayOf (.field (tmS i) "java/lang/String" "value" "[B") .byte).before args s = true := hw i hi _ (List.mem_append_left _ (List.mem_cons_of_mem _ (List.mem_cons_of_mem _ List.mem_cons_self)))
      have hle : (Cond.eq (.length (.field (tmS i) "java/lang/String" "value" "[B")) (.int (Int32.ofNat (sLen.getD i 0)))).before args s = true := hw i hi _ (List.mem_append_left _ (List.mem_cons_of_mem _ (List.mem_cons_of_mem _ (List.mem_cons_of_mem _ List.mem_cons_self))))
      have hel : ∀ j : Nat, j < sLen.getD i 0 → (Cond.eq (.elem (.field (tmS i) "java/lang/String" "value" "[B") (.int (Int32.ofNat j))) (.int ((sByt.getD i []).getD j 0))).before args s = true := fun j hj => hw i hi _ (List.mem_append_right _ (List.mem_map.mpr ⟨j, List.mem_range.mpr hj, rfl⟩))
      obtain ⟨a, c, cA, kA, q1, q2, q3, q4, q5, q6, -⟩ := Cond.exactly_spec (args := args) (first := s) (o := none) (s := s) (idx := []) (t := tmS i) (cls := "java/lang/String") hx
      obtain ⟨t, ht, hT⟩ := va_Tof (f := fun j => .int ((sByt.getD i []).getD j 0)) (A := A) (sL_lt i hi) har (va_eqt hle) (fun j hj => va_eqt (hel j hj)) hA
      exact ⟨(a, t), fun _ => ⟨q1, ⟨cA, q3, q5, by rw [q6]; exact q2, hA a (Array.getElem?_eq_some_iff.mp q3).1⟩, vk_OFof q1 (va_eqt hco) hA, vk_OFof q1 ht hA, hT⟩⟩
    · exact ⟨(0, 0), fun h => absurd h hi⟩
  obtain ⟨ad, had⟩ := Classical.axiomOfChoice h0
  exact ⟨fun i => (ad i).1, fun i => (ad i).2, fun i hi => had i hi⟩
theorem ref_of {adK : Nat → Nat} (hts : ∀ w ∈ lw_tbl, w.before args s = true) (hgv : c_gn.before args s = true) (had : ∀ i : Nat, i < NS → (tmS i).eval args s none [] s = some (.ref (adK i))) : ∀ q ∈ sW, vk_R q.1 q.2.1 q.2.2.1 (adK q.2.2.2) s := by
  intro q hq
  obtain ⟨i, hi, rfl⟩ := List.getElem_of_mem hq
  have h48 : i < 48 := by rw [← sW_len]; exact hi
  have e : sW.getD i sW0 = sW[i] := by rw [List.getD_eq_getElem?_getD, List.getElem?_eq_getElem hi]; rfl
  have h1 := fl_W i h48
  have h2 := fl_E i h48
  rw [e] at h1 h2
  refine vk_R.of (hts _ (lw_t _ h1)) ?_
  rcases h2 with ⟨hn, h2 | h2⟩
  · have h3 := had _ hn
    rw [h2] at h3
    exact h3
  · exact va_eqR (flat_of_before _ hgv _ (List.mem_of_getElem? h2)) (had _ hn)
theorem known_of (hg : ∀ w ∈ gt, w.before args s = true) : ∀ c : Nat, ∃ q : ClassId × (Nat → Nat), ∀ r : vw_C, vwCl[c]? = some r → u_Kn s r.1 r.2.1 r.2.2 q.1 q.2
  | 0 => by
    obtain ⟨a, b, h⟩ := u_known (C := RX0) (T := TX0) (N := 7) hg uX0 (hg _ wd278)
    exact ⟨(a, b), fun r hr => by cases hr; exact h⟩
  | 1 => by
    obtain ⟨a, b, h⟩ := u_known (C := RX1) (T := TX1) (N := 6) hg uX1 (hg _ wd310)
    exact ⟨(a, b), fun r hr => by cases hr; exact h⟩
  | 2 => by
    obtain ⟨a, b, h⟩ := u_known (C := RX2) (T := TX2) (N := 7) hg uX2 (hg _ wd188)
    exact ⟨(a, b), fun r hr => by cases hr; exact h⟩
  | 3 => by
    obtain ⟨a, b, h⟩ := u_known (C := RX3) (T := TX3) (N := 5) hg uX3 (hg _ wd40)
    exact ⟨(a, b), fun r hr => by cases hr; exact h⟩
  | 4 => by
    obtain ⟨a, b, h⟩ := u_known (C := RX4) (T := TX4) (N := 9) hg uX4 (hg _ wd233)
    exact ⟨(a, b), fun r hr => by cases hr; exact h⟩
  | 5 => by
    obtain ⟨a, b, h⟩ := u_known (C := RX5) (T := TX5) (N := 1) hg uX5 (hg _ wd338)
    exact ⟨(a, b), fun r hr => by cases hr; exact h⟩
  | 6 => by
    obtain ⟨a, b, h⟩ := u_known (C := RX6) (T := TX6) (N := 5) hg uX6 (hg _ wd152)
    exact ⟨(a, b), fun r hr => by cases hr; exact h⟩
  | 7 => by
    obtain ⟨a, b, h⟩ := u_known (C := RX7) (T := TX7) (N := 6) hg uX7 (hg _ wd158)
    exact ⟨(a, b), fun r hr => by cases hr; exact h⟩
  | 8 => by
    obtain ⟨a, b, h⟩ := u_known (C := RX8) (T := TX8) (N := 14) hg uX8 (hg _ wd34)
    exact ⟨(a, b), fun r hr => by cases hr; exact h⟩
  | 9 => by
    obtain ⟨a, b, h⟩ := u_known (C := RX9) (T := TX9) (N := 12) hg uX9 (hg _ wd26)
    exact ⟨(a, b), fun r hr => by cases hr; exact h⟩
  | 10 => by
    obtain ⟨a, b, h⟩ := u_known (C := RX10) (T := TX10) (N := 66) hg uX10 (hg _ wd1165)
    exact ⟨(a, b), fun r hr => by cases hr; exact h⟩
  | k + 11 => ⟨(0, fun _ => 0), fun r hr => by
    rw [List.getElem?_eq_none (show 11 ≤ k + 11 by omega)] at hr
    cases hr⟩
theorem whole_G (hts : ∀ w ∈ lw_tbl, w.before args s = true) (hgv : (Jvm.Cond.and given_1 narrow_1).before args s = true) : ∃ G : Gt, gB G = s.heap.size ∧ Ks G s s.heap ∧ Kd G s := by
  have hgn : c_gn.before args s = true := hgv
  have hs := flat_of_before _ hgn
  have hg : ∀ w ∈ gt, w.before args s = true := fun w hw => hts w (List.mem_filter.mp hw).1
  have hA : ∀ a : Nat, a < s.heap.size → ¬ (fun q : Nat => s.heap.size ≤ q) a := fun a h => Nat.not_le.mpr h
  obtain ⟨d, hd⟩ := Classical.axiomOfChoice (known_of (args := args) (s := s) hg)
  obtain ⟨c0, a0, n0⟩ := arr_of (hts _ t_aI)
  obtain ⟨c1, a1, n1⟩ := arr_of (hts _ t_aB)
  obtain ⟨c2, a2, n2⟩ := arr_oI (hts _ t_oI)
  obtain ⟨c3, a3, n3⟩ := arr_oS (hts _ t_oS)
  obtain ⟨c4, a4, n4⟩ := arr_of (hts _ t_aJ)
  obtain ⟨adK, adV, had⟩ := str_of (A := fun q : Nat => s.heap.size ≤ q) hgn hA
  have hR := ref_of hts hgn (fun i hi => (had i hi).1)
  refine ⟨(s.heap.size, (fun c => (d c).1, fun c => (d c).2), fun k => if k = 0 then c0 else if k = 1 then c1 else if k = 2 then c2 else if k = 3 then c3 else c4, fun k => s.heap.size + k, adK, adV), rfl, ⟨⟨fun c q hq => hd c q hq, ?_⟩, fun i hi => (had i hi).2, hR, va_Zof (hts _ t_cs) (hts _ t_iS) (va_eqi (hs _ q_cs)) hA, vx_Zqof (hts _ t_us) (hts _ t_iT) (hs _ q_us) hA, vx_Zqof (hts _ t_ss) (hts _ t_iT) (hs _ q_ss) hA, va_Zqof (hts _ t_sf) (hts _ t_iP) (hs _ q_sf) hA, ?_, va_Nc.of (hs _ q_nc), ?_, ?_⟩, ⟨?_, n0, n1, n4⟩, ?_, va_AO.of (hts _ t_oS), va_Nw.of rfl (hts _ t_n4), va_Nw.of rfl (hts _ t_n5)⟩
  · intro k q hq
    match k, hq with
    | 0, hq => cases hq; exact ⟨a0, n0⟩
    | 1, hq => cases hq; exact ⟨a1, n1⟩
    | 2, hq => cases hq; exact ⟨a2, n2⟩
    | 3, hq => cases hq; exact ⟨a3, n3⟩
    | 4, hq => cases hq; exact ⟨a4, n4⟩
    | k + 5, hq =>
      rw [List.getElem?_eq_none (show 5 ≤ k + 5 by omega)] at hq
      cases hq
  · intro w hw
    have hm : w ∈ lw_tbl ∧ w.onTables = true := by
      unfold xN at hw
      simp only [List.mem_cons, List.not_mem_nil, or_false] at hw
      rcases hw with rfl | rfl | rfl | rfl | rfl
      · exact ⟨t_x0, rfl⟩
      · exact ⟨t_x1, rfl⟩
      · exact ⟨t_x2, rfl⟩
      · exact ⟨t_x3, rfl⟩
      · exact ⟨t_x4, rfl⟩
    exact va_Nw.of hm.2 (hts w hm.1)
  · intro i j _ _ h
    have h2 : s.heap.size + i = s.heap.size + j := h
    omega
  · intro k _
    show s.heap.size ≤ s.heap.size + k
    omega
  · intro k
    rfl
  · exact AI.use (hts _ t_oI)
end WG
