section LK
variable {p : Program} {l : Launch} {e : Env} {R : Room} {s : State} {m : MethodId} {args : Array Value} {below : List Frame} {meth : Method} {c : Code} {H : Heap} {locs : List Loc} {cells slots : Nat} {Q : State → Prop}
variable {cc : ByteArray} {pc nL : Nat} {ls : Array Slot} {rest : List Value} {G : Gt} {S : St}
theorem kr0_1 : ∀ a, a < NC → kd a = 0 → kd (sr a 1) = 20 := by decide +kernel
theorem gX0_9 (C : Cx p s m args meth c cc nL RX0 G) (hd : Dy G S s H locs) {a : Nat} (hk : kd a = 0) {q : Nat} (hq : sr a 1 = q) (hdg : decode cc pc = .ok (.getfield 9, 3)) (kk : kd q = 20 → W p l e R s m args below meth c H locs cells slots Q (F0 m (pc + 3) ls (.ref (gR G q) :: rest))) : W p l e R s m args below meth c H locs cells slots Q (F0 m pc ls (.ref (gR G a) :: rest)) := by
  subst hq
  exact R_get (ci := 0) (j := 1) (t := 1) C hd uX0 rfl (by decide) (by decide) rfl wd284 rfl hk rfl hdg (kk (kr0_1 a (kd_lt hk (by decide)) hk))
theorem kr0_2 : ∀ a, a < NC → kd a = 0 → kd (sr a 2) = 20 := by decide +kernel
theorem gX0_15 (C : Cx p s m args meth c cc nL RX0 G) (hd : Dy G S s H locs) {a : Nat} (hk : kd a = 0) {q : Nat} (hq : sr a 2 = q) (hdg : decode cc pc = .ok (.getfield 15, 3)) (kk : kd q = 20 → W p l e R s m args below meth c H locs cells slots Q (F0 m (pc + 3) ls (.ref (gR G q) :: rest))) : W p l e R s m args below meth c H locs cells slots Q (F0 m pc ls (.ref (gR G a) :: rest)) := by
  subst hq
  exact R_get (ci := 0) (j := 2) (t := 1) C hd uX0 rfl (by decide) (by decide) rfl wd287 rfl hk rfl hdg (kk (kr0_2 a (kd_lt hk (by decide)) hk))
theorem kr0_3 : ∀ a, a < NC → kd a = 0 → kd (sr a 3) = 20 := by decide +kernel
theorem gX0_18 (C : Cx p s m args meth c cc nL RX0 G) (hd : Dy G S s H locs) {a : Nat} (hk : kd a = 0) {q : Nat} (hq : sr a 3 = q) (hdg : decode cc pc = .ok (.getfield 18, 3)) (kk : kd q = 20 → W p l e R s m args below meth c H locs cells slots Q (F0 m (pc + 3) ls (.ref (gR G q) :: rest))) : W p l e R s m args below meth c H locs cells slots Q (F0 m pc ls (.ref (gR G a) :: rest)) := by
  subst hq
  exact R_get (ci := 0) (j := 3) (t := 1) C hd uX0 rfl (by decide) (by decide) rfl wd288 rfl hk rfl hdg (kk (kr0_3 a (kd_lt hk (by decide)) hk))
theorem kr0_4 : ∀ a, a < NC → kd a = 0 → kd (sr a 4) = 20 := by decide +kernel
theorem gX0_21 (C : Cx p s m args meth c cc nL RX0 G) (hd : Dy G S s H locs) {a : Nat} (hk : kd a = 0) {q : Nat} (hq : sr a 4 = q) (hdg : decode cc pc = .ok (.getfield 21, 3)) (kk : kd q = 20 → W p l e R s m args below meth c H locs cells slots Q (F0 m (pc + 3) ls (.ref (gR G q) :: rest))) : W p l e R s m args below meth c H locs cells slots Q (F0 m pc ls (.ref (gR G a) :: rest)) := by
  subst hq
  exact R_get (ci := 0) (j := 4) (t := 1) C hd uX0 rfl (by decide) (by decide) rfl wd290 rfl hk rfl hdg (kk (kr0_4 a (kd_lt hk (by decide)) hk))
theorem kr0_5 : ∀ a, a < NC → kd a = 0 → kd (sr a 5) = 20 := by decide +kernel
theorem gX0_24 (C : Cx p s m args meth c cc nL RX0 G) (hd : Dy G S s H locs) {a : Nat} (hk : kd a = 0) {q : Nat} (hq : sr a 5 = q) (hdg : decode cc pc = .ok (.getfield 24, 3)) (kk : kd q = 20 → W p l e R s m args below meth c H locs cells slots Q (F0 m (pc + 3) ls (.ref (gR G q) :: rest))) : W p l e R s m args below meth c H locs cells slots Q (F0 m pc ls (.ref (gR G a) :: rest)) := by
  subst hq
  exact R_get (ci := 0) (j := 5) (t := 1) C hd uX0 rfl (by decide) (by decide) rfl wd292 rfl hk rfl hdg (kk (kr0_5 a (kd_lt hk (by decide)) hk))
theorem kr0_6 : ∀ a, a < NC → kd a = 0 → kd (sr a 6) = 20 := by decide +kernel
theorem gX0_27 (C : Cx p s m args meth c cc nL RX0 G) (hd : Dy G S s H locs) {a : Nat} (hk : kd a = 0) {q : Nat} (hq : sr a 6 = q) (hdg : decode cc pc = .ok (.getfield 27, 3)) (kk : kd q = 20 → W p l e R s m args below meth c H locs cells slots Q (F0 m (pc + 3) ls (.ref (gR G q) :: rest))) : W p l e R s m args below meth c H locs cells slots Q (F0 m pc ls (.ref (gR G a) :: rest)) := by
  subst hq
  exact R_get (ci := 0) (j := 6) (t := 1) C hd uX0 rfl (by decide) (by decide) rfl wd293 rfl hk rfl hdg (kk (kr0_6 a (kd_lt hk (by decide)) hk))
theorem gX0_30 (C : Cx p s m args meth c cc nL RX0 G) (hd : Dy G S s H locs) {a : Nat} (hk : kd a = 0) {β : Type} {k : Nat → Option β} {res : β} (h : gm S a 0 8 k = some res) (hdg : decode cc pc = .ok (.getfield 30, 3)) (kk : ∀ q : Nat, kd q = 8 → k q = some res → W p l e R s m args below meth c H locs cells slots Q (F0 m (pc + 3) ls (.ref (gR G q) :: rest))) : W p l e R s m args below meth c H locs cells slots Q (F0 m pc ls (.ref (gR G a) :: rest)) := by
  unfold gm at h
  split at h
  · rename_i hq
    exact R_get (ci := 0) (j := 0) (t := 2) C hd uX0 rfl (by decide) (by decide) rfl wd283 rfl hk rfl hdg (kk _ hq h)
  · cases h
theorem gX0_49 (C : Cx p s m args meth c cc nL RX0 G) (hd : Dy G S s H locs) {a : Nat} (hk : kd a = 8) (hdg : decode cc pc = .ok (.getfield 49, 3)) (kk : W p l e R s m args below meth c H locs cells slots Q (F0 m (pc + 3) ls (.int (S a 2) :: rest))) : W p l e R s m args below meth c H locs cells slots Q (F0 m pc ls (.ref (gR G a) :: rest)) := R_get (ci := 8) (j := 2) (t := 0) C hd uX8 rfl (by decide) (by decide) rfl wd77 rfl hk rfl hdg kk
theorem kr8_12 : ∀ a, a < NC → kd a = 8 → kd (sr a 12) = 3 := by decide +kernel
theorem gX0_70 (C : Cx p s m args meth c cc nL RX0 G) (hd : Dy G S s H locs) {a : Nat} (hk : kd a = 8) {q : Nat} (hq : sr a 12 = q) (hdg : decode cc pc = .ok (.getfield 70, 3)) (kk : kd q = 3 → W p l e R s m args below meth c H locs cells slots Q (F0 m (pc + 3) ls (.ref (gR G q) :: rest))) : W p l e R s m args below meth c H locs cells slots Q (F0 m pc ls (.ref (gR G a) :: rest)) := by
  subst hq
  exact R_get (ci := 8) (j := 12) (t := 1) C hd uX8 rfl (by decide) (by decide) rfl wd118 rfl hk rfl hdg (kk (kr8_12 a (kd_lt hk (by decide)) hk))
theorem gX0_74 (C : Cx p s m args meth c cc nL RX0 G) (hd : Dy G S s H locs) {a : Nat} (hk : kd a = 3) (hdg : decode cc pc = .ok (.getfield 74, 3)) (kk : W p l e R s m args below meth c H locs cells slots Q (F0 m (pc + 3) ls (.int (S a 0) :: rest))) : W p l e R s m args below meth c H locs cells slots Q (F0 m pc ls (.ref (gR G a) :: rest)) := R_get (ci := 3) (j := 0) (t := 0) C hd uX3 rfl (by decide) (by decide) rfl wd47 rfl hk rfl hdg kk
theorem gX0_80 (C : Cx p s m args meth c cc nL RX0 G) (hd : Dy G S s H locs) {a : Nat} (hk : kd a = 8) (hdg : decode cc pc = .ok (.getfield 80, 3)) (kk : W p l e R s m args below meth c H locs cells slots Q (F0 m (pc + 3) ls (.int (S a 0) :: rest))) : W p l e R s m args below meth c H locs cells slots Q (F0 m pc ls (.ref (gR G a) :: rest)) := R_get (ci := 8) (j := 0) (t := 0) C hd uX8 rfl (by decide) (by decide) rfl wd69 rfl hk rfl hdg kk
theorem kr8_6 : ∀ a, a < NC → kd a = 8 → kd (sr a 6) = 20 := by decide +kernel
theorem gX0_115 (C : Cx p s m args meth c cc nL RX0 G) (hd : Dy G S s H locs) {a : Nat} (hk : kd a = 8) {q : Nat} (hq : sr a 6 = q) (hdg : decode cc pc = .ok (.getfield 115, 3)) (kk : kd q = 20 → W p l e R s m args below meth c H locs cells slots Q (F0 m (pc + 3) ls (.ref (gR G q) :: rest))) : W p l e R s m args below meth c H locs cells slots Q (F0 m pc ls (.ref (gR G a) :: rest)) := by
  subst hq
  exact R_get (ci := 8) (j := 6) (t := 1) C hd uX8 rfl (by decide) (by decide) rfl wd97 rfl hk rfl hdg (kk (kr8_6 a (kd_lt hk (by decide)) hk))
theorem kr8_7 : ∀ a, a < NC → kd a = 8 → kd (sr a 7) = 20 := by decide +kernel
theorem gX0_118 (C : Cx p s m args meth c cc nL RX0 G) (hd : Dy G S s H locs) {a : Nat} (hk : kd a = 8) {q : Nat} (hq : sr a 7 = q) (hdg : decode cc pc = .ok (.getfield 118, 3)) (kk : kd q = 20 → W p l e R s m args below meth c H locs cells slots Q (F0 m (pc + 3) ls (.ref (gR G q) :: rest))) : W p l e R s m args below meth c H locs cells slots Q (F0 m pc ls (.ref (gR G a) :: rest)) := by
  subst hq
  exact R_get (ci := 8) (j := 7) (t := 1) C hd uX8 rfl (by decide) (by decide) rfl wd101 rfl hk rfl hdg (kk (kr8_7 a (kd_lt hk (by decide)) hk))
theorem kr8_13 : ∀ a, a < NC → kd a = 8 → kd (sr a 13) = 3 := by decide +kernel
theorem gX0_122 (C : Cx p s m args meth c cc nL RX0 G) (hd : Dy G S s H locs) {a : Nat} (hk : kd a = 8) {q : Nat} (hq : sr a 13 = q) (hdg : decode cc pc = .ok (.getfield 122, 3)) (kk : kd q = 3 → W p l e R s m args below meth c H locs cells slots Q (F0 m (pc + 3) ls (.ref (gR G q) :: rest))) : W p l e R s m args below meth c H locs cells slots Q (F0 m pc ls (.ref (gR G a) :: rest)) := by
  subst hq
  exact R_get (ci := 8) (j := 13) (t := 1) C hd uX8 rfl (by decide) (by decide) rfl wd121 rfl hk rfl hdg (kk (kr8_13 a (kd_lt hk (by decide)) hk))
theorem kr8_3 : ∀ a, a < NC → kd a = 8 → kd (sr a 3) = 20 := by decide +kernel
theorem gX0_125 (C : Cx p s m args meth c cc nL RX0 G) (hd : Dy G S s H locs) {a : Nat} (hk : kd a = 8) {q : Nat} (hq : sr a 3 = q) (hdg : decode cc pc = .ok (.getfield 125, 3)) (kk : kd q = 20 → W p l e R s m args below meth c H locs cells slots Q (F0 m (pc + 3) ls (.ref (gR G q) :: rest))) : W p l e R s m args below meth c H locs cells slots Q (F0 m pc ls (.ref (gR G a) :: rest)) := by
  subst hq
  exact R_get (ci := 8) (j := 3) (t := 1) C hd uX8 rfl (by decide) (by decide) rfl wd85 rfl hk rfl hdg (kk (kr8_3 a (kd_lt hk (by decide)) hk))
theorem kr8_4 : ∀ a, a < NC → kd a = 8 → kd (sr a 4) = 20 := by decide +kernel
theorem gX0_128 (C : Cx p s m args meth c cc nL RX0 G) (hd : Dy G S s H locs) {a : Nat} (hk : kd a = 8) {q : Nat} (hq : sr a 4 = q) (hdg : decode cc pc = .ok (.getfield 128, 3)) (kk : kd q = 20 → W p l e R s m args below meth c H locs cells slots Q (F0 m (pc + 3) ls (.ref (gR G q) :: rest))) : W p l e R s m args below meth c H locs cells slots Q (F0 m pc ls (.ref (gR G a) :: rest)) := by
  subst hq
  exact R_get (ci := 8) (j := 4) (t := 1) C hd uX8 rfl (by decide) (by decide) rfl wd90 rfl hk rfl hdg (kk (kr8_4 a (kd_lt hk (by decide)) hk))
theorem kr1_3 : ∀ a, a < NC → kd a = 1 → kd (sr a 3) = 20 := by decide +kernel
theorem gX1_9 (C : Cx p s m args meth c cc nL RX1 G) (hd : Dy G S s H locs) {a : Nat} (hk : kd a = 1) {q : Nat} (hq : sr a 3 = q) (hdg : decode cc pc = .ok (.getfield 9, 3)) (kk : kd q = 20 → W p l e R s m args below meth c H locs cells slots Q (F0 m (pc + 3) ls (.ref (gR G q) :: rest))) : W p l e R s m args below meth c H locs cells slots Q (F0 m pc ls (.ref (gR G a) :: rest)) := by
  subst hq
  exact R_get (ci := 1) (j := 3) (t := 1) C hd uX1 rfl (by decide) (by decide) rfl wd320 rfl hk rfl hdg (kk (kr1_3 a (kd_lt hk (by decide)) hk))
theorem kr1_4 : ∀ a, a < NC → kd a = 1 → kd (sr a 4) = 20 := by decide +kernel
theorem gX1_15 (C : Cx p s m args meth c cc nL RX1 G) (hd : Dy G S s H locs) {a : Nat} (hk : kd a = 1) {q : Nat} (hq : sr a 4 = q) (hdg : decode cc pc = .ok (.getfield 15, 3)) (kk : kd q = 20 → W p l e R s m args below meth c H locs cells slots Q (F0 m (pc + 3) ls (.ref (gR G q) :: rest))) : W p l e R s m args below meth c H locs cells slots Q (F0 m pc ls (.ref (gR G a) :: rest)) := by
  subst hq
  exact R_get (ci := 1) (j := 4) (t := 1) C hd uX1 rfl (by decide) (by decide) rfl wd322 rfl hk rfl hdg (kk (kr1_4 a (kd_lt hk (by decide)) hk))
theorem kr1_0 : ∀ a, a < NC → kd a = 1 → kd (sr a 0) = 0 := by decide +kernel
theorem gX1_18 (C : Cx p s m args meth c cc nL RX1 G) (hd : Dy G S s H locs) {a : Nat} (hk : kd a = 1) {q : Nat} (hq : sr a 0 = q) (hdg : decode cc pc = .ok (.getfield 18, 3)) (kk : kd q = 0 → W p l e R s m args below meth c H locs cells slots Q (F0 m (pc + 3) ls (.ref (gR G q) :: rest))) : W p l e R s m args below meth c H locs cells slots Q (F0 m pc ls (.ref (gR G a) :: rest)) := by
  subst hq
  exact R_get (ci := 1) (j := 0) (t := 1) C hd uX1 rfl (by decide) (by decide) rfl wd315 rfl hk rfl hdg (kk (kr1_0 a (kd_lt hk (by decide)) hk))
theorem gX1_22 (C : Cx p s m args meth c cc nL RX1 G) (hd : Dy G S s H locs) {a : Nat} (hk : kd a = 1) (hdg : decode cc pc = .ok (.getfield 22, 3)) (kk : W p l e R s m args below meth c H locs cells slots Q (F0 m (pc + 3) ls (.int (S a 1) :: rest))) : W p l e R s m args below meth c H locs cells slots Q (F0 m pc ls (.ref (gR G a) :: rest)) := R_get (ci := 1) (j := 1) (t := 0) C hd uX1 rfl (by decide) (by decide) rfl wd316 rfl hk rfl hdg kk
theorem gX1_26 (C : Cx p s m args meth c cc nL RX1 G) (hd : Dy G S s H locs) {a : Nat} (hk : kd a = 1) (hdg : decode cc pc = .ok (.getfield 26, 3)) (kk : W p l e R s m args below meth c H locs cells slots Q (F0 m (pc + 3) ls (.int (S a 2) :: rest))) : W p l e R s m args below meth c H locs cells slots Q (F0 m pc ls (.ref (gR G a) :: rest)) := R_get (ci := 1) (j := 2) (t := 0) C hd uX1 rfl (by decide) (by decide) rfl wd318 rfl hk rfl hdg kk
theorem gX1_29 (C : Cx p s m args meth c cc nL RX1 G) (hd : Dy G S s H locs) {a : Nat} (hk : kd a = 8) (hdg : decode cc pc = .ok (.getfield 29, 3)) (kk : W p l e R s m args below meth c H locs cells slots Q (F0 m (pc + 3) ls (.int (S a 0) :: rest))) : W p l e R s m args below meth c H locs cells slots Q (F0 m pc ls (.ref (gR G a) :: rest)) := R_get (ci := 8) (j := 0) (t := 0) C hd uX8 rfl (by decide) (by decide) rfl wd68 rfl hk rfl hdg kk
theorem gX1_34 (C : Cx p s m args meth c cc nL RX1 G) (hd : Dy G S s H locs) {a : Nat} (hk : kd a = 1) (hdg : decode cc pc = .ok (.getfield 34, 3)) (kk : W p l e R s m args below meth c H locs cells slots Q (F0 m (pc + 3) ls (.int (S a 5) :: rest))) : W p l e R s m args below meth c H locs cells slots Q (F0 m pc ls (.ref (gR G a) :: rest)) := R_get (ci := 1) (j := 5) (t := 0) C hd uX1 rfl (by decide) (by decide) rfl wd323 rfl hk rfl hdg kk
theorem gX1_41 (C : Cx p s m args meth c cc nL RX1 G) (hd : Dy G S s H locs) {a : Nat} (hk : kd a = 8) (hdg : decode cc pc = .ok (.getfield 41, 3)) (kk : W p l e R s m args below meth c H locs cells slots Q (F0 m (pc + 3) ls (.int (S a 2) :: rest))) : W p l e R s m args below meth c H locs cells slots Q (F0 m pc ls (.ref (gR G a) :: rest)) := R_get (ci := 8) (j := 2) (t := 0) C hd uX8 rfl (by decide) (by decide) rfl wd76 rfl hk rfl hdg kk
theorem kr8_8 : ∀ a, a < NC → kd a = 8 → kd (sr a 8) = 20 := by decide +kernel
theorem gX1_44 (C : Cx p s m args meth c cc nL RX1 G) (hd : Dy G S s H locs) {a : Nat} (hk : kd a = 8) {q : Nat} (hq : sr a 8 = q) (hdg : decode cc pc = .ok (.getfield 44, 3)) (kk : kd q = 20 → W p l e R s m args below meth c H locs cells slots Q (F0 m (pc + 3) ls (.ref (gR G q) :: rest))) : W p l e R s m args below meth c H locs cells slots Q (F0 m pc ls (.ref (gR G a) :: rest)) := by
  subst hq
  exact R_get (ci := 8) (j := 8) (t := 1) C hd uX8 rfl (by decide) (by decide) rfl wd104 rfl hk rfl hdg (kk (kr8_8 a (kd_lt hk (by decide)) hk))
theorem kr4_0 : ∀ a, a < NC → kd a = 4 → kd (sr a 0) = 20 := by decide +kernel
theorem gX1_47 (C : Cx p s m args meth c cc nL RX1 G) (hd : Dy G S s H locs) {a : Nat} (hk : kd a = 4) {q : Nat} (hq : sr a 0 = q) (hdg : decode cc pc = .ok (.getfield 47, 3)) (kk : kd q = 20 → W p l e R s m args below meth c H locs cells slots Q (F0 m (pc + 3) ls (.ref (gR G q) :: rest))) : W p l e R s m args below meth c H locs cells slots Q (F0 m pc ls (.ref (gR G a) :: rest)) := by
  subst hq
  exact R_get (ci := 4) (j := 0) (t := 1) C hd uX4 rfl (by decide) (by decide) rfl wd241 rfl hk rfl hdg (kk (kr4_0 a (kd_lt hk (by decide)) hk))
theorem gX1_66 (C : Cx p s m args meth c cc nL RX1 G) (hd : Dy G S s H locs) {a : Nat} (hk : kd a = 0) {q : Nat} (hq : sr a 1 = q) (hdg : decode cc pc = .ok (.getfield 66, 3)) (kk : kd q = 20 → W p l e R s m args below meth c H locs cells slots Q (F0 m (pc + 3) ls (.ref (gR G q) :: rest))) : W p l e R s m args below meth c H locs cells slots Q (F0 m pc ls (.ref (gR G a) :: rest)) := by
  subst hq
  exact R_get (ci := 0) (j := 1) (t := 1) C hd uX0 rfl (by decide) (by decide) rfl wd285 rfl hk rfl hdg (kk (kr0_1 a (kd_lt hk (by decide)) hk))
theorem gX1_80 (C : Cx p s m args meth c cc nL RX1 G) (hd : Dy G S s H locs) {a : Nat} (hk : kd a = 4) (hdg : decode cc pc = .ok (.getfield 80, 3)) (kk : W p l e R s m args below meth c H locs cells slots Q (F0 m (pc + 3) ls (.int (S a 4) :: rest))) : W p l e R s m args below meth c H locs cells slots Q (F0 m pc ls (.ref (gR G a) :: rest)) := R_get (ci := 4) (j := 4) (t := 0) C hd uX4 rfl (by decide) (by decide) rfl wd248 rfl hk rfl hdg kk
theorem kr4_6 : ∀ a, a < NC → kd a = 4 → kd (sr a 6) = 20 := by decide +kernel
theorem gX1_83 (C : Cx p s m args meth c cc nL RX1 G) (hd : Dy G S s H locs) {a : Nat} (hk : kd a = 4) {q : Nat} (hq : sr a 6 = q) (hdg : decode cc pc = .ok (.getfield 83, 3)) (kk : kd q = 20 → W p l e R s m args below meth c H locs cells slots Q (F0 m (pc + 3) ls (.ref (gR G q) :: rest))) : W p l e R s m args below meth c H locs cells slots Q (F0 m pc ls (.ref (gR G a) :: rest)) := by
  subst hq
  exact R_get (ci := 4) (j := 6) (t := 1) C hd uX4 rfl (by decide) (by decide) rfl wd253 rfl hk rfl hdg (kk (kr4_6 a (kd_lt hk (by decide)) hk))
theorem kr4_5 : ∀ a, a < NC → kd a = 4 → kd (sr a 5) = 20 := by decide +kernel
theorem gX1_86 (C : Cx p s m args meth c cc nL RX1 G) (hd : Dy G S s H locs) {a : Nat} (hk : kd a = 4) {q : Nat} (hq : sr a 5 = q) (hdg : decode cc pc = .ok (.getfield 86, 3)) (kk : kd q = 20 → W p l e R s m args below meth c H locs cells slots Q (F0 m (pc + 3) ls (.ref (gR G q) :: rest))) : W p l e R s m args below meth c H locs cells slots Q (F0 m pc ls (.ref (gR G a) :: rest)) := by
  subst hq
  exact R_get (ci := 4) (j := 5) (t := 1) C hd uX4 rfl (by decide) (by decide) rfl wd251 rfl hk rfl hdg (kk (kr4_5 a (kd_lt hk (by decide)) hk))
theorem kr4_7 : ∀ a, a < NC → kd a = 4 → kd (sr a 7) = 20 := by decide +kernel
theorem gX1_89 (C : Cx p s m args meth c cc nL RX1 G) (hd : Dy G S s H locs) {a : Nat} (hk : kd a = 4) {q : Nat} (hq : sr a 7 = q) (hdg : decode cc pc = .ok (.getfield 89, 3)) (kk : kd q = 20 → W p l e R s m args below meth c H locs cells slots Q (F0 m (pc + 3) ls (.ref (gR G q) :: rest))) : W p l e R s m args below meth c H locs cells slots Q (F0 m pc ls (.ref (gR G a) :: rest)) := by
  subst hq
  exact R_get (ci := 4) (j := 7) (t := 1) C hd uX4 rfl (by decide) (by decide) rfl wd255 rfl hk rfl hdg (kk (kr4_7 a (kd_lt hk (by decide)) hk))
theorem kr10_0 : ∀ a, a < NC → kd a = 10 → kd (sr a 0) = 23 := by decide +kernel
theorem gX10_21 (C : Cx p s m args meth c cc nL RX10 G) (hd : Dy G S s H locs) {a : Nat} (hk : kd a = 10) {q : Nat} (hq : sr a 0 = q) (hdg : decode cc pc = .ok (.getfield 21, 3)) (kk : kd q = 23 → W p l e R s m args below meth c H locs cells slots Q (F0 m (pc + 3) ls (.ref (gR G q) :: rest))) : W p l e R s m args below meth c H locs cells slots Q (F0 m pc ls (.ref (gR G a) :: rest)) := by
  subst hq
  exact R_get (ci := 10) (j := 0) (t := 1) C hd uX10 rfl (by decide) (by decide) rfl wd1181 rfl hk rfl hdg (kk (kr10_0 a (kd_lt hk (by decide)) hk))
theorem kr10_1 : ∀ a, a < NC → kd a = 10 → kd (sr a 1) = 23 := by decide +kernel
theorem gX10_33 (C : Cx p s m args meth c cc nL RX10 G) (hd : Dy G S s H locs) {a : Nat} (hk : kd a = 10) {q : Nat} (hq : sr a 1 = q) (hdg : decode cc pc = .ok (.getfield 33, 3)) (kk : kd q = 23 → W p l e R s m args below meth c H locs cells slots Q (F0 m (pc + 3) ls (.ref (gR G q) :: rest))) : W p l e R s m args below meth c H locs cells slots Q (F0 m pc ls (.ref (gR G a) :: rest)) := by
  subst hq
  exact R_get (ci := 10) (j := 1) (t := 1) C hd uX10 rfl (by decide) (by decide) rfl wd1182 rfl hk rfl hdg (kk (kr10_1 a (kd_lt hk (by decide)) hk))
theorem gX10_36 (C : Cx p s m args meth c cc nL RX10 G) (hd : Dy G S s H locs) {a : Nat} (hk : kd a = 10) {β : Type} {k : Nat → Option β} {res : β} (h : gm S a 2 23 k = some res) (hdg : decode cc pc = .ok (.getfield 36, 3)) (kk : ∀ q : Nat, kd q = 23 → k q = some res → W p l e R s m args below meth c H locs cells slots Q (F0 m (pc + 3) ls (.ref (gR G q) :: rest))) : W p l e R s m args below meth c H locs cells slots Q (F0 m pc ls (.ref (gR G a) :: rest)) := by
  unfold gm at h
  split at h
  · rename_i hq
    exact R_get (ci := 10) (j := 2) (t := 2) C hd uX10 rfl (by decide) (by decide) rfl wd1183 rfl hk rfl hdg (kk _ hq h)
  · cases h
theorem kr10_4 : ∀ a, a < NC → kd a = 10 → kd (sr a 4) = 20 := by decide +kernel
theorem gX10_39 (C : Cx p s m args meth c cc nL RX10 G) (hd : Dy G S s H locs) {a : Nat} (hk : kd a = 10) {q : Nat} (hq : sr a 4 = q) (hdg : decode cc pc = .ok (.getfield 39, 3)) (kk : kd q = 20 → W p l e R s m args below meth c H locs cells slots Q (F0 m (pc + 3) ls (.ref (gR G q) :: rest))) : W p l e R s m args below meth c H locs cells slots Q (F0 m pc ls (.ref (gR G a) :: rest)) := by
  subst hq
  exact R_get (ci := 10) (j := 4) (t := 1) C hd uX10 rfl (by decide) (by decide) rfl wd1185 rfl hk rfl hdg (kk (kr10_4 a (kd_lt hk (by decide)) hk))
theorem kr10_5 : ∀ a, a < NC → kd a = 10 → kd (sr a 5) = 20 := by decide +kernel
theorem gX10_43 (C : Cx p s m args meth c cc nL RX10 G) (hd : Dy G S s H locs) {a : Nat} (hk : kd a = 10) {q : Nat} (hq : sr a 5 = q) (hdg : decode cc pc = .ok (.getfield 43, 3)) (kk : kd q = 20 → W p l e R s m args below meth c H locs cells slots Q (F0 m (pc + 3) ls (.ref (gR G q) :: rest))) : W p l e R s m args below meth c H locs cells slots Q (F0 m pc ls (.ref (gR G a) :: rest)) := by
  subst hq
  exact R_get (ci := 10) (j := 5) (t := 1) C hd uX10 rfl (by decide) (by decide) rfl wd1186 rfl hk rfl hdg (kk (kr10_5 a (kd_lt hk (by decide)) hk))
theorem kr10_6 : ∀ a, a < NC → kd a = 10 → kd (sr a 6) = 20 := by decide +kernel
theorem gX10_45 (C : Cx p s m args meth c cc nL RX10 G) (hd : Dy G S s H locs) {a : Nat} (hk : kd a = 10) {q : Nat} (hq : sr a 6 = q) (hdg : decode cc pc = .ok (.getfield 45, 3)) (kk : kd q = 20 → W p l e R s m args below meth c H locs cells slots Q (F0 m (pc + 3) ls (.ref (gR G q) :: rest))) : W p l e R s m args below meth c H locs cells slots Q (F0 m pc ls (.ref (gR G a) :: rest)) := by
  subst hq
  exact R_get (ci := 10) (j := 6) (t := 1) C hd uX10 rfl (by decide) (by decide) rfl wd1187 rfl hk rfl hdg (kk (kr10_6 a (kd_lt hk (by decide)) hk))
theorem kr10_7 : ∀ a, a < NC → kd a = 10 → kd (sr a 7) = 20 := by decide +kernel
theorem gX10_48 (C : Cx p s m args meth c cc nL RX10 G) (hd : Dy G S s H locs) {a : Nat} (hk : kd a = 10) {q : Nat} (hq : sr a 7 = q) (hdg : decode cc pc = .ok (.getfield 48, 3)) (kk : kd q = 20 → W p l e R s m args below meth c H locs cells slots Q (F0 m (pc + 3) ls (.ref (gR G q) :: rest))) : W p l e R s m args below meth c H locs cells slots Q (F0 m pc ls (.ref (gR G a) :: rest)) := by
  subst hq
  exact R_get (ci := 10) (j := 7) (t := 1) C hd uX10 rfl (by decide) (by decide) rfl wd1188 rfl hk rfl hdg (kk (kr10_7 a (kd_lt hk (by decide)) hk))
theorem kr10_8 : ∀ a, a < NC → kd a = 10 → kd (sr a 8) = 20 := by decide +kernel
theorem gX10_50 (C : Cx p s m args meth c cc nL RX10 G) (hd : Dy G S s H locs) {a : Nat} (hk : kd a = 10) {q : Nat} (hq : sr a 8 = q) (hdg : decode cc pc = .ok (.getfield 50, 3)) (kk : kd q = 20 → W p l e R s m args below meth c H locs cells slots Q (F0 m (pc + 3) ls (.ref (gR G q) :: rest))) : W p l e R s m args below meth c H locs cells slots Q (F0 m pc ls (.ref (gR G a) :: rest)) := by
  subst hq
  exact R_get (ci := 10) (j := 8) (t := 1) C hd uX10 rfl (by decide) (by decide) rfl wd1189 rfl hk rfl hdg (kk (kr10_8 a (kd_lt hk (by decide)) hk))
theorem kr10_9 : ∀ a, a < NC → kd a = 10 → kd (sr a 9) = 20 := by decide +kernel
theorem gX10_53 (C : Cx p s m args meth c cc nL RX10 G) (hd : Dy G S s H locs) {a : Nat} (hk : kd a = 10) {q : Nat} (hq : sr a 9 = q) (hdg : decode cc pc = .ok (.getfield 53, 3)) (kk : kd q = 20 → W p l e R s m args below meth c H locs cells slots Q (F0 m (pc + 3) ls (.ref (gR G q) :: rest))) : W p l e R s m args below meth c H locs cells slots Q (F0 m pc ls (.ref (gR G a) :: rest)) := by
  subst hq
  exact R_get (ci := 10) (j := 9) (t := 1) C hd uX10 rfl (by decide) (by decide) rfl wd1190 rfl hk rfl hdg (kk (kr10_9 a (kd_lt hk (by decide)) hk))
theorem kr10_10 : ∀ a, a < NC → kd a = 10 → kd (sr a 10) = 20 := by decide +kernel
theorem gX10_56 (C : Cx p s m args meth c cc nL RX10 G) (hd : Dy G S s H locs) {a : Nat} (hk : kd a = 10) {q : Nat} (hq : sr a 10 = q) (hdg : decode cc pc = .ok (.getfield 56, 3)) (kk : kd q = 20 → W p l e R s m args below meth c H locs cells slots Q (F0 m (pc + 3) ls (.ref (gR G q) :: rest))) : W p l e R s m args below meth c H locs cells slots Q (F0 m pc ls (.ref (gR G a) :: rest)) := by
  subst hq
  exact R_get (ci := 10) (j := 10) (t := 1) C hd uX10 rfl (by decide) (by decide) rfl wd1191 rfl hk rfl hdg (kk (kr10_10 a (kd_lt hk (by decide)) hk))
theorem kr10_11 : ∀ a, a < NC → kd a = 10 → kd (sr a 11) = 20 := by decide +kernel
theorem gX10_59 (C : Cx p s m args meth c cc nL RX10 G) (hd : Dy G S s H locs) {a : Nat} (hk : kd a = 10) {q : Nat} (hq : sr a 11 = q) (hdg : decode cc pc = .ok (.getfield 59, 3)) (kk : kd q = 20 → W p l e R s m args below meth c H locs cells slots Q (F0 m (pc + 3) ls (.ref (gR G q) :: rest))) : W p l e R s m args below meth c H locs cells slots Q (F0 m pc ls (.ref (gR G a) :: rest)) := by
  subst hq
  exact R_get (ci := 10) (j := 11) (t := 1) C hd uX10 rfl (by decide) (by decide) rfl wd1192 rfl hk rfl hdg (kk (kr10_11 a (kd_lt hk (by decide)) hk))
theorem kr10_12 : ∀ a, a < NC → kd a = 10 → kd (sr a 12) = 20 := by decide +kernel
theorem gX10_62 (C : Cx p s m args meth c cc nL RX10 G) (hd : Dy G S s H locs) {a : Nat} (hk : kd a = 10) {q : Nat} (hq : sr a 12 = q) (hdg : decode cc pc = .ok (.getfield 62, 3)) (kk : kd q = 20 → W p l e R s m args below meth c H locs cells slots Q (F0 m (pc + 3) ls (.ref (gR G q) :: rest))) : W p l e R s m args below meth c H locs cells slots Q (F0 m pc ls (.ref (gR G a) :: rest)) := by
  subst hq
  exact R_get (ci := 10) (j := 12) (t := 1) C hd uX10 rfl (by decide) (by decide) rfl wd1193 rfl hk rfl hdg (kk (kr10_12 a (kd_lt hk (by decide)) hk))
theorem kr10_13 : ∀ a, a < NC → kd a = 10 → kd (sr a 13) = 20 := by decide +kernel
theorem gX10_65 (C : Cx p s m args meth c cc nL RX10 G) (hd : Dy G S s H locs) {a : Nat} (hk : kd a = 10) {q : Nat} (hq : sr a 13 = q) (hdg : decode cc pc = .ok (.getfield 65, 3)) (kk : kd q = 20 → W p l e R s m args below meth c H locs cells slots Q (F0 m (pc + 3) ls (.ref (gR G q) :: rest))) : W p l e R s m args below meth c H locs cells slots Q (F0 m pc ls (.ref (gR G a) :: rest)) := by
  subst hq
  exact R_get (ci := 10) (j := 13) (t := 1) C hd uX10 rfl (by decide) (by decide) rfl wd1194 rfl hk rfl hdg (kk (kr10_13 a (kd_lt hk (by decide)) hk))
theorem kr10_14 : ∀ a, a < NC → kd a = 10 → kd (sr a 14) = 20 := by decide +kernel
theorem gX10_68 (C : Cx p s m args meth c cc nL RX10 G) (hd : Dy G S s H locs) {a : Nat} (hk : kd a = 10) {q : Nat} (hq : sr a 14 = q) (hdg : decode cc pc = .ok (.getfield 68, 3)) (kk : kd q = 20 → W p l e R s m args below meth c H locs cells slots Q (F0 m (pc + 3) ls (.ref (gR G q) :: rest))) : W p l e R s m args below meth c H locs cells slots Q (F0 m pc ls (.ref (gR G a) :: rest)) := by
  subst hq
  exact R_get (ci := 10) (j := 14) (t := 1) C hd uX10 rfl (by decide) (by decide) rfl wd1195 rfl hk rfl hdg (kk (kr10_14 a (kd_lt hk (by decide)) hk))
theorem kr10_15 : ∀ a, a < NC → kd a = 10 → kd (sr a 15) = 20 := by decide +kernel
theorem gX10_71 (C : Cx p s m args meth c cc nL RX10 G) (hd : Dy G S s H locs) {a : Nat} (hk : kd a = 10) {q : Nat} (hq : sr a 15 = q) (hdg : decode cc pc = .ok (.getfield 71, 3)) (kk : kd q = 20 → W p l e R s m args below meth c H locs cells slots Q (F0 m (pc + 3) ls (.ref (gR G q) :: rest))) : W p l e R s m args below meth c H locs cells slots Q (F0 m pc ls (.ref (gR G a) :: rest)) := by
  subst hq
  exact R_get (ci := 10) (j := 15) (t := 1) C hd uX10 rfl (by decide) (by decide) rfl wd1196 rfl hk rfl hdg (kk (kr10_15 a (kd_lt hk (by decide)) hk))
theorem kr10_16 : ∀ a, a < NC → kd a = 10 → kd (sr a 16) = 20 := by decide +kernel
theorem gX10_74 (C : Cx p s m args meth c cc nL RX10 G) (hd : Dy G S s H locs) {a : Nat} (hk : kd a = 10) {q : Nat} (hq : sr a 16 = q) (hdg : decode cc pc = .ok (.getfield 74, 3)) (kk : kd q = 20 → W p l e R s m args below meth c H locs cells slots Q (F0 m (pc + 3) ls (.ref (gR G q) :: rest))) : W p l e R s m args below meth c H locs cells slots Q (F0 m pc ls (.ref (gR G a) :: rest)) := by
  subst hq
  exact R_get (ci := 10) (j := 16) (t := 1) C hd uX10 rfl (by decide) (by decide) rfl wd1197 rfl hk rfl hdg (kk (kr10_16 a (kd_lt hk (by decide)) hk))
theorem gX10_77 (C : Cx p s m args meth c cc nL RX10 G) (hd : Dy G S s H locs) {a : Nat} (hk : kd a = 10) (hdg : decode cc pc = .ok (.getfield 77, 3)) (kk : W p l e R s m args below meth c H locs cells slots Q (F0 m (pc + 3) ls (.int (S a 26) :: rest))) : W p l e R s m args below meth c H locs cells slots Q (F0 m pc ls (.ref (gR G a) :: rest)) := R_get (ci := 10) (j := 26) (t := 0) C hd uX10 rfl (by decide) (by decide) rfl wd1207 rfl hk rfl hdg kk
theorem kr10_28 : ∀ a, a < NC → kd a = 10 → kd (sr a 28) = 20 := by decide +kernel
theorem gX10_81 (C : Cx p s m args meth c cc nL RX10 G) (hd : Dy G S s H locs) {a : Nat} (hk : kd a = 10) {q : Nat} (hq : sr a 28 = q) (hdg : decode cc pc = .ok (.getfield 81, 3)) (kk : kd q = 20 → W p l e R s m args below meth c H locs cells slots Q (F0 m (pc + 3) ls (.ref (gR G q) :: rest))) : W p l e R s m args below meth c H locs cells slots Q (F0 m pc ls (.ref (gR G a) :: rest)) := by
  subst hq
  exact R_get (ci := 10) (j := 28) (t := 1) C hd uX10 rfl (by decide) (by decide) rfl wd1209 rfl hk rfl hdg (kk (kr10_28 a (kd_lt hk (by decide)) hk))
theorem kr10_29 : ∀ a, a < NC → kd a = 10 → kd (sr a 29) = 20 := by decide +kernel
theorem gX10_83 (C : Cx p s m args meth c cc nL RX10 G) (hd : Dy G S s H locs) {a : Nat} (hk : kd a = 10) {q : Nat} (hq : sr a 29 = q) (hdg : decode cc pc = .ok (.getfield 83, 3)) (kk : kd q = 20 → W p l e R s m args below meth c H locs cells slots Q (F0 m (pc + 3) ls (.ref (gR G q) :: rest))) : W p l e R s m args below meth c H locs cells slots Q (F0 m pc ls (.ref (gR G a) :: rest)) := by
  subst hq
  exact R_get (ci := 10) (j := 29) (t := 1) C hd uX10 rfl (by decide) (by decide) rfl wd1210 rfl hk rfl hdg (kk (kr10_29 a (kd_lt hk (by decide)) hk))
theorem kr10_30 : ∀ a, a < NC → kd a = 10 → kd (sr a 30) = 20 := by decide +kernel
theorem gX10_86 (C : Cx p s m args meth c cc nL RX10 G) (hd : Dy G S s H locs) {a : Nat} (hk : kd a = 10) {q : Nat} (hq : sr a 30 = q) (hdg : decode cc pc = .ok (.getfield 86, 3)) (kk : kd q = 20 → W p l e R s m args below meth c H locs cells slots Q (F0 m (pc + 3) ls (.ref (gR G q) :: rest))) : W p l e R s m args below meth c H locs cells slots Q (F0 m pc ls (.ref (gR G a) :: rest)) := by
  subst hq
  exact R_get (ci := 10) (j := 30) (t := 1) C hd uX10 rfl (by decide) (by decide) rfl wd1211 rfl hk rfl hdg (kk (kr10_30 a (kd_lt hk (by decide)) hk))
theorem kr10_31 : ∀ a, a < NC → kd a = 10 → kd (sr a 31) = 20 := by decide +kernel
theorem gX10_89 (C : Cx p s m args meth c cc nL RX10 G) (hd : Dy G S s H locs) {a : Nat} (hk : kd a = 10) {q : Nat} (hq : sr a 31 = q) (hdg : decode cc pc = .ok (.getfield 89, 3)) (kk : kd q = 20 → W p l e R s m args below meth c H locs cells slots Q (F0 m (pc + 3) ls (.ref (gR G q) :: rest))) : W p l e R s m args below meth c H locs cells slots Q (F0 m pc ls (.ref (gR G a) :: rest)) := by
  subst hq
  exact R_get (ci := 10) (j := 31) (t := 1) C hd uX10 rfl (by decide) (by decide) rfl wd1212 rfl hk rfl hdg (kk (kr10_31 a (kd_lt hk (by decide)) hk))
theorem kr10_32 : ∀ a, a < NC → kd a = 10 → kd (sr a 32) = 20 := by decide +kernel
theorem gX10_92 (C : Cx p s m args meth c cc nL RX10 G) (hd : Dy G S s H locs) {a : Nat} (hk : kd a = 10) {q : Nat} (hq : sr a 32 = q) (hdg : decode cc pc = .ok (.getfield 92, 3)) (kk : kd q = 20 → W p l e R s m args below meth c H locs cells slots Q (F0 m (pc + 3) ls (.ref (gR G q) :: rest))) : W p l e R s m args below meth c H locs cells slots Q (F0 m pc ls (.ref (gR G a) :: rest)) := by
  subst hq
  exact R_get (ci := 10) (j := 32) (t := 1) C hd uX10 rfl (by decide) (by decide) rfl wd1213 rfl hk rfl hdg (kk (kr10_32 a (kd_lt hk (by decide)) hk))
theorem kr10_33 : ∀ a, a < NC → kd a = 10 → kd (sr a 33) = 20 := by decide +kernel
theorem gX10_95 (C : Cx p s m args meth c cc nL RX10 G) (hd : Dy G S s H locs) {a : Nat} (hk : kd a = 10) {q : Nat} (hq : sr a 33 = q) (hdg : decode cc pc = .ok (.getfield 95, 3)) (kk : kd q = 20 → W p l e R s m args below meth c H locs cells slots Q (F0 m (pc + 3) ls (.ref (gR G q) :: rest))) : W p l e R s m args below meth c H locs cells slots Q (F0 m pc ls (.ref (gR G a) :: rest)) := by
  subst hq
  exact R_get (ci := 10) (j := 33) (t := 1) C hd uX10 rfl (by decide) (by decide) rfl wd1214 rfl hk rfl hdg (kk (kr10_33 a (kd_lt hk (by decide)) hk))
theorem kr10_38 : ∀ a, a < NC → kd a = 10 → kd (sr a 38) = 20 := by decide +kernel
theorem gX10_98 (C : Cx p s m args meth c cc nL RX10 G) (hd : Dy G S s H locs) {a : Nat} (hk : kd a = 10) {q : Nat} (hq : sr a 38 = q) (hdg : decode cc pc = .ok (.getfield 98, 3)) (kk : kd q = 20 → W p l e R s m args below meth c H locs cells slots Q (F0 m (pc + 3) ls (.ref (gR G q) :: rest))) : W p l e R s m args below meth c H locs cells slots Q (F0 m pc ls (.ref (gR G a) :: rest)) := by
  subst hq
  exact R_get (ci := 10) (j := 38) (t := 1) C hd uX10 rfl (by decide) (by decide) rfl wd1219 rfl hk rfl hdg (kk (kr10_38 a (kd_lt hk (by decide)) hk))
theorem kr10_39 : ∀ a, a < NC → kd a = 10 → kd (sr a 39) = 20 := by decide +kernel
theorem gX10_101 (C : Cx p s m args meth c cc nL RX10 G) (hd : Dy G S s H locs) {a : Nat} (hk : kd a = 10) {q : Nat} (hq : sr a 39 = q) (hdg : decode cc pc = .ok (.getfield 101, 3)) (kk : kd q = 20 → W p l e R s m args below meth c H locs cells slots Q (F0 m (pc + 3) ls (.ref (gR G q) :: rest))) : W p l e R s m args below meth c H locs cells slots Q (F0 m pc ls (.ref (gR G a) :: rest)) := by
  subst hq
  exact R_get (ci := 10) (j := 39) (t := 1) C hd uX10 rfl (by decide) (by decide) rfl wd1220 rfl hk rfl hdg (kk (kr10_39 a (kd_lt hk (by decide)) hk))
theorem kr10_40 : ∀ a, a < NC → kd a = 10 → kd (sr a 40) = 20 := by decide +kernel
theorem gX10_104 (C : Cx p s m args meth c cc nL RX10 G) (hd : Dy G S s H locs) {a : Nat} (hk : kd a = 10) {q : Nat} (hq : sr a 40 = q) (hdg : decode cc pc = .ok (.getfield 104, 3)) (kk : kd q = 20 → W p l e R s m args below meth c H locs cells slots Q (F0 m (pc + 3) ls (.ref (gR G q) :: rest))) : W p l e R s m args below meth c H locs cells slots Q (F0 m pc ls (.ref (gR G a) :: rest)) := by
  subst hq
  exact R_get (ci := 10) (j := 40) (t := 1) C hd uX10 rfl (by decide) (by decide) rfl wd1221 rfl hk rfl hdg (kk (kr10_40 a (kd_lt hk (by decide)) hk))
theorem gX10_107 (C : Cx p s m args meth c cc nL RX10 G) (hd : Dy G S s H locs) {a : Nat} (hk : kd a = 10) (hdg : decode cc pc = .ok (.getfield 107, 3)) (kk : W p l e R s m args below meth c H locs cells slots Q (F0 m (pc + 3) ls (.int (S a 41) :: rest))) : W p l e R s m args below meth c H locs cells slots Q (F0 m pc ls (.ref (gR G a) :: rest)) := R_get (ci := 10) (j := 41) (t := 0) C hd uX10 rfl (by decide) (by decide) rfl wd1222 rfl hk rfl hdg kk
theorem kr10_42 : ∀ a, a < NC → kd a = 10 → kd (sr a 42) = 20 := by decide +kernel
theorem gX10_110 (C : Cx p s m args meth c cc nL RX10 G) (hd : Dy G S s H locs) {a : Nat} (hk : kd a = 10) {q : Nat} (hq : sr a 42 = q) (hdg : decode cc pc = .ok (.getfield 110, 3)) (kk : kd q = 20 → W p l e R s m args below meth c H locs cells slots Q (F0 m (pc + 3) ls (.ref (gR G q) :: rest))) : W p l e R s m args below meth c H locs cells slots Q (F0 m pc ls (.ref (gR G a) :: rest)) := by
  subst hq
  exact R_get (ci := 10) (j := 42) (t := 1) C hd uX10 rfl (by decide) (by decide) rfl wd1223 rfl hk rfl hdg (kk (kr10_42 a (kd_lt hk (by decide)) hk))
theorem kr10_43 : ∀ a, a < NC → kd a = 10 → kd (sr a 43) = 20 := by decide +kernel
theorem gX10_113 (C : Cx p s m args meth c cc nL RX10 G) (hd : Dy G S s H locs) {a : Nat} (hk : kd a = 10) {q : Nat} (hq : sr a 43 = q) (hdg : decode cc pc = .ok (.getfield 113, 3)) (kk : kd q = 20 → W p l e R s m args below meth c H locs cells slots Q (F0 m (pc + 3) ls (.ref (gR G q) :: rest))) : W p l e R s m args below meth c H locs cells slots Q (F0 m pc ls (.ref (gR G a) :: rest)) := by
  subst hq
  exact R_get (ci := 10) (j := 43) (t := 1) C hd uX10 rfl (by decide) (by decide) rfl wd1224 rfl hk rfl hdg (kk (kr10_43 a (kd_lt hk (by decide)) hk))
theorem kr10_44 : ∀ a, a < NC → kd a = 10 → kd (sr a 44) = 20 := by decide +kernel
theorem gX10_116 (C : Cx p s m args meth c cc nL RX10 G) (hd : Dy G S s H locs) {a : Nat} (hk : kd a = 10) {q : Nat} (hq : sr a 44 = q) (hdg : decode cc pc = .ok (.getfield 116, 3)) (kk : kd q = 20 → W p l e R s m args below meth c H locs cells slots Q (F0 m (pc + 3) ls (.ref (gR G q) :: rest))) : W p l e R s m args below meth c H locs cells slots Q (F0 m pc ls (.ref (gR G a) :: rest)) := by
  subst hq
  exact R_get (ci := 10) (j := 44) (t := 1) C hd uX10 rfl (by decide) (by decide) rfl wd1225 rfl hk rfl hdg (kk (kr10_44 a (kd_lt hk (by decide)) hk))
theorem kr10_45 : ∀ a, a < NC → kd a = 10 → kd (sr a 45) = 20 := by decide +kernel
theorem gX10_119 (C : Cx p s m args meth c cc nL RX10 G) (hd : Dy G S s H locs) {a : Nat} (hk : kd a = 10) {q : Nat} (hq : sr a 45 = q) (hdg : decode cc pc = .ok (.getfield 119, 3)) (kk : kd q = 20 → W p l e R s m args below meth c H locs cells slots Q (F0 m (pc + 3) ls (.ref (gR G q) :: rest))) : W p l e R s m args below meth c H locs cells slots Q (F0 m pc ls (.ref (gR G a) :: rest)) := by
  subst hq
  exact R_get (ci := 10) (j := 45) (t := 1) C hd uX10 rfl (by decide) (by decide) rfl wd1226 rfl hk rfl hdg (kk (kr10_45 a (kd_lt hk (by decide)) hk))
theorem kr10_46 : ∀ a, a < NC → kd a = 10 → kd (sr a 46) = 20 := by decide +kernel
theorem gX10_122 (C : Cx p s m args meth c cc nL RX10 G) (hd : Dy G S s H locs) {a : Nat} (hk : kd a = 10) {q : Nat} (hq : sr a 46 = q) (hdg : decode cc pc = .ok (.getfield 122, 3)) (kk : kd q = 20 → W p l e R s m args below meth c H locs cells slots Q (F0 m (pc + 3) ls (.ref (gR G q) :: rest))) : W p l e R s m args below meth c H locs cells slots Q (F0 m pc ls (.ref (gR G a) :: rest)) := by
  subst hq
  exact R_get (ci := 10) (j := 46) (t := 1) C hd uX10 rfl (by decide) (by decide) rfl wd1227 rfl hk rfl hdg (kk (kr10_46 a (kd_lt hk (by decide)) hk))
theorem kr10_47 : ∀ a, a < NC → kd a = 10 → kd (sr a 47) = 20 := by decide +kernel
theorem gX10_125 (C : Cx p s m args meth c cc nL RX10 G) (hd : Dy G S s H locs) {a : Nat} (hk : kd a = 10) {q : Nat} (hq : sr a 47 = q) (hdg : decode cc pc = .ok (.getfield 125, 3)) (kk : kd q = 20 → W p l e R s m args below meth c H locs cells slots Q (F0 m (pc + 3) ls (.ref (gR G q) :: rest))) : W p l e R s m args below meth c H locs cells slots Q (F0 m pc ls (.ref (gR G a) :: rest)) := by
  subst hq
  exact R_get (ci := 10) (j := 47) (t := 1) C hd uX10 rfl (by decide) (by decide) rfl wd1228 rfl hk rfl hdg (kk (kr10_47 a (kd_lt hk (by decide)) hk))
theorem kr10_48 : ∀ a, a < NC → kd a = 10 → kd (sr a 48) = 20 := by decide +kernel
theorem gX10_128 (C : Cx p s m args meth c cc nL RX10 G) (hd : Dy G S s H locs) {a : Nat} (hk : kd a = 10) {q : Nat} (hq : sr a 48 = q) (hdg : decode cc pc = .ok (.getfield 128, 3)) (kk : kd q = 20 → W p l e R s m args below meth c H locs cells slots Q (F0 m (pc + 3) ls (.ref (gR G q) :: rest))) : W p l e R s m args below meth c H locs cells slots Q (F0 m pc ls (.ref (gR G a) :: rest)) := by
  subst hq
  exact R_get (ci := 10) (j := 48) (t := 1) C hd uX10 rfl (by decide) (by decide) rfl wd1229 rfl hk rfl hdg (kk (kr10_48 a (kd_lt hk (by decide)) hk))
theorem kr10_49 : ∀ a, a < NC → kd a = 10 → kd (sr a 49) = 20 := by decide +kernel
theorem gX10_131 (C : Cx p s m args meth c cc nL RX10 G) (hd : Dy G S s H locs) {a : Nat} (hk : kd a = 10) {q : Nat} (hq : sr a 49 = q) (hdg : decode cc pc = .ok (.getfield 131, 3)) (kk : kd q = 20 → W p l e R s m args below meth c H locs cells slots Q (F0 m (pc + 3) ls (.ref (gR G q) :: rest))) : W p l e R s m args below meth c H locs cells slots Q (F0 m pc ls (.ref (gR G a) :: rest)) := by
  subst hq
  exact R_get (ci := 10) (j := 49) (t := 1) C hd uX10 rfl (by decide) (by decide) rfl wd1230 rfl hk rfl hdg (kk (kr10_49 a (kd_lt hk (by decide)) hk))
theorem kr10_50 : ∀ a, a < NC → kd a = 10 → kd (sr a 50) = 20 := by decide +kernel
theorem gX10_134 (C : Cx p s m args meth c cc nL RX10 G) (hd : Dy G S s H locs) {a : Nat} (hk : kd a = 10) {q : Nat} (hq : sr a 50 = q) (hdg : decode cc pc = .ok (.getfield 134, 3)) (kk : kd q = 20 → W p l e R s m args below meth c H locs cells slots Q (F0 m (pc + 3) ls (.ref (gR G q) :: rest))) : W p l e R s m args below meth c H locs cells slots Q (F0 m pc ls (.ref (gR G a) :: rest)) := by
  subst hq
  exact R_get (ci := 10) (j := 50) (t := 1) C hd uX10 rfl (by decide) (by decide) rfl wd1231 rfl hk rfl hdg (kk (kr10_50 a (kd_lt hk (by decide)) hk))
theorem kr10_51 : ∀ a, a < NC → kd a = 10 → kd (sr a 51) = 20 := by decide +kernel
theorem gX10_137 (C : Cx p s m args meth c cc nL RX10 G) (hd : Dy G S s H locs) {a : Nat} (hk : kd a = 10) {q : Nat} (hq : sr a 51 = q) (hdg : decode cc pc = .ok (.getfield 137, 3)) (kk : kd q = 20 → W p l e R s m args below meth c H locs cells slots Q (F0 m (pc + 3) ls (.ref (gR G q) :: rest))) : W p l e R s m args below meth c H locs cells slots Q (F0 m pc ls (.ref (gR G a) :: rest)) := by
  subst hq
  exact R_get (ci := 10) (j := 51) (t := 1) C hd uX10 rfl (by decide) (by decide) rfl wd1232 rfl hk rfl hdg (kk (kr10_51 a (kd_lt hk (by decide)) hk))
theorem kr10_52 : ∀ a, a < NC → kd a = 10 → kd (sr a 52) = 20 := by decide +kernel
theorem gX10_140 (C : Cx p s m args meth c cc nL RX10 G) (hd : Dy G S s H locs) {a : Nat} (hk : kd a = 10) {q : Nat} (hq : sr a 52 = q) (hdg : decode cc pc = .ok (.getfield 140, 3)) (kk : kd q = 20 → W p l e R s m args below meth c H locs cells slots Q (F0 m (pc + 3) ls (.ref (gR G q) :: rest))) : W p l e R s m args below meth c H locs cells slots Q (F0 m pc ls (.ref (gR G a) :: rest)) := by
  subst hq
  exact R_get (ci := 10) (j := 52) (t := 1) C hd uX10 rfl (by decide) (by decide) rfl wd1233 rfl hk rfl hdg (kk (kr10_52 a (kd_lt hk (by decide)) hk))
theorem kr10_53 : ∀ a, a < NC → kd a = 10 → kd (sr a 53) = 20 := by decide +kernel
theorem gX10_143 (C : Cx p s m args meth c cc nL RX10 G) (hd : Dy G S s H locs) {a : Nat} (hk : kd a = 10) {q : Nat} (hq : sr a 53 = q) (hdg : decode cc pc = .ok (.getfield 143, 3)) (kk : kd q = 20 → W p l e R s m args below meth c H locs cells slots Q (F0 m (pc + 3) ls (.ref (gR G q) :: rest))) : W p l e R s m args below meth c H locs cells slots Q (F0 m pc ls (.ref (gR G a) :: rest)) := by
  subst hq
  exact R_get (ci := 10) (j := 53) (t := 1) C hd uX10 rfl (by decide) (by decide) rfl wd1234 rfl hk rfl hdg (kk (kr10_53 a (kd_lt hk (by decide)) hk))
theorem kr10_54 : ∀ a, a < NC → kd a = 10 → kd (sr a 54) = 20 := by decide +kernel
theorem gX10_146 (C : Cx p s m args meth c cc nL RX10 G) (hd : Dy G S s H locs) {a : Nat} (hk : kd a = 10) {q : Nat} (hq : sr a 54 = q) (hdg : decode cc pc = .ok (.getfield 146, 3)) (kk : kd q = 20 → W p l e R s m args below meth c H locs cells slots Q (F0 m (pc + 3) ls (.ref (gR G q) :: rest))) : W p l e R s m args below meth c H locs cells slots Q (F0 m pc ls (.ref (gR G a) :: rest)) := by
  subst hq
  exact R_get (ci := 10) (j := 54) (t := 1) C hd uX10 rfl (by decide) (by decide) rfl wd1235 rfl hk rfl hdg (kk (kr10_54 a (kd_lt hk (by decide)) hk))
theorem kr10_60 : ∀ a, a < NC → kd a = 10 → kd (sr a 60) = 20 := by decide +kernel
theorem gX10_149 (C : Cx p s m args meth c cc nL RX10 G) (hd : Dy G S s H locs) {a : Nat} (hk : kd a = 10) {q : Nat} (hq : sr a 60 = q) (hdg : decode cc pc = .ok (.getfield 149, 3)) (kk : kd q = 20 → W p l e R s m args below meth c H locs cells slots Q (F0 m (pc + 3) ls (.ref (gR G q) :: rest))) : W p l e R s m args below meth c H locs cells slots Q (F0 m pc ls (.ref (gR G a) :: rest)) := by
  subst hq
  exact R_get (ci := 10) (j := 60) (t := 1) C hd uX10 rfl (by decide) (by decide) rfl wd1241 rfl hk rfl hdg (kk (kr10_60 a (kd_lt hk (by decide)) hk))
theorem kr10_61 : ∀ a, a < NC → kd a = 10 → kd (sr a 61) = 20 := by decide +kernel
theorem gX10_152 (C : Cx p s m args meth c cc nL RX10 G) (hd : Dy G S s H locs) {a : Nat} (hk : kd a = 10) {q : Nat} (hq : sr a 61 = q) (hdg : decode cc pc = .ok (.getfield 152, 3)) (kk : kd q = 20 → W p l e R s m args below meth c H locs cells slots Q (F0 m (pc + 3) ls (.ref (gR G q) :: rest))) : W p l e R s m args below meth c H locs cells slots Q (F0 m pc ls (.ref (gR G a) :: rest)) := by
  subst hq
  exact R_get (ci := 10) (j := 61) (t := 1) C hd uX10 rfl (by decide) (by decide) rfl wd1242 rfl hk rfl hdg (kk (kr10_61 a (kd_lt hk (by decide)) hk))
theorem kr10_62 : ∀ a, a < NC → kd a = 10 → kd (sr a 62) = 20 := by decide +kernel
theorem gX10_155 (C : Cx p s m args meth c cc nL RX10 G) (hd : Dy G S s H locs) {a : Nat} (hk : kd a = 10) {q : Nat} (hq : sr a 62 = q) (hdg : decode cc pc = .ok (.getfield 155, 3)) (kk : kd q = 20 → W p l e R s m args below meth c H locs cells slots Q (F0 m (pc + 3) ls (.ref (gR G q) :: rest))) : W p l e R s m args below meth c H locs cells slots Q (F0 m pc ls (.ref (gR G a) :: rest)) := by
  subst hq
  exact R_get (ci := 10) (j := 62) (t := 1) C hd uX10 rfl (by decide) (by decide) rfl wd1243 rfl hk rfl hdg (kk (kr10_62 a (kd_lt hk (by decide)) hk))
theorem kr10_63 : ∀ a, a < NC → kd a = 10 → kd (sr a 63) = 20 := by decide +kernel
theorem gX10_158 (C : Cx p s m args meth c cc nL RX10 G) (hd : Dy G S s H locs) {a : Nat} (hk : kd a = 10) {q : Nat} (hq : sr a 63 = q) (hdg : decode cc pc = .ok (.getfield 158, 3)) (kk : kd q = 20 → W p l e R s m args below meth c H locs cells slots Q (F0 m (pc + 3) ls (.ref (gR G q) :: rest))) : W p l e R s m args below meth c H locs cells slots Q (F0 m pc ls (.ref (gR G a) :: rest)) := by
  subst hq
  exact R_get (ci := 10) (j := 63) (t := 1) C hd uX10 rfl (by decide) (by decide) rfl wd1244 rfl hk rfl hdg (kk (kr10_63 a (kd_lt hk (by decide)) hk))
theorem kr10_64 : ∀ a, a < NC → kd a = 10 → kd (sr a 64) = 20 := by decide +kernel
theorem gX10_161 (C : Cx p s m args meth c cc nL RX10 G) (hd : Dy G S s H locs) {a : Nat} (hk : kd a = 10) {q : Nat} (hq : sr a 64 = q) (hdg : decode cc pc = .ok (.getfield 161, 3)) (kk : kd q = 20 → W p l e R s m args below meth c H locs cells slots Q (F0 m (pc + 3) ls (.ref (gR G q) :: rest))) : W p l e R s m args below meth c H locs cells slots Q (F0 m pc ls (.ref (gR G a) :: rest)) := by
  subst hq
  exact R_get (ci := 10) (j := 64) (t := 1) C hd uX10 rfl (by decide) (by decide) rfl wd1245 rfl hk rfl hdg (kk (kr10_64 a (kd_lt hk (by decide)) hk))
theorem kr10_65 : ∀ a, a < NC → kd a = 10 → kd (sr a 65) = 20 := by decide +kernel
theorem gX10_164 (C : Cx p s m args meth c cc nL RX10 G) (hd : Dy G S s H locs) {a : Nat} (hk : kd a = 10) {q : Nat} (hq : sr a 65 = q) (hdg : decode cc pc = .ok (.getfield 164, 3)) (kk : kd q = 20 → W p l e R s m args below meth c H locs cells slots Q (F0 m (pc + 3) ls (.ref (gR G q) :: rest))) : W p l e R s m args below meth c H locs cells slots Q (F0 m pc ls (.ref (gR G a) :: rest)) := by
  subst hq
  exact R_get (ci := 10) (j := 65) (t := 1) C hd uX10 rfl (by decide) (by decide) rfl wd1246 rfl hk rfl hdg (kk (kr10_65 a (kd_lt hk (by decide)) hk))
theorem gX10_167 (C : Cx p s m args meth c cc nL RX10 G) (hd : Dy G S s H locs) {a : Nat} (hk : kd a = 10) (hdg : decode cc pc = .ok (.getfield 167, 3)) (kk : W p l e R s m args below meth c H locs cells slots Q (F0 m (pc + 3) ls (.int (S a 3) :: rest))) : W p l e R s m args below meth c H locs cells slots Q (F0 m pc ls (.ref (gR G a) :: rest)) := R_get (ci := 10) (j := 3) (t := 0) C hd uX10 rfl (by decide) (by decide) rfl wd1184 rfl hk rfl hdg kk
theorem gX10_174 (C : Cx p s m args meth c cc nL RX10 G) (hd : Dy G S s H locs) {a : Nat} (hk : kd a = 10) (hdg : decode cc pc = .ok (.getfield 174, 3)) (kk : W p l e R s m args below meth c H locs cells slots Q (F0 m (pc + 3) ls (.int (S a 17) :: rest))) : W p l e R s m args below meth c H locs cells slots Q (F0 m pc ls (.ref (gR G a) :: rest)) := R_get (ci := 10) (j := 17) (t := 0) C hd uX10 rfl (by decide) (by decide) rfl wd1198 rfl hk rfl hdg kk
theorem gX10_177 (C : Cx p s m args meth c cc nL RX10 G) (hd : Dy G S s H locs) {a : Nat} (hk : kd a = 10) (hdg : decode cc pc = .ok (.getfield 177, 3)) (kk : W p l e R s m args below meth c H locs cells slots Q (F0 m (pc + 3) ls (.int (S a 19) :: rest))) : W p l e R s m args below meth c H locs cells slots Q (F0 m pc ls (.ref (gR G a) :: rest)) := R_get (ci := 10) (j := 19) (t := 0) C hd uX10 rfl (by decide) (by decide) rfl wd1200 rfl hk rfl hdg kk
theorem gX10_180 (C : Cx p s m args meth c cc nL RX10 G) (hd : Dy G S s H locs) {a : Nat} (hk : kd a = 10) (hdg : decode cc pc = .ok (.getfield 180, 3)) (kk : W p l e R s m args below meth c H locs cells slots Q (F0 m (pc + 3) ls (.int (S a 18) :: rest))) : W p l e R s m args below meth c H locs cells slots Q (F0 m pc ls (.ref (gR G a) :: rest)) := R_get (ci := 10) (j := 18) (t := 0) C hd uX10 rfl (by decide) (by decide) rfl wd1199 rfl hk rfl hdg kk
theorem gX10_187 (C : Cx p s m args meth c cc nL RX10 G) (hd : Dy G S s H locs) {a : Nat} (hk : kd a = 10) (hdg : decode cc pc = .ok (.getfield 187, 3)) (kk : W p l e R s m args below meth c H locs cells slots Q (F0 m (pc + 3) ls (.int (S a 22) :: rest))) : W p l e R s m args below meth c H locs cells slots Q (F0 m pc ls (.ref (gR G a) :: rest)) := R_get (ci := 10) (j := 22) (t := 0) C hd uX10 rfl (by decide) (by decide) rfl wd1203 rfl hk rfl hdg kk
theorem gX10_190 (C : Cx p s m args meth c cc nL RX10 G) (hd : Dy G S s H locs) {a : Nat} (hk : kd a = 10) (hdg : decode cc pc = .ok (.getfield 190, 3)) (kk : W p l e R s m args below meth c H locs cells slots Q (F0 m (pc + 3) ls (.int (S a 20) :: rest))) : W p l e R s m args below meth c H locs cells slots Q (F0 m pc ls (.ref (gR G a) :: rest)) := R_get (ci := 10) (j := 20) (t := 0) C hd uX10 rfl (by decide) (by decide) rfl wd1201 rfl hk rfl hdg kk
theorem gX10_200 (C : Cx p s m args meth c cc nL RX10 G) (hd : Dy G S s H locs) {a : Nat} (hk : kd a = 10) (hdg : decode cc pc = .ok (.getfield 200, 3)) (kk : W p l e R s m args below meth c H locs cells slots Q (F0 m (pc + 3) ls (.int (S a 21) :: rest))) : W p l e R s m args below meth c H locs cells slots Q (F0 m pc ls (.ref (gR G a) :: rest)) := R_get (ci := 10) (j := 21) (t := 0) C hd uX10 rfl (by decide) (by decide) rfl wd1202 rfl hk rfl hdg kk
theorem gX10_213 (C : Cx p s m args meth c cc nL RX10 G) (hd : Dy G S s H locs) {a : Nat} (hk : kd a = 10) (hdg : decode cc pc = .ok (.getfield 213, 3)) (kk : W p l e R s m args below meth c H locs cells slots Q (F0 m (pc + 3) ls (.int (S a 23) :: rest))) : W p l e R s m args below meth c H locs cells slots Q (F0 m pc ls (.ref (gR G a) :: rest)) := R_get (ci := 10) (j := 23) (t := 0) C hd uX10 rfl (by decide) (by decide) rfl wd1204 rfl hk rfl hdg kk
theorem gX10_216 (C : Cx p s m args meth c cc nL RX10 G) (hd : Dy G S s H locs) {a : Nat} (hk : kd a = 10) (hdg : decode cc pc = .ok (.getfield 216, 3)) (kk : W p l e R s m args below meth c H locs cells slots Q (F0 m (pc + 3) ls (.int (S a 24) :: rest))) : W p l e R s m args below meth c H locs cells slots Q (F0 m pc ls (.ref (gR G a) :: rest)) := R_get (ci := 10) (j := 24) (t := 0) C hd uX10 rfl (by decide) (by decide) rfl wd1205 rfl hk rfl hdg kk
theorem gX10_219 (C : Cx p s m args meth c cc nL RX10 G) (hd : Dy G S s H locs) {a : Nat} (hk : kd a = 10) (hdg : decode cc pc = .ok (.getfield 219, 3)) (kk : W p l e R s m args below meth c H locs cells slots Q (F0 m (pc + 3) ls (.int (S a 25) :: rest))) : W p l e R s m args below meth c H locs cells slots Q (F0 m pc ls (.ref (gR G a) :: rest)) := R_get (ci := 10) (j := 25) (t := 0) C hd uX10 rfl (by decide) (by decide) rfl wd1206 rfl hk rfl hdg kk
theorem gX10_250 (C : Cx p s m args meth c cc nL RX10 G) (hd : Dy G S s H locs) {a : Nat} (hk : kd a = 10) (hdg : decode cc pc = .ok (.getfield 250, 3)) (kk : W p l e R s m args below meth c H locs cells slots Q (F0 m (pc + 3) ls (.int (S a 27) :: rest))) : W p l e R s m args below meth c H locs cells slots Q (F0 m pc ls (.ref (gR G a) :: rest)) := R_get (ci := 10) (j := 27) (t := 0) C hd uX10 rfl (by decide) (by decide) rfl wd1208 rfl hk rfl hdg kk
theorem gX10_338 (C : Cx p s m args meth c cc nL RX10 G) (hd : Dy G S s H locs) {a : Nat} (hk : kd a = 10) (hdg : decode cc pc = .ok (.getfield 338, 3)) (kk : W p l e R s m args below meth c H locs cells slots Q (F0 m (pc + 3) ls (.int (S a 34) :: rest))) : W p l e R s m args below meth c H locs cells slots Q (F0 m pc ls (.ref (gR G a) :: rest)) := R_get (ci := 10) (j := 34) (t := 0) C hd uX10 rfl (by decide) (by decide) rfl wd1215 rfl hk rfl hdg kk
theorem gX10_340 (C : Cx p s m args meth c cc nL RX10 G) (hd : Dy G S s H locs) {a : Nat} (hk : kd a = 10) (hdg : decode cc pc = .ok (.getfield 340, 3)) (kk : W p l e R s m args below meth c H locs cells slots Q (F0 m (pc + 3) ls (.int (S a 35) :: rest))) : W p l e R s m args below meth c H locs cells slots Q (F0 m pc ls (.ref (gR G a) :: rest)) := R_get (ci := 10) (j := 35) (t := 0) C hd uX10 rfl (by decide) (by decide) rfl wd1216 rfl hk rfl hdg kk
theorem gX10_346 (C : Cx p s m args meth c cc nL RX10 G) (hd : Dy G S s H locs) {a : Nat} (hk : kd a = 10) (hdg : decode cc pc = .ok (.getfield 346, 3)) (kk : W p l e R s m args below meth c H locs cells slots Q (F0 m (pc + 3) ls (.int (S a 36) :: rest))) : W p l e R s m args below meth c H locs cells slots Q (F0 m pc ls (.ref (gR G a) :: rest)) := R_get (ci := 10) (j := 36) (t := 0) C hd uX10 rfl (by decide) (by decide) rfl wd1217 rfl hk rfl hdg kk
theorem gX10_349 (C : Cx p s m args meth c cc nL RX10 G) (hd : Dy G S s H locs) {a : Nat} (hk : kd a = 10) (hdg : decode cc pc = .ok (.getfield 349, 3)) (kk : W p l e R s m args below meth c H locs cells slots Q (F0 m (pc + 3) ls (.int (S a 37) :: rest))) : W p l e R s m args below meth c H locs cells slots Q (F0 m pc ls (.ref (gR G a) :: rest)) := R_get (ci := 10) (j := 37) (t := 0) C hd uX10 rfl (by decide) (by decide) rfl wd1218 rfl hk rfl hdg kk
theorem gX10_352 (C : Cx p s m args meth c cc nL RX10 G) (hd : Dy G S s H locs) {a : Nat} (hk : kd a = 10) (hdg : decode cc pc = .ok (.getfield 352, 3)) (kk : W p l e R s m args below meth c H locs cells slots Q (F0 m (pc + 3) ls (.int (S a 57) :: rest))) : W p l e R s m args below meth c H locs cells slots Q (F0 m pc ls (.ref (gR G a) :: rest)) := R_get (ci := 10) (j := 57) (t := 0) C hd uX10 rfl (by decide) (by decide) rfl wd1238 rfl hk rfl hdg kk
theorem gX10_452 (C : Cx p s m args meth c cc nL RX10 G) (hd : Dy G S s H locs) {a : Nat} (hk : kd a = 10) (hdg : decode cc pc = .ok (.getfield 452, 3)) (kk : W p l e R s m args below meth c H locs cells slots Q (F0 m (pc + 3) ls (.int (S a 55) :: rest))) : W p l e R s m args below meth c H locs cells slots Q (F0 m pc ls (.ref (gR G a) :: rest)) := R_get (ci := 10) (j := 55) (t := 0) C hd uX10 rfl (by decide) (by decide) rfl wd1236 rfl hk rfl hdg kk
theorem gX10_473 (C : Cx p s m args meth c cc nL RX10 G) (hd : Dy G S s H locs) {a : Nat} (hk : kd a = 10) (hdg : decode cc pc = .ok (.getfield 473, 3)) (kk : W p l e R s m args below meth c H locs cells slots Q (F0 m (pc + 3) ls (.int (S a 56) :: rest))) : W p l e R s m args below meth c H locs cells slots Q (F0 m pc ls (.ref (gR G a) :: rest)) := R_get (ci := 10) (j := 56) (t := 0) C hd uX10 rfl (by decide) (by decide) rfl wd1237 rfl hk rfl hdg kk
theorem gX10_483 (C : Cx p s m args meth c cc nL RX10 G) (hd : Dy G S s H locs) {a : Nat} (hk : kd a = 10) (hdg : decode cc pc = .ok (.getfield 483, 3)) (kk : W p l e R s m args below meth c H locs cells slots Q (F0 m (pc + 3) ls (.int (S a 58) :: rest))) : W p l e R s m args below meth c H locs cells slots Q (F0 m pc ls (.ref (gR G a) :: rest)) := R_get (ci := 10) (j := 58) (t := 0) C hd uX10 rfl (by decide) (by decide) rfl wd1239 rfl hk rfl hdg kk
theorem gX10_486 (C : Cx p s m args meth c cc nL RX10 G) (hd : Dy G S s H locs) {a : Nat} (hk : kd a = 10) (hdg : decode cc pc = .ok (.getfield 486, 3)) (kk : W p l e R s m args below meth c H locs cells slots Q (F0 m (pc + 3) ls (.int (S a 59) :: rest))) : W p l e R s m args below meth c H locs cells slots Q (F0 m pc ls (.ref (gR G a) :: rest)) := R_get (ci := 10) (j := 59) (t := 0) C hd uX10 rfl (by decide) (by decide) rfl wd1240 rfl hk rfl hdg kk
theorem kr2_1 : ∀ a, a < NC → kd a = 2 → kd (sr a 1) = 20 := by decide +kernel
theorem gX2_9 (C : Cx p s m args meth c cc nL RX2 G) (hd : Dy G S s H locs) {a : Nat} (hk : kd a = 2) {q : Nat} (hq : sr a 1 = q) (hdg : decode cc pc = .ok (.getfield 9, 3)) (kk : kd q = 20 → W p l e R s m args below meth c H locs cells slots Q (F0 m (pc + 3) ls (.ref (gR G q) :: rest))) : W p l e R s m args below meth c H locs cells slots Q (F0 m pc ls (.ref (gR G a) :: rest)) := by
  subst hq
  exact R_get (ci := 2) (j := 1) (t := 1) C hd uX2 rfl (by decide) (by decide) rfl wd194 rfl hk rfl hdg (kk (kr2_1 a (kd_lt hk (by decide)) hk))
theorem kr2_0 : ∀ a, a < NC → kd a = 2 → kd (sr a 0) = 7 := by decide +kernel
theorem gX2_15 (C : Cx p s m args meth c cc nL RX2 G) (hd : Dy G S s H locs) {a : Nat} (hk : kd a = 2) {q : Nat} (hq : sr a 0 = q) (hdg : decode cc pc = .ok (.getfield 15, 3)) (kk : kd q = 7 → W p l e R s m args below meth c H locs cells slots Q (F0 m (pc + 3) ls (.ref (gR G q) :: rest))) : W p l e R s m args below meth c H locs cells slots Q (F0 m pc ls (.ref (gR G a) :: rest)) := by
  subst hq
  exact R_get (ci := 2) (j := 0) (t := 1) C hd uX2 rfl (by decide) (by decide) rfl wd193 rfl hk rfl hdg (kk (kr2_0 a (kd_lt hk (by decide)) hk))
theorem gX2_19 (C : Cx p s m args meth c cc nL RX2 G) (hd : Dy G S s H locs) {a : Nat} (hk : kd a = 2) (hdg : decode cc pc = .ok (.getfield 19, 3)) (kk : W p l e R s m args below meth c H locs cells slots Q (F0 m (pc + 3) ls (.int (S a 2) :: rest))) : W p l e R s m args below meth c H locs cells slots Q (F0 m pc ls (.ref (gR G a) :: rest)) := R_get (ci := 2) (j := 2) (t := 0) C hd uX2 rfl (by decide) (by decide) rfl wd195 rfl hk rfl hdg kk
theorem gX2_23 (C : Cx p s m args meth c cc nL RX2 G) (hd : Dy G S s H locs) {a : Nat} (hk : kd a = 2) (hdg : decode cc pc = .ok (.getfield 23, 3)) (kk : W p l e R s m args below meth c H locs cells slots Q (F0 m (pc + 3) ls (.int (S a 3) :: rest))) : W p l e R s m args below meth c H locs cells slots Q (F0 m pc ls (.ref (gR G a) :: rest)) := R_get (ci := 2) (j := 3) (t := 0) C hd uX2 rfl (by decide) (by decide) rfl wd196 rfl hk rfl hdg kk
theorem gX2_36 (C : Cx p s m args meth c cc nL RX2 G) (hd : Dy G S s H locs) {a : Nat} (hk : kd a = 2) (hdg : decode cc pc = .ok (.getfield 36, 3)) (kk : W p l e R s m args below meth c H locs cells slots Q (F0 m (pc + 3) ls (.int (S a 5) :: rest))) : W p l e R s m args below meth c H locs cells slots Q (F0 m pc ls (.ref (gR G a) :: rest)) := R_get (ci := 2) (j := 5) (t := 0) C hd uX2 rfl (by decide) (by decide) rfl wd198 rfl hk rfl hdg kk
theorem gX2_56 (C : Cx p s m args meth c cc nL RX2 G) (hd : Dy G S s H locs) {a : Nat} (hk : kd a = 2) (hdg : decode cc pc = .ok (.getfield 56, 3)) (kk : W p l e R s m args below meth c H locs cells slots Q (F0 m (pc + 3) ls (.int (S a 6) :: rest))) : W p l e R s m args below meth c H locs cells slots Q (F0 m pc ls (.ref (gR G a) :: rest)) := R_get (ci := 2) (j := 6) (t := 0) C hd uX2 rfl (by decide) (by decide) rfl wd199 rfl hk rfl hdg kk
theorem gX2_59 (C : Cx p s m args meth c cc nL RX2 G) (hd : Dy G S s H locs) {a : Nat} (hk : kd a = 2) (hdg : decode cc pc = .ok (.getfield 59, 3)) (kk : W p l e R s m args below meth c H locs cells slots Q (F0 m (pc + 3) ls (.int (S a 4) :: rest))) : W p l e R s m args below meth c H locs cells slots Q (F0 m pc ls (.ref (gR G a) :: rest)) := R_get (ci := 2) (j := 4) (t := 0) C hd uX2 rfl (by decide) (by decide) rfl wd197 rfl hk rfl hdg kk
theorem gX2_62 (C : Cx p s m args meth c cc nL RX2 G) (hd : Dy G S s H locs) {a : Nat} (hk : kd a = 7) (hdg : decode cc pc = .ok (.getfield 62, 3)) (kk : W p l e R s m args below meth c H locs cells slots Q (F0 m (pc + 3) ls (.int (S a 3) :: rest))) : W p l e R s m args below meth c H locs cells slots Q (F0 m pc ls (.ref (gR G a) :: rest)) := R_get (ci := 7) (j := 3) (t := 0) C hd uX7 rfl (by decide) (by decide) rfl wd168 rfl hk rfl hdg kk
theorem gX2_82 (C : Cx p s m args meth c cc nL RX2 G) (hd : Dy G S s H locs) {a : Nat} (hk : kd a = 7) (hdg : decode cc pc = .ok (.getfield 82, 3)) (kk : W p l e R s m args below meth c H locs cells slots Q (F0 m (pc + 3) ls (.int (S a 5) :: rest))) : W p l e R s m args below meth c H locs cells slots Q (F0 m pc ls (.ref (gR G a) :: rest)) := R_get (ci := 7) (j := 5) (t := 0) C hd uX7 rfl (by decide) (by decide) rfl wd172 rfl hk rfl hdg kk
theorem kr3_4 : ∀ a, a < NC → kd a = 3 → kd (sr a 4) = 20 := by decide +kernel
theorem gX3_7 (C : Cx p s m args meth c cc nL RX3 G) (hd : Dy G S s H locs) {a : Nat} (hk : kd a = 3) {q : Nat} (hq : sr a 4 = q) (hdg : decode cc pc = .ok (.getfield 7, 3)) (kk : kd q = 20 → W p l e R s m args below meth c H locs cells slots Q (F0 m (pc + 3) ls (.ref (gR G q) :: rest))) : W p l e R s m args below meth c H locs cells slots Q (F0 m pc ls (.ref (gR G a) :: rest)) := by
  subst hq
  exact R_get (ci := 3) (j := 4) (t := 1) C hd uX3 rfl (by decide) (by decide) rfl wd52 rfl hk rfl hdg (kk (kr3_4 a (kd_lt hk (by decide)) hk))
theorem kr3_1 : ∀ a, a < NC → kd a = 3 → kd (sr a 1) = 20 := by decide +kernel
theorem gX3_13 (C : Cx p s m args meth c cc nL RX3 G) (hd : Dy G S s H locs) {a : Nat} (hk : kd a = 3) {q : Nat} (hq : sr a 1 = q) (hdg : decode cc pc = .ok (.getfield 13, 3)) (kk : kd q = 20 → W p l e R s m args below meth c H locs cells slots Q (F0 m (pc + 3) ls (.ref (gR G q) :: rest))) : W p l e R s m args below meth c H locs cells slots Q (F0 m pc ls (.ref (gR G a) :: rest)) := by
  subst hq
  exact R_get (ci := 3) (j := 1) (t := 1) C hd uX3 rfl (by decide) (by decide) rfl wd49 rfl hk rfl hdg (kk (kr3_1 a (kd_lt hk (by decide)) hk))
theorem gX3_20 (C : Cx p s m args meth c cc nL RX3 G) (hd : Dy G S s H locs) {a : Nat} (hk : kd a = 3) (hdg : decode cc pc = .ok (.getfield 20, 3)) (kk : W p l e R s m args below meth c H locs cells slots Q (F0 m (pc + 3) ls (.int (S a 2) :: rest))) : W p l e R s m args below meth c H locs cells slots Q (F0 m pc ls (.ref (gR G a) :: rest)) := R_get (ci := 3) (j := 2) (t := 0) C hd uX3 rfl (by decide) (by decide) rfl wd50 rfl hk rfl hdg kk
theorem gX3_24 (C : Cx p s m args meth c cc nL RX3 G) (hd : Dy G S s H locs) {a : Nat} (hk : kd a = 3) (hdg : decode cc pc = .ok (.getfield 24, 3)) (kk : W p l e R s m args below meth c H locs cells slots Q (F0 m (pc + 3) ls (.int (S a 3) :: rest))) : W p l e R s m args below meth c H locs cells slots Q (F0 m pc ls (.ref (gR G a) :: rest)) := R_get (ci := 3) (j := 3) (t := 0) C hd uX3 rfl (by decide) (by decide) rfl wd51 rfl hk rfl hdg kk
theorem gX4_9 (C : Cx p s m args meth c cc nL RX4 G) (hd : Dy G S s H locs) {a : Nat} (hk : kd a = 4) {q : Nat} (hq : sr a 0 = q) (hdg : decode cc pc = .ok (.getfield 9, 3)) (kk : kd q = 20 → W p l e R s m args below meth c H locs cells slots Q (F0 m (pc + 3) ls (.ref (gR G q) :: rest))) : W p l e R s m args below meth c H locs cells slots Q (F0 m pc ls (.ref (gR G a) :: rest)) := by
  subst hq
  exact R_get (ci := 4) (j := 0) (t := 1) C hd uX4 rfl (by decide) (by decide) rfl wd240 rfl hk rfl hdg (kk (kr4_0 a (kd_lt hk (by decide)) hk))
theorem kr4_1 : ∀ a, a < NC → kd a = 4 → kd (sr a 1) = 22 := by decide +kernel
theorem gX4_17 (C : Cx p s m args meth c cc nL RX4 G) (hd : Dy G S s H locs) {a : Nat} (hk : kd a = 4) {q : Nat} (hq : sr a 1 = q) (hdg : decode cc pc = .ok (.getfield 17, 3)) (kk : kd q = 22 → W p l e R s m args below meth c H locs cells slots Q (F0 m (pc + 3) ls (.ref (gR G q) :: rest))) : W p l e R s m args below meth c H locs cells slots Q (F0 m pc ls (.ref (gR G a) :: rest)) := by
  subst hq
  exact R_get (ci := 4) (j := 1) (t := 1) C hd uX4 rfl (by decide) (by decide) rfl wd243 rfl hk rfl hdg (kk (kr4_1 a (kd_lt hk (by decide)) hk))
theorem gX4_20 (C : Cx p s m args meth c cc nL RX4 G) (hd : Dy G S s H locs) {a : Nat} (hk : kd a = 4) {q : Nat} (hq : sr a 5 = q) (hdg : decode cc pc = .ok (.getfield 20, 3)) (kk : kd q = 20 → W p l e R s m args below meth c H locs cells slots Q (F0 m (pc + 3) ls (.ref (gR G q) :: rest))) : W p l e R s m args below meth c H locs cells slots Q (F0 m pc ls (.ref (gR G a) :: rest)) := by
  subst hq
  exact R_get (ci := 4) (j := 5) (t := 1) C hd uX4 rfl (by decide) (by decide) rfl wd250 rfl hk rfl hdg (kk (kr4_5 a (kd_lt hk (by decide)) hk))
theorem gX4_23 (C : Cx p s m args meth c cc nL RX4 G) (hd : Dy G S s H locs) {a : Nat} (hk : kd a = 4) {q : Nat} (hq : sr a 6 = q) (hdg : decode cc pc = .ok (.getfield 23, 3)) (kk : kd q = 20 → W p l e R s m args below meth c H locs cells slots Q (F0 m (pc + 3) ls (.ref (gR G q) :: rest))) : W p l e R s m args below meth c H locs cells slots Q (F0 m pc ls (.ref (gR G a) :: rest)) := by
  subst hq
  exact R_get (ci := 4) (j := 6) (t := 1) C hd uX4 rfl (by decide) (by decide) rfl wd252 rfl hk rfl hdg (kk (kr4_6 a (kd_lt hk (by decide)) hk))
theorem gX4_26 (C : Cx p s m args meth c cc nL RX4 G) (hd : Dy G S s H locs) {a : Nat} (hk : kd a = 4) {q : Nat} (hq : sr a 7 = q) (hdg : decode cc pc = .ok (.getfield 26, 3)) (kk : kd q = 20 → W p l e R s m args below meth c H locs cells slots Q (F0 m (pc + 3) ls (.ref (gR G q) :: rest))) : W p l e R s m args below meth c H locs cells slots Q (F0 m pc ls (.ref (gR G a) :: rest)) := by
  subst hq
  exact R_get (ci := 4) (j := 7) (t := 1) C hd uX4 rfl (by decide) (by decide) rfl wd254 rfl hk rfl hdg (kk (kr4_7 a (kd_lt hk (by decide)) hk))
theorem kr4_8 : ∀ a, a < NC → kd a = 4 → kd (sr a 8) = 20 := by decide +kernel
theorem gX4_29 (C : Cx p s m args meth c cc nL RX4 G) (hd : Dy G S s H locs) {a : Nat} (hk : kd a = 4) {q : Nat} (hq : sr a 8 = q) (hdg : decode cc pc = .ok (.getfield 29, 3)) (kk : kd q = 20 → W p l e R s m args below meth c H locs cells slots Q (F0 m (pc + 3) ls (.ref (gR G q) :: rest))) : W p l e R s m args below meth c H locs cells slots Q (F0 m pc ls (.ref (gR G a) :: rest)) := by
  subst hq
  exact R_get (ci := 4) (j := 8) (t := 1) C hd uX4 rfl (by decide) (by decide) rfl wd256 rfl hk rfl hdg (kk (kr4_8 a (kd_lt hk (by decide)) hk))
theorem kr8_10 : ∀ a, a < NC → kd a = 8 → kd (sr a 10) = 20 := by decide +kernel
theorem gX4_38 (C : Cx p s m args meth c cc nL RX4 G) (hd : Dy G S s H locs) {a : Nat} (hk : kd a = 8) {q : Nat} (hq : sr a 10 = q) (hdg : decode cc pc = .ok (.getfield 38, 3)) (kk : kd q = 20 → W p l e R s m args below meth c H locs cells slots Q (F0 m (pc + 3) ls (.ref (gR G q) :: rest))) : W p l e R s m args below meth c H locs cells slots Q (F0 m pc ls (.ref (gR G a) :: rest)) := by
  subst hq
  exact R_get (ci := 8) (j := 10) (t := 1) C hd uX8 rfl (by decide) (by decide) rfl wd111 rfl hk rfl hdg (kk (kr8_10 a (kd_lt hk (by decide)) hk))
theorem kr8_9 : ∀ a, a < NC → kd a = 8 → kd (sr a 9) = 20 := by decide +kernel
theorem gX4_49 (C : Cx p s m args meth c cc nL RX4 G) (hd : Dy G S s H locs) {a : Nat} (hk : kd a = 8) {q : Nat} (hq : sr a 9 = q) (hdg : decode cc pc = .ok (.getfield 49, 3)) (kk : kd q = 20 → W p l e R s m args below meth c H locs cells slots Q (F0 m (pc + 3) ls (.ref (gR G q) :: rest))) : W p l e R s m args below meth c H locs cells slots Q (F0 m pc ls (.ref (gR G a) :: rest)) := by
  subst hq
  exact R_get (ci := 8) (j := 9) (t := 1) C hd uX8 rfl (by decide) (by decide) rfl wd108 rfl hk rfl hdg (kk (kr8_9 a (kd_lt hk (by decide)) hk))
theorem kr8_11 : ∀ a, a < NC → kd a = 8 → kd (sr a 11) = 20 := by decide +kernel
theorem gX4_52 (C : Cx p s m args meth c cc nL RX4 G) (hd : Dy G S s H locs) {a : Nat} (hk : kd a = 8) {q : Nat} (hq : sr a 11 = q) (hdg : decode cc pc = .ok (.getfield 52, 3)) (kk : kd q = 20 → W p l e R s m args below meth c H locs cells slots Q (F0 m (pc + 3) ls (.ref (gR G q) :: rest))) : W p l e R s m args below meth c H locs cells slots Q (F0 m pc ls (.ref (gR G a) :: rest)) := by
  subst hq
  exact R_get (ci := 8) (j := 11) (t := 1) C hd uX8 rfl (by decide) (by decide) rfl wd114 rfl hk rfl hdg (kk (kr8_11 a (kd_lt hk (by decide)) hk))
theorem gX4_55 (C : Cx p s m args meth c cc nL RX4 G) (hd : Dy G S s H locs) {a : Nat} (hk : kd a = 4) (hdg : decode cc pc = .ok (.getfield 55, 3)) (kk : W p l e R s m args below meth c H locs cells slots Q (F0 m (pc + 3) ls (.int (S a 2) :: rest))) : W p l e R s m args below meth c H locs cells slots Q (F0 m pc ls (.ref (gR G a) :: rest)) := R_get (ci := 4) (j := 2) (t := 0) C hd uX4 rfl (by decide) (by decide) rfl wd244 rfl hk rfl hdg kk
theorem gX4_59 (C : Cx p s m args meth c cc nL RX4 G) (hd : Dy G S s H locs) {a : Nat} (hk : kd a = 4) (hdg : decode cc pc = .ok (.getfield 59, 3)) (kk : W p l e R s m args below meth c H locs cells slots Q (F0 m (pc + 3) ls (.int (S a 3) :: rest))) : W p l e R s m args below meth c H locs cells slots Q (F0 m pc ls (.ref (gR G a) :: rest)) := R_get (ci := 4) (j := 3) (t := 0) C hd uX4 rfl (by decide) (by decide) rfl wd245 rfl hk rfl hdg kk
theorem gX4_62 (C : Cx p s m args meth c cc nL RX4 G) (hd : Dy G S s H locs) {a : Nat} (hk : kd a = 4) (hdg : decode cc pc = .ok (.getfield 62, 3)) (kk : W p l e R s m args below meth c H locs cells slots Q (F0 m (pc + 3) ls (.int (S a 4) :: rest))) : W p l e R s m args below meth c H locs cells slots Q (F0 m pc ls (.ref (gR G a) :: rest)) := R_get (ci := 4) (j := 4) (t := 0) C hd uX4 rfl (by decide) (by decide) rfl wd247 rfl hk rfl hdg kk
theorem kr5_0 : ∀ a, a < NC → kd a = 5 → kd (sr a 0) = 20 := by decide +kernel
theorem gX5_9 (C : Cx p s m args meth c cc nL RX5 G) (hd : Dy G S s H locs) {a : Nat} (hk : kd a = 5) {q : Nat} (hq : sr a 0 = q) (hdg : decode cc pc = .ok (.getfield 9, 3)) (kk : kd q = 20 → W p l e R s m args below meth c H locs cells slots Q (F0 m (pc + 3) ls (.ref (gR G q) :: rest))) : W p l e R s m args below meth c H locs cells slots Q (F0 m pc ls (.ref (gR G a) :: rest)) := by
  subst hq
  exact R_get (ci := 5) (j := 0) (t := 1) C hd uX5 rfl (by decide) (by decide) rfl wd343 rfl hk rfl hdg (kk (kr5_0 a (kd_lt hk (by decide)) hk))
theorem gX5_15 (C : Cx p s m args meth c cc nL RX5 G) (hd : Dy G S s H locs) {a : Nat} (hk : kd a = 8) (hdg : decode cc pc = .ok (.getfield 15, 3)) (kk : W p l e R s m args below meth c H locs cells slots Q (F0 m (pc + 3) ls (.int (S a 0) :: rest))) : W p l e R s m args below meth c H locs cells slots Q (F0 m pc ls (.ref (gR G a) :: rest)) := R_get (ci := 8) (j := 0) (t := 0) C hd uX8 rfl (by decide) (by decide) rfl wd67 rfl hk rfl hdg kk
theorem gX5_25 (C : Cx p s m args meth c cc nL RX5 G) (hd : Dy G S s H locs) {a : Nat} (hk : kd a = 8) {q : Nat} (hq : sr a 4 = q) (hdg : decode cc pc = .ok (.getfield 25, 3)) (kk : kd q = 20 → W p l e R s m args below meth c H locs cells slots Q (F0 m (pc + 3) ls (.ref (gR G q) :: rest))) : W p l e R s m args below meth c H locs cells slots Q (F0 m pc ls (.ref (gR G a) :: rest)) := by
  subst hq
  exact R_get (ci := 8) (j := 4) (t := 1) C hd uX8 rfl (by decide) (by decide) rfl wd87 rfl hk rfl hdg (kk (kr8_4 a (kd_lt hk (by decide)) hk))
theorem kr8_5 : ∀ a, a < NC → kd a = 8 → kd (sr a 5) = 20 := by decide +kernel
theorem gX5_28 (C : Cx p s m args meth c cc nL RX5 G) (hd : Dy G S s H locs) {a : Nat} (hk : kd a = 8) {q : Nat} (hq : sr a 5 = q) (hdg : decode cc pc = .ok (.getfield 28, 3)) (kk : kd q = 20 → W p l e R s m args below meth c H locs cells slots Q (F0 m (pc + 3) ls (.ref (gR G q) :: rest))) : W p l e R s m args below meth c H locs cells slots Q (F0 m pc ls (.ref (gR G a) :: rest)) := by
  subst hq
  exact R_get (ci := 8) (j := 5) (t := 1) C hd uX8 rfl (by decide) (by decide) rfl wd92 rfl hk rfl hdg (kk (kr8_5 a (kd_lt hk (by decide)) hk))
theorem gX5_52 (C : Cx p s m args meth c cc nL RX5 G) (hd : Dy G S s H locs) {a : Nat} (hk : kd a = 8) {q : Nat} (hq : sr a 7 = q) (hdg : decode cc pc = .ok (.getfield 52, 3)) (kk : kd q = 20 → W p l e R s m args below meth c H locs cells slots Q (F0 m (pc + 3) ls (.ref (gR G q) :: rest))) : W p l e R s m args below meth c H locs cells slots Q (F0 m pc ls (.ref (gR G a) :: rest)) := by
  subst hq
  exact R_get (ci := 8) (j := 7) (t := 1) C hd uX8 rfl (by decide) (by decide) rfl wd100 rfl hk rfl hdg (kk (kr8_7 a (kd_lt hk (by decide)) hk))
theorem gX5_58 (C : Cx p s m args meth c cc nL RX5 G) (hd : Dy G S s H locs) {a : Nat} (hk : kd a = 8) (hdg : decode cc pc = .ok (.getfield 58, 3)) (kk : W p l e R s m args below meth c H locs cells slots Q (F0 m (pc + 3) ls (.int (S a 2) :: rest))) : W p l e R s m args below meth c H locs cells slots Q (F0 m pc ls (.ref (gR G a) :: rest)) := R_get (ci := 8) (j := 2) (t := 0) C hd uX8 rfl (by decide) (by decide) rfl wd80 rfl hk rfl hdg kk
theorem gX5_65 (C : Cx p s m args meth c cc nL RX5 G) (hd : Dy G S s H locs) {a : Nat} (hk : kd a = 8) {q : Nat} (hq : sr a 3 = q) (hdg : decode cc pc = .ok (.getfield 65, 3)) (kk : kd q = 20 → W p l e R s m args below meth c H locs cells slots Q (F0 m (pc + 3) ls (.ref (gR G q) :: rest))) : W p l e R s m args below meth c H locs cells slots Q (F0 m pc ls (.ref (gR G a) :: rest)) := by
  subst hq
  exact R_get (ci := 8) (j := 3) (t := 1) C hd uX8 rfl (by decide) (by decide) rfl wd84 rfl hk rfl hdg (kk (kr8_3 a (kd_lt hk (by decide)) hk))
theorem kr6_0 : ∀ a, a < NC → kd a = 6 → kd (sr a 0) = 7 := by decide +kernel
theorem gX6_14 (C : Cx p s m args meth c cc nL RX6 G) (hd : Dy G S s H locs) {a : Nat} (hk : kd a = 6) {q : Nat} (hq : sr a 0 = q) (hdg : decode cc pc = .ok (.getfield 14, 3)) (kk : kd q = 7 → W p l e R s m args below meth c H locs cells slots Q (F0 m (pc + 3) ls (.ref (gR G q) :: rest))) : W p l e R s m args below meth c H locs cells slots Q (F0 m pc ls (.ref (gR G a) :: rest)) := by
  subst hq
  exact R_get (ci := 6) (j := 0) (t := 1) C hd uX6 rfl (by decide) (by decide) rfl wd215 rfl hk rfl hdg (kk (kr6_0 a (kd_lt hk (by decide)) hk))
theorem kr6_1 : ∀ a, a < NC → kd a = 6 → kd (sr a 1) = 2 := by decide +kernel
theorem gX6_25 (C : Cx p s m args meth c cc nL RX6 G) (hd : Dy G S s H locs) {a : Nat} (hk : kd a = 6) {q : Nat} (hq : sr a 1 = q) (hdg : decode cc pc = .ok (.getfield 25, 3)) (kk : kd q = 2 → W p l e R s m args below meth c H locs cells slots Q (F0 m (pc + 3) ls (.ref (gR G q) :: rest))) : W p l e R s m args below meth c H locs cells slots Q (F0 m pc ls (.ref (gR G a) :: rest)) := by
  subst hq
  exact R_get (ci := 6) (j := 1) (t := 1) C hd uX6 rfl (by decide) (by decide) rfl wd216 rfl hk rfl hdg (kk (kr6_1 a (kd_lt hk (by decide)) hk))
theorem gX6_29 (C : Cx p s m args meth c cc nL RX6 G) (hd : Dy G S s H locs) {a : Nat} (hk : kd a = 6) {β : Type} {k : Nat → Option β} {res : β} (h : gm S a 2 8 k = some res) (hdg : decode cc pc = .ok (.getfield 29, 3)) (kk : ∀ q : Nat, kd q = 8 → k q = some res → W p l e R s m args below meth c H locs cells slots Q (F0 m (pc + 3) ls (.ref (gR G q) :: rest))) : W p l e R s m args below meth c H locs cells slots Q (F0 m pc ls (.ref (gR G a) :: rest)) := by
  unfold gm at h
  split at h
  · rename_i hq
    exact R_get (ci := 6) (j := 2) (t := 2) C hd uX6 rfl (by decide) (by decide) rfl wd217 rfl hk rfl hdg (kk _ hq h)
  · cases h
theorem gX6_38 (C : Cx p s m args meth c cc nL RX6 G) (hd : Dy G S s H locs) {a : Nat} (hk : kd a = 6) (hdg : decode cc pc = .ok (.getfield 38, 3)) (kk : W p l e R s m args below meth c H locs cells slots Q (F0 m (pc + 3) ls (.int (S a 3) :: rest))) : W p l e R s m args below meth c H locs cells slots Q (F0 m pc ls (.ref (gR G a) :: rest)) := R_get (ci := 6) (j := 3) (t := 0) C hd uX6 rfl (by decide) (by decide) rfl wd218 rfl hk rfl hdg kk
theorem gX6_49 (C : Cx p s m args meth c cc nL RX6 G) (hd : Dy G S s H locs) {a : Nat} (hk : kd a = 7) (hdg : decode cc pc = .ok (.getfield 49, 3)) (kk : W p l e R s m args below meth c H locs cells slots Q (F0 m (pc + 3) ls (.int (S a 3) :: rest))) : W p l e R s m args below meth c H locs cells slots Q (F0 m pc ls (.ref (gR G a) :: rest)) := R_get (ci := 7) (j := 3) (t := 0) C hd uX7 rfl (by decide) (by decide) rfl wd166 rfl hk rfl hdg kk
theorem gX6_83 (C : Cx p s m args meth c cc nL RX6 G) (hd : Dy G S s H locs) {a : Nat} (hk : kd a = 8) {q : Nat} (hq : sr a 12 = q) (hdg : decode cc pc = .ok (.getfield 83, 3)) (kk : kd q = 3 → W p l e R s m args below meth c H locs cells slots Q (F0 m (pc + 3) ls (.ref (gR G q) :: rest))) : W p l e R s m args below meth c H locs cells slots Q (F0 m pc ls (.ref (gR G a) :: rest)) := by
  subst hq
  exact R_get (ci := 8) (j := 12) (t := 1) C hd uX8 rfl (by decide) (by decide) rfl wd117 rfl hk rfl hdg (kk (kr8_12 a (kd_lt hk (by decide)) hk))
theorem gX6_92 (C : Cx p s m args meth c cc nL RX6 G) (hd : Dy G S s H locs) {a : Nat} (hk : kd a = 8) {q : Nat} (hq : sr a 13 = q) (hdg : decode cc pc = .ok (.getfield 92, 3)) (kk : kd q = 3 → W p l e R s m args below meth c H locs cells slots Q (F0 m (pc + 3) ls (.ref (gR G q) :: rest))) : W p l e R s m args below meth c H locs cells slots Q (F0 m pc ls (.ref (gR G a) :: rest)) := by
  subst hq
  exact R_get (ci := 8) (j := 13) (t := 1) C hd uX8 rfl (by decide) (by decide) rfl wd120 rfl hk rfl hdg (kk (kr8_13 a (kd_lt hk (by decide)) hk))
theorem gX6_101 (C : Cx p s m args meth c cc nL RX6 G) (hd : Dy G S s H locs) {a : Nat} (hk : kd a = 7) (hdg : decode cc pc = .ok (.getfield 101, 3)) (kk : W p l e R s m args below meth c H locs cells slots Q (F0 m (pc + 3) ls (.int (S a 4) :: rest))) : W p l e R s m args below meth c H locs cells slots Q (F0 m pc ls (.ref (gR G a) :: rest)) := R_get (ci := 7) (j := 4) (t := 0) C hd uX7 rfl (by decide) (by decide) rfl wd169 rfl hk rfl hdg kk
theorem gX6_114 (C : Cx p s m args meth c cc nL RX6 G) (hd : Dy G S s H locs) {a : Nat} (hk : kd a = 7) (hdg : decode cc pc = .ok (.getfield 114, 3)) (kk : W p l e R s m args below meth c H locs cells slots Q (F0 m (pc + 3) ls (.int (S a 5) :: rest))) : W p l e R s m args below meth c H locs cells slots Q (F0 m pc ls (.ref (gR G a) :: rest)) := R_get (ci := 7) (j := 5) (t := 0) C hd uX7 rfl (by decide) (by decide) rfl wd173 rfl hk rfl hdg kk
theorem gX6_117 (C : Cx p s m args meth c cc nL RX6 G) (hd : Dy G S s H locs) {a : Nat} (hk : kd a = 8) (hdg : decode cc pc = .ok (.getfield 117, 3)) (kk : W p l e R s m args below meth c H locs cells slots Q (F0 m (pc + 3) ls (.int (S a 0) :: rest))) : W p l e R s m args below meth c H locs cells slots Q (F0 m pc ls (.ref (gR G a) :: rest)) := R_get (ci := 8) (j := 0) (t := 0) C hd uX8 rfl (by decide) (by decide) rfl wd71 rfl hk rfl hdg kk
theorem gX6_124 (C : Cx p s m args meth c cc nL RX6 G) (hd : Dy G S s H locs) {a : Nat} (hk : kd a = 8) (hdg : decode cc pc = .ok (.getfield 124, 3)) (kk : W p l e R s m args below meth c H locs cells slots Q (F0 m (pc + 3) ls (.int (S a 2) :: rest))) : W p l e R s m args below meth c H locs cells slots Q (F0 m pc ls (.ref (gR G a) :: rest)) := R_get (ci := 8) (j := 2) (t := 0) C hd uX8 rfl (by decide) (by decide) rfl wd79 rfl hk rfl hdg kk
theorem gX6_127 (C : Cx p s m args meth c cc nL RX6 G) (hd : Dy G S s H locs) {a : Nat} (hk : kd a = 8) {q : Nat} (hq : sr a 3 = q) (hdg : decode cc pc = .ok (.getfield 127, 3)) (kk : kd q = 20 → W p l e R s m args below meth c H locs cells slots Q (F0 m (pc + 3) ls (.ref (gR G q) :: rest))) : W p l e R s m args below meth c H locs cells slots Q (F0 m pc ls (.ref (gR G a) :: rest)) := by
  subst hq
  exact R_get (ci := 8) (j := 3) (t := 1) C hd uX8 rfl (by decide) (by decide) rfl wd83 rfl hk rfl hdg (kk (kr8_3 a (kd_lt hk (by decide)) hk))
theorem gX6_131 (C : Cx p s m args meth c cc nL RX6 G) (hd : Dy G S s H locs) {a : Nat} (hk : kd a = 8) {q : Nat} (hq : sr a 5 = q) (hdg : decode cc pc = .ok (.getfield 131, 3)) (kk : kd q = 20 → W p l e R s m args below meth c H locs cells slots Q (F0 m (pc + 3) ls (.ref (gR G q) :: rest))) : W p l e R s m args below meth c H locs cells slots Q (F0 m pc ls (.ref (gR G a) :: rest)) := by
  subst hq
  exact R_get (ci := 8) (j := 5) (t := 1) C hd uX8 rfl (by decide) (by decide) rfl wd94 rfl hk rfl hdg (kk (kr8_5 a (kd_lt hk (by decide)) hk))
theorem gX6_137 (C : Cx p s m args meth c cc nL RX6 G) (hd : Dy G S s H locs) {a : Nat} (hk : kd a = 8) {q : Nat} (hq : sr a 4 = q) (hdg : decode cc pc = .ok (.getfield 137, 3)) (kk : kd q = 20 → W p l e R s m args below meth c H locs cells slots Q (F0 m (pc + 3) ls (.ref (gR G q) :: rest))) : W p l e R s m args below meth c H locs cells slots Q (F0 m pc ls (.ref (gR G a) :: rest)) := by
  subst hq
  exact R_get (ci := 8) (j := 4) (t := 1) C hd uX8 rfl (by decide) (by decide) rfl wd89 rfl hk rfl hdg (kk (kr8_4 a (kd_lt hk (by decide)) hk))
theorem gX6_140 (C : Cx p s m args meth c cc nL RX6 G) (hd : Dy G S s H locs) {a : Nat} (hk : kd a = 8) (hdg : decode cc pc = .ok (.getfield 140, 3)) (kk : W p l e R s m args below meth c H locs cells slots Q (F0 m (pc + 3) ls (.int (S a 1) :: rest))) : W p l e R s m args below meth c H locs cells slots Q (F0 m pc ls (.ref (gR G a) :: rest)) := R_get (ci := 8) (j := 1) (t := 0) C hd uX8 rfl (by decide) (by decide) rfl wd74 rfl hk rfl hdg kk
theorem gX6_147 (C : Cx p s m args meth c cc nL RX6 G) (hd : Dy G S s H locs) {a : Nat} (hk : kd a = 8) {q : Nat} (hq : sr a 6 = q) (hdg : decode cc pc = .ok (.getfield 147, 3)) (kk : kd q = 20 → W p l e R s m args below meth c H locs cells slots Q (F0 m (pc + 3) ls (.ref (gR G q) :: rest))) : W p l e R s m args below meth c H locs cells slots Q (F0 m pc ls (.ref (gR G a) :: rest)) := by
  subst hq
  exact R_get (ci := 8) (j := 6) (t := 1) C hd uX8 rfl (by decide) (by decide) rfl wd98 rfl hk rfl hdg (kk (kr8_6 a (kd_lt hk (by decide)) hk))
theorem gX6_154 (C : Cx p s m args meth c cc nL RX6 G) (hd : Dy G S s H locs) {a : Nat} (hk : kd a = 8) {q : Nat} (hq : sr a 9 = q) (hdg : decode cc pc = .ok (.getfield 154, 3)) (kk : kd q = 20 → W p l e R s m args below meth c H locs cells slots Q (F0 m (pc + 3) ls (.ref (gR G q) :: rest))) : W p l e R s m args below meth c H locs cells slots Q (F0 m pc ls (.ref (gR G a) :: rest)) := by
  subst hq
  exact R_get (ci := 8) (j := 9) (t := 1) C hd uX8 rfl (by decide) (by decide) rfl wd109 rfl hk rfl hdg (kk (kr8_9 a (kd_lt hk (by decide)) hk))
theorem gX6_157 (C : Cx p s m args meth c cc nL RX6 G) (hd : Dy G S s H locs) {a : Nat} (hk : kd a = 8) {q : Nat} (hq : sr a 8 = q) (hdg : decode cc pc = .ok (.getfield 157, 3)) (kk : kd q = 20 → W p l e R s m args below meth c H locs cells slots Q (F0 m (pc + 3) ls (.ref (gR G q) :: rest))) : W p l e R s m args below meth c H locs cells slots Q (F0 m pc ls (.ref (gR G a) :: rest)) := by
  subst hq
  exact R_get (ci := 8) (j := 8) (t := 1) C hd uX8 rfl (by decide) (by decide) rfl wd106 rfl hk rfl hdg (kk (kr8_8 a (kd_lt hk (by decide)) hk))
theorem gX6_160 (C : Cx p s m args meth c cc nL RX6 G) (hd : Dy G S s H locs) {a : Nat} (hk : kd a = 8) {q : Nat} (hq : sr a 10 = q) (hdg : decode cc pc = .ok (.getfield 160, 3)) (kk : kd q = 20 → W p l e R s m args below meth c H locs cells slots Q (F0 m (pc + 3) ls (.ref (gR G q) :: rest))) : W p l e R s m args below meth c H locs cells slots Q (F0 m pc ls (.ref (gR G a) :: rest)) := by
  subst hq
  exact R_get (ci := 8) (j := 10) (t := 1) C hd uX8 rfl (by decide) (by decide) rfl wd112 rfl hk rfl hdg (kk (kr8_10 a (kd_lt hk (by decide)) hk))
theorem gX6_166 (C : Cx p s m args meth c cc nL RX6 G) (hd : Dy G S s H locs) {a : Nat} (hk : kd a = 8) {q : Nat} (hq : sr a 11 = q) (hdg : decode cc pc = .ok (.getfield 166, 3)) (kk : kd q = 20 → W p l e R s m args below meth c H locs cells slots Q (F0 m (pc + 3) ls (.ref (gR G q) :: rest))) : W p l e R s m args below meth c H locs cells slots Q (F0 m pc ls (.ref (gR G a) :: rest)) := by
  subst hq
  exact R_get (ci := 8) (j := 11) (t := 1) C hd uX8 rfl (by decide) (by decide) rfl wd115 rfl hk rfl hdg (kk (kr8_11 a (kd_lt hk (by decide)) hk))
theorem gX6_169 (C : Cx p s m args meth c cc nL RX6 G) (hd : Dy G S s H locs) {a : Nat} (hk : kd a = 3) (hdg : decode cc pc = .ok (.getfield 169, 3)) (kk : W p l e R s m args below meth c H locs cells slots Q (F0 m (pc + 3) ls (.int (S a 0) :: rest))) : W p l e R s m args below meth c H locs cells slots Q (F0 m pc ls (.ref (gR G a) :: rest)) := R_get (ci := 3) (j := 0) (t := 0) C hd uX3 rfl (by decide) (by decide) rfl wd48 rfl hk rfl hdg kk
theorem kr7_0 : ∀ a, a < NC → kd a = 7 → kd (sr a 0) = 21 := by decide +kernel
theorem gX7_7 (C : Cx p s m args meth c cc nL RX7 G) (hd : Dy G S s H locs) {a : Nat} (hk : kd a = 7) {q : Nat} (hq : sr a 0 = q) (hdg : decode cc pc = .ok (.getfield 7, 3)) (kk : kd q = 21 → W p l e R s m args below meth c H locs cells slots Q (F0 m (pc + 3) ls (.ref (gR G q) :: rest))) : W p l e R s m args below meth c H locs cells slots Q (F0 m pc ls (.ref (gR G a) :: rest)) := by
  subst hq
  exact R_get (ci := 7) (j := 0) (t := 1) C hd uX7 rfl (by decide) (by decide) rfl wd163 rfl hk rfl hdg (kk (kr7_0 a (kd_lt hk (by decide)) hk))
theorem gX7_19 (C : Cx p s m args meth c cc nL RX7 G) (hd : Dy G S s H locs) {a : Nat} (hk : kd a = 7) (hdg : decode cc pc = .ok (.getfield 19, 3)) (kk : W p l e R s m args below meth c H locs cells slots Q (F0 m (pc + 3) ls (.int (S a 1) :: rest))) : W p l e R s m args below meth c H locs cells slots Q (F0 m pc ls (.ref (gR G a) :: rest)) := R_get (ci := 7) (j := 1) (t := 0) C hd uX7 rfl (by decide) (by decide) rfl wd164 rfl hk rfl hdg kk
theorem gX7_23 (C : Cx p s m args meth c cc nL RX7 G) (hd : Dy G S s H locs) {a : Nat} (hk : kd a = 7) (hdg : decode cc pc = .ok (.getfield 23, 3)) (kk : W p l e R s m args below meth c H locs cells slots Q (F0 m (pc + 3) ls (.int (S a 2) :: rest))) : W p l e R s m args below meth c H locs cells slots Q (F0 m pc ls (.ref (gR G a) :: rest)) := R_get (ci := 7) (j := 2) (t := 0) C hd uX7 rfl (by decide) (by decide) rfl wd165 rfl hk rfl hdg kk
theorem gX7_29 (C : Cx p s m args meth c cc nL RX7 G) (hd : Dy G S s H locs) {a : Nat} (hk : kd a = 7) (hdg : decode cc pc = .ok (.getfield 29, 3)) (kk : W p l e R s m args below meth c H locs cells slots Q (F0 m (pc + 3) ls (.int (S a 4) :: rest))) : W p l e R s m args below meth c H locs cells slots Q (F0 m pc ls (.ref (gR G a) :: rest)) := R_get (ci := 7) (j := 4) (t := 0) C hd uX7 rfl (by decide) (by decide) rfl wd170 rfl hk rfl hdg kk
theorem gX7_32 (C : Cx p s m args meth c cc nL RX7 G) (hd : Dy G S s H locs) {a : Nat} (hk : kd a = 7) (hdg : decode cc pc = .ok (.getfield 32, 3)) (kk : W p l e R s m args below meth c H locs cells slots Q (F0 m (pc + 3) ls (.int (S a 3) :: rest))) : W p l e R s m args below meth c H locs cells slots Q (F0 m pc ls (.ref (gR G a) :: rest)) := R_get (ci := 7) (j := 3) (t := 0) C hd uX7 rfl (by decide) (by decide) rfl wd167 rfl hk rfl hdg kk
theorem gX7_39 (C : Cx p s m args meth c cc nL RX7 G) (hd : Dy G S s H locs) {a : Nat} (hk : kd a = 7) (hdg : decode cc pc = .ok (.getfield 39, 3)) (kk : W p l e R s m args below meth c H locs cells slots Q (F0 m (pc + 3) ls (.int (S a 5) :: rest))) : W p l e R s m args below meth c H locs cells slots Q (F0 m pc ls (.ref (gR G a) :: rest)) := R_get (ci := 7) (j := 5) (t := 0) C hd uX7 rfl (by decide) (by decide) rfl wd171 rfl hk rfl hdg kk
theorem gX8_21 (C : Cx p s m args meth c cc nL RX8 G) (hd : Dy G S s H locs) {a : Nat} (hk : kd a = 8) {q : Nat} (hq : sr a 6 = q) (hdg : decode cc pc = .ok (.getfield 21, 3)) (kk : kd q = 20 → W p l e R s m args below meth c H locs cells slots Q (F0 m (pc + 3) ls (.ref (gR G q) :: rest))) : W p l e R s m args below meth c H locs cells slots Q (F0 m pc ls (.ref (gR G a) :: rest)) := by
  subst hq
  exact R_get (ci := 8) (j := 6) (t := 1) C hd uX8 rfl (by decide) (by decide) rfl wd95 rfl hk rfl hdg (kk (kr8_6 a (kd_lt hk (by decide)) hk))
theorem gX8_24 (C : Cx p s m args meth c cc nL RX8 G) (hd : Dy G S s H locs) {a : Nat} (hk : kd a = 8) {q : Nat} (hq : sr a 7 = q) (hdg : decode cc pc = .ok (.getfield 24, 3)) (kk : kd q = 20 → W p l e R s m args below meth c H locs cells slots Q (F0 m (pc + 3) ls (.ref (gR G q) :: rest))) : W p l e R s m args below meth c H locs cells slots Q (F0 m pc ls (.ref (gR G a) :: rest)) := by
  subst hq
  exact R_get (ci := 8) (j := 7) (t := 1) C hd uX8 rfl (by decide) (by decide) rfl wd99 rfl hk rfl hdg (kk (kr8_7 a (kd_lt hk (by decide)) hk))
theorem gX8_27 (C : Cx p s m args meth c cc nL RX8 G) (hd : Dy G S s H locs) {a : Nat} (hk : kd a = 8) {q : Nat} (hq : sr a 8 = q) (hdg : decode cc pc = .ok (.getfield 27, 3)) (kk : kd q = 20 → W p l e R s m args below meth c H locs cells slots Q (F0 m (pc + 3) ls (.ref (gR G q) :: rest))) : W p l e R s m args below meth c H locs cells slots Q (F0 m pc ls (.ref (gR G a) :: rest)) := by
  subst hq
  exact R_get (ci := 8) (j := 8) (t := 1) C hd uX8 rfl (by decide) (by decide) rfl wd103 rfl hk rfl hdg (kk (kr8_8 a (kd_lt hk (by decide)) hk))
theorem gX8_36 (C : Cx p s m args meth c cc nL RX8 G) (hd : Dy G S s H locs) {a : Nat} (hk : kd a = 8) {q : Nat} (hq : sr a 11 = q) (hdg : decode cc pc = .ok (.getfield 36, 3)) (kk : kd q = 20 → W p l e R s m args below meth c H locs cells slots Q (F0 m (pc + 3) ls (.ref (gR G q) :: rest))) : W p l e R s m args below meth c H locs cells slots Q (F0 m pc ls (.ref (gR G a) :: rest)) := by
  subst hq
  exact R_get (ci := 8) (j := 11) (t := 1) C hd uX8 rfl (by decide) (by decide) rfl wd113 rfl hk rfl hdg (kk (kr8_11 a (kd_lt hk (by decide)) hk))
theorem gX8_44 (C : Cx p s m args meth c cc nL RX8 G) (hd : Dy G S s H locs) {a : Nat} (hk : kd a = 8) {q : Nat} (hq : sr a 12 = q) (hdg : decode cc pc = .ok (.getfield 44, 3)) (kk : kd q = 3 → W p l e R s m args below meth c H locs cells slots Q (F0 m (pc + 3) ls (.ref (gR G q) :: rest))) : W p l e R s m args below meth c H locs cells slots Q (F0 m pc ls (.ref (gR G a) :: rest)) := by
  subst hq
  exact R_get (ci := 8) (j := 12) (t := 1) C hd uX8 rfl (by decide) (by decide) rfl wd116 rfl hk rfl hdg (kk (kr8_12 a (kd_lt hk (by decide)) hk))
theorem gX8_48 (C : Cx p s m args meth c cc nL RX8 G) (hd : Dy G S s H locs) {a : Nat} (hk : kd a = 8) {q : Nat} (hq : sr a 13 = q) (hdg : decode cc pc = .ok (.getfield 48, 3)) (kk : kd q = 3 → W p l e R s m args below meth c H locs cells slots Q (F0 m (pc + 3) ls (.ref (gR G q) :: rest))) : W p l e R s m args below meth c H locs cells slots Q (F0 m pc ls (.ref (gR G a) :: rest)) := by
  subst hq
  exact R_get (ci := 8) (j := 13) (t := 1) C hd uX8 rfl (by decide) (by decide) rfl wd119 rfl hk rfl hdg (kk (kr8_13 a (kd_lt hk (by decide)) hk))
theorem gX8_51 (C : Cx p s m args meth c cc nL RX8 G) (hd : Dy G S s H locs) {a : Nat} (hk : kd a = 8) (hdg : decode cc pc = .ok (.getfield 51, 3)) (kk : W p l e R s m args below meth c H locs cells slots Q (F0 m (pc + 3) ls (.int (S a 0) :: rest))) : W p l e R s m args below meth c H locs cells slots Q (F0 m pc ls (.ref (gR G a) :: rest)) := R_get (ci := 8) (j := 0) (t := 0) C hd uX8 rfl (by decide) (by decide) rfl wd66 rfl hk rfl hdg kk
theorem gX8_55 (C : Cx p s m args meth c cc nL RX8 G) (hd : Dy G S s H locs) {a : Nat} (hk : kd a = 8) (hdg : decode cc pc = .ok (.getfield 55, 3)) (kk : W p l e R s m args below meth c H locs cells slots Q (F0 m (pc + 3) ls (.int (S a 1) :: rest))) : W p l e R s m args below meth c H locs cells slots Q (F0 m pc ls (.ref (gR G a) :: rest)) := R_get (ci := 8) (j := 1) (t := 0) C hd uX8 rfl (by decide) (by decide) rfl wd72 rfl hk rfl hdg kk
theorem kr9_0 : ∀ a, a < NC → kd a = 9 → kd (sr a 0) = 21 := by decide +kernel
theorem gX9_9 (C : Cx p s m args meth c cc nL RX9 G) (hd : Dy G S s H locs) {a : Nat} (hk : kd a = 9) {q : Nat} (hq : sr a 0 = q) (hdg : decode cc pc = .ok (.getfield 9, 3)) (kk : kd q = 21 → W p l e R s m args below meth c H locs cells slots Q (F0 m (pc + 3) ls (.ref (gR G q) :: rest))) : W p l e R s m args below meth c H locs cells slots Q (F0 m pc ls (.ref (gR G a) :: rest)) := by
  subst hq
  exact R_get (ci := 9) (j := 0) (t := 1) C hd uX9 rfl (by decide) (by decide) rfl wd347 rfl hk rfl hdg (kk (kr9_0 a (kd_lt hk (by decide)) hk))
theorem gX9_16 (C : Cx p s m args meth c cc nL RX9 G) (hd : Dy G S s H locs) {a : Nat} (hk : kd a = 9) {β : Type} {k : Nat → Option β} {res : β} (h : gm S a 3 8 k = some res) (hdg : decode cc pc = .ok (.getfield 16, 3)) (kk : ∀ q : Nat, kd q = 8 → k q = some res → W p l e R s m args below meth c H locs cells slots Q (F0 m (pc + 3) ls (.ref (gR G q) :: rest))) : W p l e R s m args below meth c H locs cells slots Q (F0 m pc ls (.ref (gR G a) :: rest)) := by
  unfold gm at h
  split at h
  · rename_i hq
    exact R_get (ci := 9) (j := 3) (t := 2) C hd uX9 rfl (by decide) (by decide) rfl wd350 rfl hk rfl hdg (kk _ hq h)
  · cases h
theorem gX9_20 (C : Cx p s m args meth c cc nL RX9 G) (hd : Dy G S s H locs) {a : Nat} (hk : kd a = 9) {β : Type} {k : Nat → Option β} {res : β} (h : gm S a 4 8 k = some res) (hdg : decode cc pc = .ok (.getfield 20, 3)) (kk : ∀ q : Nat, kd q = 8 → k q = some res → W p l e R s m args below meth c H locs cells slots Q (F0 m (pc + 3) ls (.ref (gR G q) :: rest))) : W p l e R s m args below meth c H locs cells slots Q (F0 m pc ls (.ref (gR G a) :: rest)) := by
  unfold gm at h
  split at h
  · rename_i hq
    exact R_get (ci := 9) (j := 4) (t := 2) C hd uX9 rfl (by decide) (by decide) rfl wd351 rfl hk rfl hdg (kk _ hq h)
  · cases h
theorem kr9_5 : ∀ a, a < NC → kd a = 9 → kd (sr a 5) = 6 := by decide +kernel
theorem gX9_28 (C : Cx p s m args meth c cc nL RX9 G) (hd : Dy G S s H locs) {a : Nat} (hk : kd a = 9) {q : Nat} (hq : sr a 5 = q) (hdg : decode cc pc = .ok (.getfield 28, 3)) (kk : kd q = 6 → W p l e R s m args below meth c H locs cells slots Q (F0 m (pc + 3) ls (.ref (gR G q) :: rest))) : W p l e R s m args below meth c H locs cells slots Q (F0 m pc ls (.ref (gR G a) :: rest)) := by
  subst hq
  exact R_get (ci := 9) (j := 5) (t := 1) C hd uX9 rfl (by decide) (by decide) rfl wd352 rfl hk rfl hdg (kk (kr9_5 a (kd_lt hk (by decide)) hk))
theorem kr9_6 : ∀ a, a < NC → kd a = 9 → kd (sr a 6) = 4 := by decide +kernel
theorem gX9_35 (C : Cx p s m args meth c cc nL RX9 G) (hd : Dy G S s H locs) {a : Nat} (hk : kd a = 9) {q : Nat} (hq : sr a 6 = q) (hdg : decode cc pc = .ok (.getfield 35, 3)) (kk : kd q = 4 → W p l e R s m args below meth c H locs cells slots Q (F0 m (pc + 3) ls (.ref (gR G q) :: rest))) : W p l e R s m args below meth c H locs cells slots Q (F0 m pc ls (.ref (gR G a) :: rest)) := by
  subst hq
  exact R_get (ci := 9) (j := 6) (t := 1) C hd uX9 rfl (by decide) (by decide) rfl wd353 rfl hk rfl hdg (kk (kr9_6 a (kd_lt hk (by decide)) hk))
theorem kr9_7 : ∀ a, a < NC → kd a = 9 → kd (sr a 7) = 4 := by decide +kernel
theorem gX9_39 (C : Cx p s m args meth c cc nL RX9 G) (hd : Dy G S s H locs) {a : Nat} (hk : kd a = 9) {q : Nat} (hq : sr a 7 = q) (hdg : decode cc pc = .ok (.getfield 39, 3)) (kk : kd q = 4 → W p l e R s m args below meth c H locs cells slots Q (F0 m (pc + 3) ls (.ref (gR G q) :: rest))) : W p l e R s m args below meth c H locs cells slots Q (F0 m pc ls (.ref (gR G a) :: rest)) := by
  subst hq
  exact R_get (ci := 9) (j := 7) (t := 1) C hd uX9 rfl (by decide) (by decide) rfl wd354 rfl hk rfl hdg (kk (kr9_7 a (kd_lt hk (by decide)) hk))
theorem kr9_9 : ∀ a, a < NC → kd a = 9 → kd (sr a 9) = 0 := by decide +kernel
theorem gX9_47 (C : Cx p s m args meth c cc nL RX9 G) (hd : Dy G S s H locs) {a : Nat} (hk : kd a = 9) {q : Nat} (hq : sr a 9 = q) (hdg : decode cc pc = .ok (.getfield 47, 3)) (kk : kd q = 0 → W p l e R s m args below meth c H locs cells slots Q (F0 m (pc + 3) ls (.ref (gR G q) :: rest))) : W p l e R s m args below meth c H locs cells slots Q (F0 m pc ls (.ref (gR G a) :: rest)) := by
  subst hq
  exact R_get (ci := 9) (j := 9) (t := 1) C hd uX9 rfl (by decide) (by decide) rfl wd356 rfl hk rfl hdg (kk (kr9_9 a (kd_lt hk (by decide)) hk))
theorem kr9_10 : ∀ a, a < NC → kd a = 9 → kd (sr a 10) = 1 := by decide +kernel
theorem gX9_56 (C : Cx p s m args meth c cc nL RX9 G) (hd : Dy G S s H locs) {a : Nat} (hk : kd a = 9) {q : Nat} (hq : sr a 10 = q) (hdg : decode cc pc = .ok (.getfield 56, 3)) (kk : kd q = 1 → W p l e R s m args below meth c H locs cells slots Q (F0 m (pc + 3) ls (.ref (gR G q) :: rest))) : W p l e R s m args below meth c H locs cells slots Q (F0 m pc ls (.ref (gR G a) :: rest)) := by
  subst hq
  exact R_get (ci := 9) (j := 10) (t := 1) C hd uX9 rfl (by decide) (by decide) rfl wd357 rfl hk rfl hdg (kk (kr9_10 a (kd_lt hk (by decide)) hk))
theorem kr9_11 : ∀ a, a < NC → kd a = 9 → kd (sr a 11) = 5 := by decide +kernel
theorem gX9_63 (C : Cx p s m args meth c cc nL RX9 G) (hd : Dy G S s H locs) {a : Nat} (hk : kd a = 9) {q : Nat} (hq : sr a 11 = q) (hdg : decode cc pc = .ok (.getfield 63, 3)) (kk : kd q = 5 → W p l e R s m args below meth c H locs cells slots Q (F0 m (pc + 3) ls (.ref (gR G q) :: rest))) : W p l e R s m args below meth c H locs cells slots Q (F0 m pc ls (.ref (gR G a) :: rest)) := by
  subst hq
  exact R_get (ci := 9) (j := 11) (t := 1) C hd uX9 rfl (by decide) (by decide) rfl wd358 rfl hk rfl hdg (kk (kr9_11 a (kd_lt hk (by decide)) hk))
theorem gX9_67 (C : Cx p s m args meth c cc nL RX9 G) (hd : Dy G S s H locs) {a : Nat} (hk : kd a = 9) (hdg : decode cc pc = .ok (.getfield 67, 3)) (kk : W p l e R s m args below meth c H locs cells slots Q (F0 m (pc + 3) ls (.int (S a 2) :: rest))) : W p l e R s m args below meth c H locs cells slots Q (F0 m pc ls (.ref (gR G a) :: rest)) := R_get (ci := 9) (j := 2) (t := 0) C hd uX9 rfl (by decide) (by decide) rfl wd349 rfl hk rfl hdg kk
theorem gX9_71 (C : Cx p s m args meth c cc nL RX9 G) (hd : Dy G S s H locs) {a : Nat} (hk : kd a = 9) (hdg : decode cc pc = .ok (.getfield 71, 3)) (kk : W p l e R s m args below meth c H locs cells slots Q (F0 m (pc + 3) ls (.int (S a 1) :: rest))) : W p l e R s m args below meth c H locs cells slots Q (F0 m pc ls (.ref (gR G a) :: rest)) := R_get (ci := 9) (j := 1) (t := 0) C hd uX9 rfl (by decide) (by decide) rfl wd348 rfl hk rfl hdg kk
theorem gX9_89 (C : Cx p s m args meth c cc nL RX9 G) (hd : Dy G S s H locs) {a : Nat} (hk : kd a = 6) (hdg : decode cc pc = .ok (.getfield 89, 3)) (kk : W p l e R s m args below meth c H locs cells slots Q (F0 m (pc + 3) ls (.int (S a 4) :: rest))) : W p l e R s m args below meth c H locs cells slots Q (F0 m pc ls (.ref (gR G a) :: rest)) := R_get (ci := 6) (j := 4) (t := 0) C hd uX6 rfl (by decide) (by decide) rfl wd220 rfl hk rfl hdg kk
theorem gX9_98 (C : Cx p s m args meth c cc nL RX9 G) (hd : Dy G S s H locs) {a : Nat} (hk : kd a = 9) (hdg : decode cc pc = .ok (.getfield 98, 3)) (kk : W p l e R s m args below meth c H locs cells slots Q (F0 m (pc + 3) ls (.int (S a 8) :: rest))) : W p l e R s m args below meth c H locs cells slots Q (F0 m pc ls (.ref (gR G a) :: rest)) := R_get (ci := 9) (j := 8) (t := 0) C hd uX9 rfl (by decide) (by decide) rfl wd355 rfl hk rfl hdg kk
theorem gX9_102 (C : Cx p s m args meth c cc nL RX9 G) (hd : Dy G S s H locs) {a : Nat} (hk : kd a = 8) (hdg : decode cc pc = .ok (.getfield 102, 3)) (kk : W p l e R s m args below meth c H locs cells slots Q (F0 m (pc + 3) ls (.int (S a 0) :: rest))) : W p l e R s m args below meth c H locs cells slots Q (F0 m pc ls (.ref (gR G a) :: rest)) := R_get (ci := 8) (j := 0) (t := 0) C hd uX8 rfl (by decide) (by decide) rfl wd70 rfl hk rfl hdg kk
theorem gX9_105 (C : Cx p s m args meth c cc nL RX9 G) (hd : Dy G S s H locs) {a : Nat} (hk : kd a = 8) (hdg : decode cc pc = .ok (.getfield 105, 3)) (kk : W p l e R s m args below meth c H locs cells slots Q (F0 m (pc + 3) ls (.int (S a 1) :: rest))) : W p l e R s m args below meth c H locs cells slots Q (F0 m pc ls (.ref (gR G a) :: rest)) := R_get (ci := 8) (j := 1) (t := 0) C hd uX8 rfl (by decide) (by decide) rfl wd73 rfl hk rfl hdg kk
theorem gX9_108 (C : Cx p s m args meth c cc nL RX9 G) (hd : Dy G S s H locs) {a : Nat} (hk : kd a = 8) (hdg : decode cc pc = .ok (.getfield 108, 3)) (kk : W p l e R s m args below meth c H locs cells slots Q (F0 m (pc + 3) ls (.int (S a 2) :: rest))) : W p l e R s m args below meth c H locs cells slots Q (F0 m pc ls (.ref (gR G a) :: rest)) := R_get (ci := 8) (j := 2) (t := 0) C hd uX8 rfl (by decide) (by decide) rfl wd78 rfl hk rfl hdg kk
theorem gX9_111 (C : Cx p s m args meth c cc nL RX9 G) (hd : Dy G S s H locs) {a : Nat} (hk : kd a = 4) {q : Nat} (hq : sr a 0 = q) (hdg : decode cc pc = .ok (.getfield 111, 3)) (kk : kd q = 20 → W p l e R s m args below meth c H locs cells slots Q (F0 m (pc + 3) ls (.ref (gR G q) :: rest))) : W p l e R s m args below meth c H locs cells slots Q (F0 m pc ls (.ref (gR G a) :: rest)) := by
  subst hq
  exact R_get (ci := 4) (j := 0) (t := 1) C hd uX4 rfl (by decide) (by decide) rfl wd242 rfl hk rfl hdg (kk (kr4_0 a (kd_lt hk (by decide)) hk))
theorem gX9_115 (C : Cx p s m args meth c cc nL RX9 G) (hd : Dy G S s H locs) {a : Nat} (hk : kd a = 4) (hdg : decode cc pc = .ok (.getfield 115, 3)) (kk : W p l e R s m args below meth c H locs cells slots Q (F0 m (pc + 3) ls (.int (S a 3) :: rest))) : W p l e R s m args below meth c H locs cells slots Q (F0 m pc ls (.ref (gR G a) :: rest)) := R_get (ci := 4) (j := 3) (t := 0) C hd uX4 rfl (by decide) (by decide) rfl wd246 rfl hk rfl hdg kk
theorem gX9_118 (C : Cx p s m args meth c cc nL RX9 G) (hd : Dy G S s H locs) {a : Nat} (hk : kd a = 4) (hdg : decode cc pc = .ok (.getfield 118, 3)) (kk : W p l e R s m args below meth c H locs cells slots Q (F0 m (pc + 3) ls (.int (S a 4) :: rest))) : W p l e R s m args below meth c H locs cells slots Q (F0 m pc ls (.ref (gR G a) :: rest)) := R_get (ci := 4) (j := 4) (t := 0) C hd uX4 rfl (by decide) (by decide) rfl wd249 rfl hk rfl hdg kk
theorem gX9_121 (C : Cx p s m args meth c cc nL RX9 G) (hd : Dy G S s H locs) {a : Nat} (hk : kd a = 4) {q : Nat} (hq : sr a 8 = q) (hdg : decode cc pc = .ok (.getfield 121, 3)) (kk : kd q = 20 → W p l e R s m args below meth c H locs cells slots Q (F0 m (pc + 3) ls (.ref (gR G q) :: rest))) : W p l e R s m args below meth c H locs cells slots Q (F0 m pc ls (.ref (gR G a) :: rest)) := by
  subst hq
  exact R_get (ci := 4) (j := 8) (t := 1) C hd uX4 rfl (by decide) (by decide) rfl wd257 rfl hk rfl hdg (kk (kr4_8 a (kd_lt hk (by decide)) hk))
theorem gX9_132 (C : Cx p s m args meth c cc nL RX9 G) (hd : Dy G S s H locs) {a : Nat} (hk : kd a = 8) {q : Nat} (hq : sr a 3 = q) (hdg : decode cc pc = .ok (.getfield 132, 3)) (kk : kd q = 20 → W p l e R s m args below meth c H locs cells slots Q (F0 m (pc + 3) ls (.ref (gR G q) :: rest))) : W p l e R s m args below meth c H locs cells slots Q (F0 m pc ls (.ref (gR G a) :: rest)) := by
  subst hq
  exact R_get (ci := 8) (j := 3) (t := 1) C hd uX8 rfl (by decide) (by decide) rfl wd82 rfl hk rfl hdg (kk (kr8_3 a (kd_lt hk (by decide)) hk))
theorem gX9_135 (C : Cx p s m args meth c cc nL RX9 G) (hd : Dy G S s H locs) {a : Nat} (hk : kd a = 8) {q : Nat} (hq : sr a 4 = q) (hdg : decode cc pc = .ok (.getfield 135, 3)) (kk : kd q = 20 → W p l e R s m args below meth c H locs cells slots Q (F0 m (pc + 3) ls (.ref (gR G q) :: rest))) : W p l e R s m args below meth c H locs cells slots Q (F0 m pc ls (.ref (gR G a) :: rest)) := by
  subst hq
  exact R_get (ci := 8) (j := 4) (t := 1) C hd uX8 rfl (by decide) (by decide) rfl wd88 rfl hk rfl hdg (kk (kr8_4 a (kd_lt hk (by decide)) hk))
theorem gX9_146 (C : Cx p s m args meth c cc nL RX9 G) (hd : Dy G S s H locs) {a : Nat} (hk : kd a = 8) {q : Nat} (hq : sr a 6 = q) (hdg : decode cc pc = .ok (.getfield 146, 3)) (kk : kd q = 20 → W p l e R s m args below meth c H locs cells slots Q (F0 m (pc + 3) ls (.ref (gR G q) :: rest))) : W p l e R s m args below meth c H locs cells slots Q (F0 m pc ls (.ref (gR G a) :: rest)) := by
  subst hq
  exact R_get (ci := 8) (j := 6) (t := 1) C hd uX8 rfl (by decide) (by decide) rfl wd96 rfl hk rfl hdg (kk (kr8_6 a (kd_lt hk (by decide)) hk))
theorem gX9_157 (C : Cx p s m args meth c cc nL RX9 G) (hd : Dy G S s H locs) {a : Nat} (hk : kd a = 8) {q : Nat} (hq : sr a 5 = q) (hdg : decode cc pc = .ok (.getfield 157, 3)) (kk : kd q = 20 → W p l e R s m args below meth c H locs cells slots Q (F0 m (pc + 3) ls (.ref (gR G q) :: rest))) : W p l e R s m args below meth c H locs cells slots Q (F0 m pc ls (.ref (gR G a) :: rest)) := by
  subst hq
  exact R_get (ci := 8) (j := 5) (t := 1) C hd uX8 rfl (by decide) (by decide) rfl wd93 rfl hk rfl hdg (kk (kr8_5 a (kd_lt hk (by decide)) hk))
theorem gX9_163 (C : Cx p s m args meth c cc nL RX9 G) (hd : Dy G S s H locs) {a : Nat} (hk : kd a = 8) {q : Nat} (hq : sr a 8 = q) (hdg : decode cc pc = .ok (.getfield 163, 3)) (kk : kd q = 20 → W p l e R s m args below meth c H locs cells slots Q (F0 m (pc + 3) ls (.ref (gR G q) :: rest))) : W p l e R s m args below meth c H locs cells slots Q (F0 m pc ls (.ref (gR G a) :: rest)) := by
  subst hq
  exact R_get (ci := 8) (j := 8) (t := 1) C hd uX8 rfl (by decide) (by decide) rfl wd105 rfl hk rfl hdg (kk (kr8_8 a (kd_lt hk (by decide)) hk))
theorem gX9_186 (C : Cx p s m args meth c cc nL RX9 G) (hd : Dy G S s H locs) {a : Nat} (hk : kd a = 0) {q : Nat} (hq : sr a 1 = q) (hdg : decode cc pc = .ok (.getfield 186, 3)) (kk : kd q = 20 → W p l e R s m args below meth c H locs cells slots Q (F0 m (pc + 3) ls (.ref (gR G q) :: rest))) : W p l e R s m args below meth c H locs cells slots Q (F0 m pc ls (.ref (gR G a) :: rest)) := by
  subst hq
  exact R_get (ci := 0) (j := 1) (t := 1) C hd uX0 rfl (by decide) (by decide) rfl wd286 rfl hk rfl hdg (kk (kr0_1 a (kd_lt hk (by decide)) hk))
theorem gX9_207 (C : Cx p s m args meth c cc nL RX9 G) (hd : Dy G S s H locs) {a : Nat} (hk : kd a = 0) {q : Nat} (hq : sr a 3 = q) (hdg : decode cc pc = .ok (.getfield 207, 3)) (kk : kd q = 20 → W p l e R s m args below meth c H locs cells slots Q (F0 m (pc + 3) ls (.ref (gR G q) :: rest))) : W p l e R s m args below meth c H locs cells slots Q (F0 m pc ls (.ref (gR G a) :: rest)) := by
  subst hq
  exact R_get (ci := 0) (j := 3) (t := 1) C hd uX0 rfl (by decide) (by decide) rfl wd289 rfl hk rfl hdg (kk (kr0_3 a (kd_lt hk (by decide)) hk))
theorem gX9_220 (C : Cx p s m args meth c cc nL RX9 G) (hd : Dy G S s H locs) {a : Nat} (hk : kd a = 0) {q : Nat} (hq : sr a 4 = q) (hdg : decode cc pc = .ok (.getfield 220, 3)) (kk : kd q = 20 → W p l e R s m args below meth c H locs cells slots Q (F0 m (pc + 3) ls (.ref (gR G q) :: rest))) : W p l e R s m args below meth c H locs cells slots Q (F0 m pc ls (.ref (gR G a) :: rest)) := by
  subst hq
  exact R_get (ci := 0) (j := 4) (t := 1) C hd uX0 rfl (by decide) (by decide) rfl wd291 rfl hk rfl hdg (kk (kr0_4 a (kd_lt hk (by decide)) hk))
theorem gX9_237 (C : Cx p s m args meth c cc nL RX9 G) (hd : Dy G S s H locs) {a : Nat} (hk : kd a = 8) {q : Nat} (hq : sr a 7 = q) (hdg : decode cc pc = .ok (.getfield 237, 3)) (kk : kd q = 20 → W p l e R s m args below meth c H locs cells slots Q (F0 m (pc + 3) ls (.ref (gR G q) :: rest))) : W p l e R s m args below meth c H locs cells slots Q (F0 m pc ls (.ref (gR G a) :: rest)) := by
  subst hq
  exact R_get (ci := 8) (j := 7) (t := 1) C hd uX8 rfl (by decide) (by decide) rfl wd102 rfl hk rfl hdg (kk (kr8_7 a (kd_lt hk (by decide)) hk))
theorem gX9_265 (C : Cx p s m args meth c cc nL RX9 G) (hd : Dy G S s H locs) {a : Nat} (hk : kd a = 1) (hdg : decode cc pc = .ok (.getfield 265, 3)) (kk : W p l e R s m args below meth c H locs cells slots Q (F0 m (pc + 3) ls (.int (S a 1) :: rest))) : W p l e R s m args below meth c H locs cells slots Q (F0 m pc ls (.ref (gR G a) :: rest)) := R_get (ci := 1) (j := 1) (t := 0) C hd uX1 rfl (by decide) (by decide) rfl wd317 rfl hk rfl hdg kk
theorem gX9_268 (C : Cx p s m args meth c cc nL RX9 G) (hd : Dy G S s H locs) {a : Nat} (hk : kd a = 1) (hdg : decode cc pc = .ok (.getfield 268, 3)) (kk : W p l e R s m args below meth c H locs cells slots Q (F0 m (pc + 3) ls (.int (S a 2) :: rest))) : W p l e R s m args below meth c H locs cells slots Q (F0 m pc ls (.ref (gR G a) :: rest)) := R_get (ci := 1) (j := 2) (t := 0) C hd uX1 rfl (by decide) (by decide) rfl wd319 rfl hk rfl hdg kk
theorem gX9_275 (C : Cx p s m args meth c cc nL RX9 G) (hd : Dy G S s H locs) {a : Nat} (hk : kd a = 1) {q : Nat} (hq : sr a 3 = q) (hdg : decode cc pc = .ok (.getfield 275, 3)) (kk : kd q = 20 → W p l e R s m args below meth c H locs cells slots Q (F0 m (pc + 3) ls (.ref (gR G q) :: rest))) : W p l e R s m args below meth c H locs cells slots Q (F0 m pc ls (.ref (gR G a) :: rest)) := by
  subst hq
  exact R_get (ci := 1) (j := 3) (t := 1) C hd uX1 rfl (by decide) (by decide) rfl wd321 rfl hk rfl hdg (kk (kr1_3 a (kd_lt hk (by decide)) hk))
end LK
