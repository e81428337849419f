/-! ===== how the class's cells of a world stand for the model's row ===== -/
/-- cell w + c, place i of the class is place j of the model's row -/
def off (c i : Nat) : Option Nat := match c with
  | 1 => if i < 3 then some (1 + i) else none
  | 2 => if i < 64 then some (20 + i) else none
  | 3 => if i < 4 then some (90 + 13 * i) else none
  | 4 => if i < 24 then some (91 + 13 * (i / 6) + i % 6) else none
  | 5 => if i < 24 ∧ i % 6 ≠ 0 then some (96 + 13 * (i / 6) + i % 6) else none
  | 6 => if i < 12 then some (150 + 3 * i) else none
  | 7 => if i < 12 then some (151 + 3 * i) else none
  | 8 => if i < 12 then some (152 + 3 * i) else none
  | 9 => match i with | 0 => some 4 | 1 => some 8 | 2 => some 9 | _ => none
  | 10 => if i < 16 then some (190 + 8 * i) else none
  | 11 => if i < 16 then some (191 + 8 * i) else none
  | 12 => if i < 16 then some (192 + 8 * i) else none
  | 13 => if i < 16 then some (193 + 8 * i) else none
  | 14 => if i < 16 then some (194 + 8 * i) else none
  | 15 => if i < 16 then some (195 + 8 * i) else none
  | 16 => if i < 16 then some (196 + 8 * i) else none
  | 17 => if i < 16 then some (197 + 8 * i) else none
  | 18 => match i with | 0 => some 5 | _ => none
  | 19 => if i < 8 then some (320 + i) else none
  | 20 => if i < 8 then some (330 + i) else none
  | 21 => match i with | 0 => some 0 | 1 => some 7 | 2 => some 10 | 3 => some 6 | _ => none
  | 22 => if i < 60 then some (340 + 3 * i) else none
  | 23 => if i < 60 then some (341 + 3 * i) else none
  | 24 => if i < 60 then some (342 + 3 * i) else none
  | 25 => match i with | 0 => some 11 | 1 => some 12 | _ => none
  | 26 => if i < 50 then some (630 + i) else none
  | 27 => if i < 20 then some (680 + i) else none
  | _ => none
def dec (j : Nat) : Option (Nat × Nat) :=
  if j = 0 then some (21, 0) else if j ≤ 3 then some (1, j - 1) else if j = 4 then some (9, 0) else if j = 5 then some (18, 0) else if j = 6 then some (21, 3) else if j = 7 then some (21, 1) else if j = 8 then some (9, 1) else if j = 9 then some (9, 2) else if j = 10 then some (21, 2) else if j = 11 then some (25, 0) else if j = 12 then some (25, 1)
  else if j < 20 then none else if j < 84 then some (2, j - 20) else if j < 90 then none
  else if j < 142 then (if (j - 90) % 13 = 0 then some (3, (j - 90) / 13) else if (j - 90) % 13 ≤ 6 then some (4, 6 * ((j - 90) / 13) + (j - 90) % 13 - 1) else if (j - 90) % 13 ≤ 11 then some (5, 6 * ((j - 90) / 13) + ((j - 90) % 13 - 6)) else none)
  else if j < 150 then none else if j < 186 then some (6 + (j - 150) % 3, (j - 150) / 3) else if j < 190 then none else if j < 318 then some (10 + (j - 190) % 8, (j - 190) / 8)
  else if j < 320 then none else if j < 328 then some (19, j - 320) else if j < 330 then none else if j < 338 then some (20, j - 330) else if j < 340 then none else if j < 520 then some (22 + (j - 340) % 3, (j - 340) / 3)
  else if j < 630 then none else if j < 680 then some (26, j - 630) else if j < 700 then some (27, j - 680) else none
theorem off_bd {c i j : Nat} (h : off c i = some j) : c < 28 ∧ i < 64 ∧ j < 700 := by
  unfold off at h
  repeat' split at h
  all_goals first | cases h; done | (injection h with h; omega)
theorem dec_off0 : ∀ c, c < 28 → ∀ i, i < 64 → (match off c i with | some j => decide (dec j = some (c, i)) | none => true) = true := by decide +kernel
theorem dec_off {c i j : Nat} (h : off c i = some j) : dec j = some (c, i) := by
  obtain ⟨h1, h2, -⟩ := off_bd h
  have := dec_off0 c h1 i h2
  rw [h] at this
  simpa using this
theorem off_inj {c i c' i' j : Nat} (h : off c i = some j) (h' : off c' i' = some j) : c = c' ∧ i = i' := by
  have e := (dec_off h).symm.trans (dec_off h')
  simpa using e
/-- the class's world at w stands for the row d -/
def Rl (w : Nat) (a : Nat → Nat → Int32) (d : Nat → Int32) : Prop := ∀ c i j, off c i = some j → a (w + c) i = d j
theorem rf_w_at (f : Nat → Nat → Int32) (k i : Nat) (v : Int32) (k' i' : Nat) : rf_w f k i v k' i' = if k' = k ∧ i' = i then v else f k' i' := by
  unfold rf_w rf_r upd
  by_cases h : k' = k
  · subst h
    by_cases h2 : i' = i <;> simp [h2]
  · simp [h]
/-- both write -/
theorem Rl.put {w : Nat} {a : Nat → Nat → Int32} {d : Nat → Int32} (h : Rl w a d) {c i j : Nat} (ho : off c i = some j) (v : Int32) : Rl w (rf_w a (w + c) i v) (upd d j v) := by
  intro c' i' j' h'
  rw [rf_w_at]
  by_cases e : j' = j
  · subst e
    obtain ⟨rfl, rfl⟩ := off_inj ho h'
    simp [upd]
  · have e2 : ¬ (w + c' = w + c ∧ i' = i) := by
      rintro ⟨e1, rfl⟩
      have e3 : c' = c := by omega
      subst e3
      rw [ho] at h'
      exact e (Option.some.inj h').symm
    rw [if_neg e2, pk_un e]
    exact h c' i' j' h'
/-- the class alone writes, elsewhere -/
theorem Rl.oth {w : Nat} {a : Nat → Nat → Int32} {d : Nat → Int32} (h : Rl w a d) {k i : Nat} (ho : ∀ c, k = w + c → off c i = none) (v : Int32) : Rl w (rf_w a k i v) d := by
  intro c' i' j' h'
  rw [rf_w_at]
  have e2 : ¬ (w + c' = k ∧ i' = i) := by
    rintro ⟨e1, rfl⟩
    rw [ho c' e1.symm] at h'
    cases h'
  rw [if_neg e2]
  exact h c' i' j' h'
theorem Rl.same {w : Nat} {a a' : Nat → Nat → Int32} {d d' : Nat → Int32} (h : Rl w a d) (ha : ∀ c, c < 28 → ∀ i, a' (w + c) i = a (w + c) i) (hd : ∀ j, (dec j).isSome → d' j = d j) : Rl w a' d' := by
  intro c i j ho
  rw [ha c (off_bd ho).1, hd j (by rw [dec_off ho]; rfl)]
  exact h c i j ho
/-- the model alone writes, elsewhere -/
theorem Rl.mod {w : Nat} {a : Nat → Nat → Int32} {d : Nat → Int32} (h : Rl w a d) {j : Nat} (hj : dec j = none) (v : Int32) : Rl w a (upd d j v) := h.same (fun _ _ _ => rfl) (fun k hk => by
  rw [pk_un]
  intro e
  subst e
  rw [hj] at hk
  cases hk)
/-! ===== the row's numbers ===== -/
/-- the most that a place of the row may hold (from 0 on) -/
def bd (k : Nat) : Option Nat :=
  if k < 13 then ([399, 8, 4, 12, 16, 8, 60, 1999999999, 99, 999] : List Nat)[k]? <|> (if k = 11 then some 50 else if k = 12 then some 20 else none)
  else if k < 90 then none
  else if k < 142 then (if (k - 90) % 13 = 0 then some 6 else if (k - 90) % 13 ≤ 6 then some 7 else if (k - 90) % 13 ≤ 11 then some 30 else none)
  else if k < 150 then none else if k < 186 then ([3, 1199, 1] : List Nat)[(k - 150) % 3]?
  else if k < 190 then none else if k < 318 then ([7, 11, 5, 5, 999, 9, 9, 429] : List Nat)[(k - 190) % 8]?
  else if k < 320 then none else if k < 328 then some 4095 else if k < 330 then none else if k < 338 then some 9 else if k < 340 then none
  else if k < 520 then ([7, 15984, 1150848] : List Nat)[(k - 340) % 3]? else if k < 522 then some 50 else if k < 530 then none else if k < 680 then some 255 else none
abbrev cn (d : Nat → Int32) (k : Nat) : Nat := (d k).toNatClampNeg
def Bn (d : Nat → Int32) : Prop := ∀ k b, bd k = some b → ∃ m, m ≤ b ∧ d k = nI m
theorem Bn.at {d : Nat → Int32} (h : Bn d) {k b : Nat} (hk : bd k = some b) (hb : b < 2 ^ 31) : cn d k ≤ b ∧ d k = nI (cn d k) := by
  obtain ⟨m, h1, h2⟩ := h k b hk
  unfold cn
  rw [h2, nI_clamp (by omega)]
  exact ⟨h1, rfl⟩
theorem Bn.put {d : Nat → Int32} (h : Bn d) {k : Nat} {v : Int32} (hv : ∀ b, bd k = some b → ∃ m, m ≤ b ∧ v = nI m) : Bn (upd d k v) := by
  intro k' b' hk
  by_cases e : k' = k
  · subst e
    rw [pk_us]
    exact hv b' hk
  · rw [pk_un e]
    exact h k' b' hk
/-- what holds of the row between calls: numbers in their ranges; TRAINS of LINES, GROUPS of TRAINS, SHIFTS of TRAINS -/
def Iv (d : Nat → Int32) : Prop := Bn d ∧ (∀ l, l < cn d 2 → 2 ≤ cn d (90 + 13 * l)) ∧ (∀ t, t < cn d 3 → cn d (150 + 3 * t) < cn d 2) ∧ (∀ g, g < cn d 4 → cn d (191 + 8 * g) < cn d 3 ∧ cn d (195 + 8 * g) ≤ cn d (196 + 8 * g)) ∧ (∀ s, s < cn d 5 → 1 ≤ cn d (320 + s) ∧ cn d (320 + s) < 2 ^ cn d 3) ∧ (∀ s, cn d 5 ≤ s → s < 8 → cn d (330 + s) = 0)
