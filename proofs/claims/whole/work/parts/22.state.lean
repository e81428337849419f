/-! ===== reading the class's world by the model's row ===== -/
section RLX
variable {α : Nat → Nat → Int32} {d : Nat → Int32} {i j k l : Nat}
theorem rl_2 (h : Rl 1 α d) (hi : i < 64) (hj : j = 20 + i) : α 3 i = d j := by
  subst hj
  exact h 2 i _ (by simp [off, hi])
theorem rl_3 (h : Rl 1 α d) (hi : i < 4) (hj : j = 90 + 13 * i) : α 4 i = d j := by
  subst hj
  exact h 3 i _ (by simp [off, hi])
theorem rl_6 (h : Rl 1 α d) (hi : i < 12) (hj : j = 150 + 3 * i) : α 7 i = d j := by
  subst hj
  exact h 6 i _ (by simp [off, hi])
theorem rl_7 (h : Rl 1 α d) (hi : i < 12) (hj : j = 151 + 3 * i) : α 8 i = d j := by
  subst hj
  exact h 7 i _ (by simp [off, hi])
theorem rl_8 (h : Rl 1 α d) (hi : i < 12) (hj : j = 152 + 3 * i) : α 9 i = d j := by
  subst hj
  exact h 8 i _ (by simp [off, hi])
theorem rl_10 (h : Rl 1 α d) (hi : i < 16) (hj : j = 190 + 8 * i) : α 11 i = d j := by
  subst hj
  exact h 10 i _ (by simp [off, hi])
theorem rl_11 (h : Rl 1 α d) (hi : i < 16) (hj : j = 191 + 8 * i) : α 12 i = d j := by
  subst hj
  exact h 11 i _ (by simp [off, hi])
theorem rl_12 (h : Rl 1 α d) (hi : i < 16) (hj : j = 192 + 8 * i) : α 13 i = d j := by
  subst hj
  exact h 12 i _ (by simp [off, hi])
theorem rl_13 (h : Rl 1 α d) (hi : i < 16) (hj : j = 193 + 8 * i) : α 14 i = d j := by
  subst hj
  exact h 13 i _ (by simp [off, hi])
theorem rl_14 (h : Rl 1 α d) (hi : i < 16) (hj : j = 194 + 8 * i) : α 15 i = d j := by
  subst hj
  exact h 14 i _ (by simp [off, hi])
theorem rl_15 (h : Rl 1 α d) (hi : i < 16) (hj : j = 195 + 8 * i) : α 16 i = d j := by
  subst hj
  exact h 15 i _ (by simp [off, hi])
theorem rl_16 (h : Rl 1 α d) (hi : i < 16) (hj : j = 196 + 8 * i) : α 17 i = d j := by
  subst hj
  exact h 16 i _ (by simp [off, hi])
theorem rl_17 (h : Rl 1 α d) (hi : i < 16) (hj : j = 197 + 8 * i) : α 18 i = d j := by
  subst hj
  exact h 17 i _ (by simp [off, hi])
theorem rl_19 (h : Rl 1 α d) (hi : i < 8) (hj : j = 320 + i) : α 20 i = d j := by
  subst hj
  exact h 19 i _ (by simp [off, hi])
theorem rl_20 (h : Rl 1 α d) (hi : i < 8) (hj : j = 330 + i) : α 21 i = d j := by
  subst hj
  exact h 20 i _ (by simp [off, hi])
theorem rl_22 (h : Rl 1 α d) (hi : i < 60) (hj : j = 340 + 3 * i) : α 23 i = d j := by
  subst hj
  exact h 22 i _ (by simp [off, hi])
theorem rl_23 (h : Rl 1 α d) (hi : i < 60) (hj : j = 341 + 3 * i) : α 24 i = d j := by
  subst hj
  exact h 23 i _ (by simp [off, hi])
theorem rl_24 (h : Rl 1 α d) (hi : i < 60) (hj : j = 342 + 3 * i) : α 25 i = d j := by
  subst hj
  exact h 24 i _ (by simp [off, hi])
theorem rl_26 (h : Rl 1 α d) (hi : i < 50) (hj : j = 630 + i) : α 27 i = d j := by
  subst hj
  exact h 26 i _ (by simp [off, hi])
theorem rl_27 (h : Rl 1 α d) (hi : i < 20) (hj : j = 680 + i) : α 28 i = d j := by
  subst hj
  exact h 27 i _ (by simp [off, hi])
theorem rl_4 (h : Rl 1 α d) (hl : l < 4) (hi : i < 6) (hk : k = 6 * l + i) (hj : j = 91 + 13 * l + i) : α 5 k = d j := by
  subst hj
  subst hk
  refine h 4 (6 * l + i) _ ?_
  simp only [off]
  rw [if_pos (by omega), show (6 * l + i) / 6 = l by omega, show (6 * l + i) % 6 = i by omega]
theorem rl_5 (h : Rl 1 α d) (hl : l < 4) (hi : 1 ≤ i ∧ i < 6) (hk : k = 6 * l + i) (hj : j = 96 + 13 * l + i) : α 6 k = d j := by
  subst hj
  subst hk
  refine h 5 (6 * l + i) _ ?_
  simp only [off]
  rw [if_pos (by omega), show (6 * l + i) / 6 = l by omega, show (6 * l + i) % 6 = i by omega]
end RLX
/-! ===== texts: how they are read, and what they give ===== -/
def nmi (u : Nat) (c : Int32) : Int32 := if u = 0 then (if c = 102 then 0 else if c = 103 then 1 else if c = 112 then 2 else if c = 113 then 3 else if c = 110 then 4 else -1) else (if c = 110 then 0 else if c = 108 then 1 else if c = 103 then 2 else if c = 98 then 3 else -1)
/-- how deep a sign between two stands; 9 of what is none -/
def lvl (c : Int32) : Nat := if c = 124 then 0 else if c = 38 then 1 else if c = 60 ∨ c = 61 ∨ c = 62 then 2 else if c = 43 ∨ c = 45 then 3 else if c = 42 ∨ c = 47 ∨ c = 37 then 4 else 9
abbrev PR : Type := Bool × Nat × List Int32
/-- the byte at a place; -1 behind the end -/
def nxb (b : Nat → Int32) (n a : Nat) : Int32 := if a < n then b a else -1
def dgt (c : Int32) : Bool := decide (48 ≤ c) && decide (c ≤ 57)
def prn (x : Nat → Int32) : Nat → Nat → Int32 → Nat × Int32
  | 0, a, v => (a, v)
  | k + 1, a, v => if dgt (x a) then prn x k (a + 1) (v * 10 + x a - 48) else (a, v)
/-- further ones of a level, k at most -/
def prl (x : Nat → Int32) (lev : Nat) (g : Nat → PR) : Nat → Nat → List Int32 → PR
  | 0, a, c => (true, a, c)
  | k + 1, a, c => if lvl (x a) = lev then (match g (a + 1) with
    | (true, a2, c2) => prl x lev g k a2 (c ++ c2 ++ [20000 + x a])
    | (false, a2, c2) => (false, a2, c ++ c2)) else (true, a, c)
/-- a level (from 5 on a unit) from place a, with op open: read or not, how far, the steps -/
def pr (u : Nat) (x : Nat → Int32) : Nat → Nat → Nat → Nat → PR
  | 0, _, a, _ => (false, a, [])
  | f + 1, lev, a, op =>
    if lev < 5 then (match pr u x f (lev + 1) a op with
      | (true, a2, c2) => prl x lev (fun a => pr u x f (lev + 1) a op) (if lev = 2 then 1 else 50) a2 c2
      | (false, a2, c2) => (false, a2, c2))
    else if x a = 33 ∨ x a = 40 then
      (if op < 5 then (if x a = 33 then (match pr u x f 5 (a + 1) (op + 1) with
          | (true, a2, c2) => (true, a2, c2 ++ [20033])
          | (false, a2, c2) => (false, a2, c2))
        else (match pr u x f 0 (a + 1) (op + 1) with
          | (true, a2, c2) => if x a2 = 41 then (true, a2 + 1, c2) else (false, a2, c2)
          | (false, a2, c2) => (false, a2, c2)))
      else (false, a, []))
    else if dgt (x a) then (true, (prn x 4 a 0).1, [(prn x 4 a 0).2])
    else if nmi u (x a) < 0 then (false, a, []) else (true, a + 1, [10000 + nmi u (x a)])
/-- the whole text -/
def prt (u : Nat) (b : Nat → Int32) (n : Nat) : PR := pr u (nxb b n) 60 0 0 0
theorem prt_congr {u n : Nat} {b b' : Nat → Int32} (h : ∀ i, i < n → b' i = b i) : prt u b' n = prt u b n := by
  unfold prt
  rw [show nxb b' n = nxb b n from funext fun a => by unfold nxb; by_cases e : a < n <;> simp [e, h]]
/-- two numbers joined by a sign -/
def jn2 (s a b : Int32) : Int32 := if s = 124 then bI (decide (¬ a = 0) || decide (¬ b = 0)) else if s = 38 then bI (decide (¬ a = 0) && decide (¬ b = 0)) else if s = 60 then bI (decide (a < b)) else if s = 61 then bI (decide (a = b)) else if s = 62 then bI (decide (b < a)) else if s = 43 then a + b else if s = 45 then a - b else if s = 42 then a * b else if s = 47 then (if b = 0 then 0 else a / b) else (if b = 0 then 0 else a - a / b * b)
/-- one step over a stack (the top first) -/
def ev1 (nm : Nat → Int32) (st : List Int32) (c : Int32) : List Int32 :=
  if c < 10000 then c :: st else if c < 20000 then nm (c - 10000).toNatClampNeg :: st
  else if c = 20033 then (match st with | a :: st => bI (decide (a = 0)) :: st | [] => [])
  else match st with | b :: a :: st => jn2 (c - 20000) a b :: st | st => st
def evl (nm : Nat → Int32) (c : List Int32) : Int32 := (c.foldl (ev1 nm) []).headD 0
/-- the class holds a text's steps, the model its bytes -/
def Tx (u : Nat) (steps : Int32) (code : Nat → Int32) (n : Int32) (b : Nat → Int32) : Prop :=
  (n = 0 ∧ steps = 0) ∨ ∃ (m : Nat) (c : List Int32), 1 ≤ m ∧ m ≤ 50 ∧ n = nI m ∧ prt u b m = (true, m, c) ∧ 1 ≤ c.length ∧ c.length ≤ 50 ∧ steps = nI c.length ∧ ∀ i, i < c.length → code i = c.getD i 0
theorem Tx.same {u : Nat} {steps n : Int32} {code code' b b' : Nat → Int32} (h : Tx u steps code n b) (hb : ∀ i, i < 50 → b' i = b i) (hc : ∀ i, i < 50 → code' i = code i) : Tx u steps code' n b' := by
  rcases h with h | ⟨m, c, h1, h2, h3, h4, h5, h6, h7, h8⟩
  · exact Or.inl h
  · exact Or.inr ⟨m, c, h1, h2, h3, by rw [prt_congr (fun i hi => hb i (by omega))]; exact h4, h5, h6, h7, fun i hi => by rw [hc i (by omega)]; exact h8 i hi⟩
/-! ===== what holds between calls ===== -/
def Wj (w : Nat) (α : Nat → Nat → Int32) (d : Nat → Int32) : Prop := Rl w α d ∧ Iv d ∧ Tx 0 (α (w + 28) 0) (α (w + 29)) (d 520) (fun i => d (530 + i)) ∧ Tx 1 (α (w + 31) 0) (α (w + 32)) (d 521) (fun i => d (580 + i))
def Vj (α μ : Nat → Nat → Int32) : Prop := α 83 0 = μ 94 18 ∧ (∃ m, m ≤ 40 ∧ μ 94 18 = nI m) ∧ ∀ i, i < 40 → α 84 i = μ 103 i
def Sj (α μ : Nat → Nat → Int32) : Prop := ∀ s, s < 4 → α 86 s = μ 104 s ∧ α 87 s = μ 105 s ∧ (∃ m, m ≤ 40 ∧ μ 105 s = nI m) ∧ (μ 104 s = 0 ∨ μ 104 s = 8 ∨ μ 104 s = 16 ∨ μ 104 s = 32) ∧ ∀ i, i < 40 → α (89 + s) i = μ 106 (40 * s + i)
def J0 (α μ : Nat → Nat → Int32) : Prop := (Rl 1 α (μ 95) ∧ Tx 0 (α 29 0) (α 30) (μ 95 520) (fun i => μ 95 (530 + i)) ∧ Tx 1 (α 32 0) (α 33) (μ 95 521) (fun i => μ 95 (580 + i))) ∧ (¬ μ 94 2 = 0 → Wj 38 α (μ 96)) ∧ α 0 7 = μ 94 2 ∧ (∀ k, k < 6 → α 93 k = μ 97 k) ∧ Vj α μ ∧ Sj α μ
def J (α μ : Nat → Nat → Int32) : Prop := J0 α μ ∧ Iv (μ 95)
/-- the cells of which J0 speaks -/
def jA (k : Nat) : Prop := k ≤ 30 ∨ k = 32 ∨ k = 33 ∨ (38 ≤ k ∧ k ≤ 67) ∨ k = 69 ∨ k = 70 ∨ 83 ≤ k
def jB (k i : Nat) : Prop := k = 95 ∨ k = 96 ∨ k = 97 ∨ k = 103 ∨ k = 104 ∨ k = 105 ∨ k = 106 ∨ (k = 94 ∧ (i = 2 ∨ i = 18))
/-- only what J speaks of matters -/
theorem J0.same {α α' μ μ' : Nat → Nat → Int32} (h : J0 α μ) (ha : ∀ k i, jA k → α' k i = α k i) (hm : ∀ k i, jB k i → μ' k i = μ k i) : J0 α' μ' := by
  obtain ⟨⟨r1, t1, t2⟩, h2, h3, h4, ⟨v1, v2, v3⟩, h6⟩ := h
  unfold jA at ha
  unfold jB at hm
  have e95 : μ' 95 = μ 95 := funext fun i => hm 95 i (by omega)
  have e96 : μ' 96 = μ 96 := funext fun i => hm 96 i (by omega)
  have a29 : α' 30 = α 30 := funext fun i => ha 30 i (by omega)
  have a32 : α' 33 = α 33 := funext fun i => ha 33 i (by omega)
  have b29 : α' (38 + 29) = α (38 + 29) := funext fun i => ha 67 i (by omega)
  have b32 : α' (38 + 32) = α (38 + 32) := funext fun i => ha 70 i (by omega)
  refine ⟨⟨?_, ?_, ?_⟩, fun h0 => ?_, ?_, fun k hk => ?_, ⟨?_, ?_, fun i hi => ?_⟩, fun s hs => ?_⟩
  · rw [e95]; exact r1.same (fun c hc i => ha _ _ (by omega)) (fun _ _ => rfl)
  · rw [e95, a29, ha 29 0 (by omega)]; exact t1
  · rw [e95, a32, ha 32 0 (by omega)]; exact t2
  · rw [hm 94 2 (by omega)] at h0
    obtain ⟨q1, q2, q3, q4⟩ := h2 h0
    rw [e96]
    refine ⟨q1.same (fun c hc i => ha _ _ (by omega)) (fun _ _ => rfl), q2, ?_, ?_⟩
    · rw [b29, ha (38 + 28) 0 (by omega)]; exact q3
    · rw [b32, ha (38 + 31) 0 (by omega)]; exact q4
  · rw [ha 0 7 (by omega), hm 94 2 (by omega)]; exact h3
  · rw [ha 93 k (by omega), hm 97 k (by omega)]; exact h4 k hk
  · rw [ha 83 0 (by omega), hm 94 18 (by omega)]; exact v1
  · rw [hm 94 18 (by omega)]; exact v2
  · rw [ha 84 i (by omega), hm 103 i (by omega)]; exact v3 i hi
  · obtain ⟨s1, s2, s3, s4, s5⟩ := h6 s hs
    refine ⟨?_, ?_, ?_, ?_, fun i hi => ?_⟩
    · rw [ha 86 s (by omega), hm 104 s (by omega)]; exact s1
    · rw [ha 87 s (by omega), hm 105 s (by omega)]; exact s2
    · rw [hm 105 s (by omega)]; exact s3
    · rw [hm 104 s (by omega)]; exact s4
    · rw [ha (89 + s) i (by omega), hm 106 (40 * s + i) (by omega)]; exact s5 i hi

theorem J.same {α α' μ μ' : Nat → Nat → Int32} (h : J α μ) (ha : ∀ k i, jA k → α' k i = α k i) (hm : ∀ k i, jB k i → μ' k i = μ k i) : J α' μ' := ⟨h.1.same ha hm, by rw [show μ' 95 = μ 95 from funext fun i => hm 95 i (Or.inl rfl)]; exact h.2⟩
theorem rf_w_row {f : Nat → Nat → Int32} {k k' i : Nat} {v : Int32} (h : k' ≠ k) : rf_w f k i v k' = f k' := by
  funext j
  rw [rf_w_at, if_neg (fun q => h q.1)]
theorem rf_w_self {f : Nat → Nat → Int32} {k i : Nat} {v : Int32} : rf_w f k i v k = upd (f k) i v := by
  funext j
  rw [rf_w_at]
  unfold upd
  by_cases h : j = i <;> simp [h]
/-- both write a place of the row -/
theorem J0.put {α μ : Nat → Nat → Int32} (h : J0 α μ) {c i j : Nat} (ho : off c i = some j) (v : Int32) : J0 (rf_w α (1 + c) i v) (rf_w μ 95 j v) := by
  obtain ⟨⟨r1, t1, t2⟩, h2, h3, h4, ⟨v1, v2, v3⟩, h6⟩ := h
  have hc := (off_bd ho).1
  have hd := dec_off ho
  have hj : ¬ (520 ≤ j ∧ j < 630) := fun ⟨x1, x2⟩ => by
    unfold dec at hd
    rw [if_neg (by omega), if_neg (by omega), if_neg (by omega), if_neg (by omega), if_neg (by omega), if_neg (by omega), if_neg (by omega), if_neg (by omega), if_neg (by omega), if_neg (by omega), if_neg (by omega), if_neg (by omega), if_neg (by omega), if_neg (by omega), if_neg (by omega), if_neg (by omega), if_neg (by omega), if_neg (by omega), if_neg (by omega), if_neg (by omega), if_neg (by omega), if_neg (by omega), if_neg (by omega), if_neg (by omega), if_neg (by omega), if_pos (by omega)] at hd
    cases hd
  have m : ∀ k, k ≠ 95 → rf_w μ 95 j v k = μ k := fun k hk => rf_w_row hk
  have a : ∀ k, k ≠ 1 + c → rf_w α (1 + c) i v k = α k := fun k hk => rf_w_row hk
  have d : ∀ k, k ≠ j → rf_w μ 95 j v 95 k = μ 95 k := fun k hk => by rw [rf_w_at, if_neg (fun q => hk q.2)]
  refine ⟨⟨by rw [rf_w_self]; exact r1.put ho v, ?_, ?_⟩, fun h0 => ?_, ?_, fun k hk => ?_, ⟨?_, ?_, fun i hi => ?_⟩, fun s hs => ?_⟩
  · rw [a 29 (by omega), a 30 (by omega), d 520 (by omega)]
    exact t1.same (fun i hi => d _ (by omega)) (fun _ _ => rfl)
  · rw [a 32 (by omega), a 33 (by omega), d 521 (by omega)]
    exact t2.same (fun i hi => d _ (by omega)) (fun _ _ => rfl)
  · rw [m 94 (by omega)] at h0
    rw [m 96 (by omega)]
    obtain ⟨q1, q2, q3, q4⟩ := h2 h0
    exact ⟨q1.same (fun c' hc' i' => by rw [a _ (by omega)]) (fun _ _ => rfl), q2, by rw [a _ (by omega), a _ (by omega)]; exact q3, by rw [a _ (by omega), a _ (by omega)]; exact q4⟩
  · rw [a 0 (by omega), m 94 (by omega)]; exact h3
  · rw [a 93 (by omega), m 97 (by omega)]; exact h4 k hk
  · rw [a 83 (by omega), m 94 (by omega)]; exact v1
  · rw [m 94 (by omega)]; exact v2
  · rw [a 84 (by omega), m 103 (by omega)]; exact v3 i hi
  · obtain ⟨s1, s2, s3, s4, s5⟩ := h6 s hs
    rw [a 86 (by omega), a 87 (by omega), m 104 (by omega), m 105 (by omega), m 106 (by omega), a (89 + s) (by omega)]
    exact ⟨s1, s2, s3, s4, s5⟩
