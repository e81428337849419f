/-- an answer's kind -/
def rk (t : Option FieldType) (r : Option Value) : Bool := match t, r with
  | some .long, some (.long _) => true
  | some .long, _ => false
  | some _, some (.int _) => true
  | _, _ => false
/-- both objects' methods: like answers, and J again -/
def Op (T : rf_Tb) (Mc Mm : rf_M) (Lc Lm : List (Option Value)) (α μ : Nat → Nat → Int32) : Prop :=
  rf_Ok T Mc 60 0 Lc [] (α, μ) (fun r s => rk Mc.2.2.2 r = true ∧ ∃ α' : Nat → Nat → Int32, s = (α', μ) ∧ rf_Ok T Mm 60 0 Lm [] (α', μ) (fun r2 s2 => r2 = r ∧ ∃ μ' : Nat → Nat → Int32, s2 = (α', μ') ∧ J α' μ'))
theorem J0.err {α μ : Nat → Nat → Int32} (h : J0 α μ) {k : Nat} (hk : k < 6) : J0 (rf_w α 93 k (α 93 k + nI 1)) (rf_w μ 97 k (μ 97 k + nI 1)) := by
  have a : ∀ k', k' ≠ 93 → rf_w α 93 k (α 93 k + nI 1) k' = α k' := fun k' hk' => rf_w_row hk'
  have m : ∀ k', k' ≠ 97 → rf_w μ 97 k (μ 97 k + nI 1) k' = μ k' := fun k' hk' => rf_w_row hk'
  obtain ⟨⟨r1, t1, t2⟩, h2, h3, h4, ⟨v1, v2, v3⟩, h6⟩ := h
  refine ⟨⟨?_, ?_, ?_⟩, fun h0 => ?_, ?_, fun k' hk' => ?_, ⟨?_, ?_, fun i hi => ?_⟩, fun s hs => ?_⟩
  · rw [m 95 (by omega)]; exact r1.same (fun c hc i => by rw [a _ (by omega)]) (fun _ _ => rfl)
  · rw [m 95 (by omega), a 29 (by omega), a 30 (by omega)]; exact t1
  · rw [m 95 (by omega), a 32 (by omega), a 33 (by omega)]; exact t2
  · rw [m 94 (by omega)] at h0
    obtain ⟨q1, q2, q3, q4⟩ := h2 h0
    rw [m 96 (by omega)]
    exact ⟨q1.same (fun c hc i => by rw [a _ (by omega)]) (fun _ _ => rfl), q2, by rw [a _ (by omega), a _ (by omega)]; exact q3, by rw [a _ (by omega), a _ (by omega)]; exact q4⟩
  · rw [a 0 (by omega), m 94 (by omega)]; exact h3
  · rw [rf_w_at, rf_w_at]
    by_cases e : k' = k
    · simp only [e, and_self, if_true]
      rw [h4 k hk]
    · simp only [e, and_false, if_false]
      exact h4 k' hk'
  · rw [a 83 (by omega), m 94 (by omega)]; exact v1
  · rw [m 94 (by omega)]; exact v2
  · rw [a 84 (by omega), m 103 (by omega)]; exact v3 i hi
  · rw [a 86 (by omega), a 87 (by omega), m 104 (by omega), m 105 (by omega), m 106 (by omega), a (89 + s) (by omega)]; exact h6 s hs
theorem J.err {α μ : Nat → Nat → Int32} (h : J α μ) {k : Nat} (hk : k < 6) : J (rf_w α 93 k (α 93 k + nI 1)) (rf_w μ 97 k (μ 97 k + nI 1)) := ⟨h.1.err hk, by rw [rf_w_row (by decide)]; exact h.2⟩
theorem J0.mc {α μ μ' : Nat → Nat → Int32} (h : J0 α μ) (h95 : ∀ i, μ' 95 i = μ 95 i) (ho : ∀ k, k ≠ 95 → μ' k = μ k) : J0 α μ' := h.same (fun _ _ _ => rfl) (fun k i _ => by
  by_cases e : k = 95
  · subst e
    exact h95 i
  · rw [ho k e])
theorem J0.scr {α μ : Nat → Nat → Int32} (h : J0 α μ) {k i : Nat} {v : Int32} (hk : ¬ jA k) : J0 (rf_w α k i v) μ := h.same (fun k' i' hk' => by
  rw [rf_w_at, if_neg]
  rintro ⟨rfl, -⟩
  exact hk hk') (fun _ _ _ => rfl)
section OFX
variable {i j k l : Nat}
theorem off_2 (hi : i < 64) (hj : j = 20 + i) : off 2 i = some j := by
  subst hj
  simp [off, hi]
theorem off_3 (hi : i < 4) (hj : j = 90 + 13 * i) : off 3 i = some j := by
  subst hj
  simp [off, hi]
theorem off_6 (hi : i < 12) (hj : j = 150 + 3 * i) : off 6 i = some j := by
  subst hj
  simp [off, hi]
theorem off_7 (hi : i < 12) (hj : j = 151 + 3 * i) : off 7 i = some j := by
  subst hj
  simp [off, hi]
theorem off_8 (hi : i < 12) (hj : j = 152 + 3 * i) : off 8 i = some j := by
  subst hj
  simp [off, hi]
theorem off_10 (hi : i < 16) (hj : j = 190 + 8 * i) : off 10 i = some j := by
  subst hj
  simp [off, hi]
theorem off_11 (hi : i < 16) (hj : j = 191 + 8 * i) : off 11 i = some j := by
  subst hj
  simp [off, hi]
theorem off_12 (hi : i < 16) (hj : j = 192 + 8 * i) : off 12 i = some j := by
  subst hj
  simp [off, hi]
theorem off_13 (hi : i < 16) (hj : j = 193 + 8 * i) : off 13 i = some j := by
  subst hj
  simp [off, hi]
theorem off_14 (hi : i < 16) (hj : j = 194 + 8 * i) : off 14 i = some j := by
  subst hj
  simp [off, hi]
theorem off_15 (hi : i < 16) (hj : j = 195 + 8 * i) : off 15 i = some j := by
  subst hj
  simp [off, hi]
theorem off_16 (hi : i < 16) (hj : j = 196 + 8 * i) : off 16 i = some j := by
  subst hj
  simp [off, hi]
theorem off_17 (hi : i < 16) (hj : j = 197 + 8 * i) : off 17 i = some j := by
  subst hj
  simp [off, hi]
theorem off_19 (hi : i < 8) (hj : j = 320 + i) : off 19 i = some j := by
  subst hj
  simp [off, hi]
theorem off_20 (hi : i < 8) (hj : j = 330 + i) : off 20 i = some j := by
  subst hj
  simp [off, hi]
theorem off_22 (hi : i < 60) (hj : j = 340 + 3 * i) : off 22 i = some j := by
  subst hj
  simp [off, hi]
theorem off_23 (hi : i < 60) (hj : j = 341 + 3 * i) : off 23 i = some j := by
  subst hj
  simp [off, hi]
theorem off_24 (hi : i < 60) (hj : j = 342 + 3 * i) : off 24 i = some j := by
  subst hj
  simp [off, hi]
theorem off_26 (hi : i < 50) (hj : j = 630 + i) : off 26 i = some j := by
  subst hj
  simp [off, hi]
theorem off_27 (hi : i < 20) (hj : j = 680 + i) : off 27 i = some j := by
  subst hj
  simp [off, hi]
theorem off_4 (hl : l < 4) (hk : k < 6) (hi : i = 6 * l + k) (hj : j = 91 + 13 * l + k) : off 4 i = some j := by
  subst hj
  subst hi
  simp only [off]
  rw [if_pos (by omega), show (6 * l + k) / 6 = l by omega, show (6 * l + k) % 6 = k by omega]
theorem off_5 (hl : l < 4) (hk : 1 ≤ k ∧ k < 6) (hi : i = 6 * l + k) (hj : j = 96 + 13 * l + k) : off 5 i = some j := by
  subst hj
  subst hi
  simp only [off]
  rw [if_pos (by omega), show (6 * l + k) / 6 = l by omega, show (6 * l + k) % 6 = k by omega]
end OFX
theorem inc_back {x : Int32} {n : Nat} (h : x = nI n) : some (Value.int (nI (1 + n) - nI 1)) = some (.int x) := by
  subst h
  rw [pk_sub (by omega), Nat.add_sub_cancel_left]
theorem ok_td {T : rf_Tb} {M : rf_M} {d pc : Nat} {L : List (Option Value)} {st : List Value} {σ : rf_Mem} {Q : Option Value → rf_Mem → Prop} {x : Int32} {dflt lo hi : Int} {offs : List Int} {tgts : List Nat} {dt : Nat} (hck : rf_ckt M pc dflt lo hi offs tgts dt = true) (hx : x.toInt < lo ∨ hi < x.toInt) (k : rf_Ok T M d dt L st σ Q) : rf_Ok T M d pc L (.int x :: st) σ Q := by
  refine ok_table hck (fun _ => k) (fun j t2 hj he => ?_)
  have hck' := hck
  simp only [rf_ckt, Bool.and_eq_true, decide_eq_true_eq] at hck'
  have hl : tgts.length = offs.length := by
    have := congrArg List.length hck'.1.2
    simpa using this.symm
  have := (List.getElem?_eq_some_iff.mp hj).1
  omega
theorem ge_m1 {i : Int32} (h1 : (-1) ≤ i) (h2 : ¬ i = (-1)) : ∃ k : Nat, k < 2147483648 ∧ i = nI k := by
  have h3 := Int32.le_iff_toInt_le.mp h1
  have h4 : (-1 : Int32).toInt = -1 := rfl
  have h5 : ¬ i.toInt = -1 := fun e => h2 (Int32.toInt_inj.mp (by rw [h4]; exact e))
  have h6 : i.toInt < 2147483648 := Int32.toInt_lt i
  refine ⟨i.toInt.toNat, by omega, Int32.toInt_inj.mp ?_⟩
  rw [nI_toInt (by omega)]
  omega
theorem ge_0 {i : Int32} (h1 : 0 ≤ i) : ∃ k : Nat, k < 2147483648 ∧ i = nI k := by
  have h3 := Int32.le_iff_toInt_le.mp h1
  have h4 : (0 : Int32).toInt = 0 := rfl
  have h6 : i.toInt < 2147483648 := Int32.toInt_lt i
  refine ⟨i.toInt.toNat, by omega, Int32.toInt_inj.mp ?_⟩
  rw [nI_toInt (by omega)]
  omega
theorem lt_nat {y : Int32} {k n : Nat} (h : nI k < y) (hy : y = nI n) (hk : k < 2147483648) : k < n := by
  subst hy
  rcases Nat.lt_or_ge k n with h1 | h1
  · exact h1
  · exact absurd h (nI_nlt h1 (by omega))
theorem nlt_nat {y : Int32} {k n : Nat} (h : ¬ nI k < y) (hy : y = nI n) (hn : n < 2147483648) : n ≤ k := by
  subst hy
  rcases Nat.lt_or_ge k n with h1 | h1
  · exact absurd (nI_lt h1 (by omega)) h
  · exact h1
section H26
variable {Ln : Nat} {xs : Nat → Int32} {α μ : Nat → Nat → Int32}
theorem lt_ne {x y : Int32} (h : x < y) : ¬ x = y := fun e => by
  subst e
  exact absurd h Int32.lt_irrefl
theorem full_eq {x : Int32} {a n : Nat} (h : x = nI a) (ha : a ≤ n ∧ n < 2147483648) (hn : ¬ x < nI n) : x = nI n := by
  subst h
  rcases Nat.lt_or_ge a n with h1 | h1
  · exact absurd (nI_lt h1 (by omega)) hn
  · rw [show a = n by omega]
theorem cn_upd {d : Nat → Int32} {j k : Nat} {v : Int32} (h : k ≠ j) : cn (upd d j v) k = cn d k := by
  unfold cn
  rw [pk_un h]
theorem cn_self {d : Nat → Int32} {j : Nat} {v : Int32} : cn (upd d j v) j = v.toNatClampNeg := by
  unfold cn
  rw [pk_us]
theorem c_addStation  (hR : Rl 1 α (μ 95)) (hI : Iv (μ 95)) : rf_At (rf_T Ln xs) MX4_addStation 1 0 ([some (.ref 2)], [], 108, (α, μ)) (some (.int (nI (1 + cn (μ 95) 1) - nI 1))) 108 (rf_w α 2 0 (nI (1 + cn (μ 95) 1)), μ) := by
  refine rf_pa ?_
  have b1 := hI.le1
  refine ok_step (ps := []) (L' := [some (.ref 2)]) (st' := [.int (((rf_w α 2 0 ((α 2 0) + (nI 1))) 2 0) - (nI 1))]) (σ' := (rf_w α 2 0 ((α 2 0) + (nI 1)), μ)) (pc' := 16) kX4_addStation_0 rfl rfl rf_a0 ?_
  try rw [(show α 2 0 = μ 95 1 from hR 1 0 1 rfl)]
  try rw [(show ((μ 95 1) + (nI 1)) = nI (1 + cn (μ 95) 1) from rf_eq (rf_nadd (x := μ 95 1) (y := nI 1) (hI.at1) rfl) (by omega))]
  try rw [(show (rf_w α 2 0 (nI (1 + cn (μ 95) 1))) 2 0 = (nI (1 + cn (μ 95) 1)) from by rw [rf_w_at, if_pos ⟨rfl, rfl⟩])]
  refine ok_reti eX4_addStation_16 rfl ?_
  exact ⟨rfl, rfl⟩
/-- a place that no count and no link is -/
def nst (j : Nat) : Prop := j ≠ 2 ∧ j ≠ 3 ∧ j ≠ 4 ∧ j ≠ 5 ∧ ¬ (90 ≤ j ∧ j < 142 ∧ (j - 90) % 13 = 0) ∧ ¬ (150 ≤ j ∧ j < 186 ∧ (j - 150) % 3 = 0) ∧ ¬ (190 ≤ j ∧ j < 318 ∧ ((j - 190) % 8 = 1 ∨ (j - 190) % 8 = 5 ∨ (j - 190) % 8 = 6)) ∧ ¬ (320 ≤ j ∧ j < 328) ∧ ¬ (330 ≤ j ∧ j < 338)
theorem bd_row_ : ∀ l, l < 4 → ∀ i, i < 6 → bd (91 + 13 * l + i) = some 7 := by decide +kernel
theorem bd_leg_ : ∀ l, l < 4 → ∀ i, i < 5 → bd (97 + 13 * l + i) = some 30 := by decide +kernel
theorem bd_row {l i k : Nat} (hl : l < 4) (hi : i < 6) (hk : k = 91 + 13 * l + i) : bd k = some 7 := by
  subst hk
  exact bd_row_ l hl i hi
theorem bd_leg {l i k : Nat} (hl : l < 4) (hi : i < 5) (hk : k = 97 + 13 * l + i) : bd k = some 30 := by
  subst hk
  exact bd_leg_ l hl i hi
theorem bdN_ : ∀ k, k < 90 → 13 ≤ k → bd k = none := by decide +kernel
theorem bdN {k : Nat} (h : 13 ≤ k ∧ k < 90 ∨ 680 ≤ k) : bd k = none := by
  rcases h with h | h
  · exact bdN_ k h.2 h.1
  · unfold bd
    simp only [show ¬ k < 13 by omega, show ¬ k < 90 by omega, show ¬ k < 142 by omega, show ¬ k < 150 by omega, show ¬ k < 186 by omega, show ¬ k < 190 by omega, show ¬ k < 318 by omega, show ¬ k < 320 by omega, show ¬ k < 328 by omega, show ¬ k < 330 by omega, show ¬ k < 338 by omega, show ¬ k < 340 by omega, show ¬ k < 520 by omega, show ¬ k < 522 by omega, show ¬ k < 530 by omega, show ¬ k < 680 by omega, if_false]
section IVP
variable {d : Nat → Int32} {j : Nat} {v : Int32}
theorem Iv.put (h : Iv d) (hb : ∀ b, bd j = some b → ∃ m, m ≤ b ∧ v = nI m) (hn : nst j) : Iv (upd d j v) := by
  have l2 := h.le2
  have l3 := h.le3
  have l4 := h.le4
  have l5 := h.le5
  obtain ⟨h1, h2, h3, h4, h5, h6⟩ := h
  unfold nst at hn
  refine ⟨h1.put hb, fun l hl => ?_, fun t ht => ?_, fun g hg => ?_, fun s hs => ?_, fun s hs hs8 => ?_⟩
  · rw [cn_upd (by omega)] at hl
    rw [cn_upd (by omega)]
    exact h2 l hl
  · rw [cn_upd (by omega)] at ht
    rw [cn_upd (by omega), cn_upd (by omega)]
    exact h3 t ht
  · rw [cn_upd (by omega)] at hg
    rw [cn_upd (by omega), cn_upd (by omega), cn_upd (by omega), cn_upd (by omega)]
    exact h4 g hg
  · rw [cn_upd (by omega)] at hs
    rw [cn_upd (by omega), cn_upd (by omega)]
    exact h5 s hs
  · rw [cn_upd (by omega)] at hs
    rw [cn_upd (by omega)]
    exact h6 s hs hs8
/-- the number of STATIONS of a LINE, of one that isn't counted yet or with two at least -/
theorem Iv.put90 (h : Iv d) {l m : Nat} (hl : l < 4) (hm : m ≤ 6) (h0 : cn d 2 ≤ l ∨ 2 ≤ m) : Iv (upd d (90 + 13 * l) (nI m)) := by
  have l2 := h.le2
  have l3 := h.le3
  have l4 := h.le4
  have l5 := h.le5
  obtain ⟨h1, h2, h3, h4, h5, h6⟩ := h
  refine ⟨h1.put (fun b hb => ⟨m, by rw [bd_90 hl rfl] at hb; cases hb; exact hm, rfl⟩), fun l' hl' => ?_, fun t ht => ?_, fun g hg => ?_, fun s hs => ?_, fun s hs hs8 => ?_⟩
  · rw [cn_upd (by omega)] at hl'
    by_cases e : l' = l
    · subst e
      rw [cn_self, nI_clamp (by omega)]
      omega
    · rw [cn_upd (by omega)]
      exact h2 l' hl'
  · rw [cn_upd (by omega)] at ht
    rw [cn_upd (by omega), cn_upd (by omega)]
    exact h3 t ht
  · rw [cn_upd (by omega)] at hg
    rw [cn_upd (by omega), cn_upd (by omega), cn_upd (by omega), cn_upd (by omega)]
    exact h4 g hg
  · rw [cn_upd (by omega)] at hs
    rw [cn_upd (by omega), cn_upd (by omega)]
    exact h5 s hs
  · rw [cn_upd (by omega)] at hs
    rw [cn_upd (by omega)]
    exact h6 s hs hs8
theorem Iv.put150 (h : Iv d) {t m : Nat} (ht : t < 12) (hm : m ≤ 3) (h0 : cn d 3 ≤ t) : Iv (upd d (150 + 3 * t) (nI m)) := by
  have l2 := h.le2
  have l3 := h.le3
  have l4 := h.le4
  have l5 := h.le5
  obtain ⟨h1, h2, h3, h4, h5, h6⟩ := h
  refine ⟨h1.put (fun b hb => ⟨m, by rw [bd_150 ht rfl] at hb; cases hb; exact hm, rfl⟩), fun l' hl' => ?_, fun t' ht' => ?_, fun g hg => ?_, fun s hs => ?_, fun s hs hs8 => ?_⟩
  · rw [cn_upd (by omega)] at hl'
    rw [cn_upd (by omega)]
    exact h2 l' hl'
  · rw [cn_upd (by omega)] at ht'
    rw [cn_upd (by omega), cn_upd (by omega)]
    exact h3 t' ht'
  · rw [cn_upd (by omega)] at hg
    rw [cn_upd (by omega), cn_upd (by omega), cn_upd (by omega), cn_upd (by omega)]
    exact h4 g hg
  · rw [cn_upd (by omega)] at hs
    rw [cn_upd (by omega), cn_upd (by omega)]
    exact h5 s hs
  · rw [cn_upd (by omega)] at hs
    rw [cn_upd (by omega)]
    exact h6 s hs hs8
theorem Iv.put191 (h : Iv d) {g m : Nat} (hg : g < 16) (hm : m ≤ 11) (h0 : cn d 4 ≤ g) : Iv (upd d (191 + 8 * g) (nI m)) := by
  have l2 := h.le2
  have l3 := h.le3
  have l4 := h.le4
  have l5 := h.le5
  obtain ⟨h1, h2, h3, h4, h5, h6⟩ := h
  refine ⟨h1.put (fun b hb => ⟨m, by rw [bd_191 hg rfl] at hb; cases hb; exact hm, rfl⟩), fun l' hl' => ?_, fun t' ht' => ?_, fun g' hg' => ?_, fun s hs => ?_, fun s hs hs8 => ?_⟩
  · rw [cn_upd (by omega)] at hl'
    rw [cn_upd (by omega)]
    exact h2 l' hl'
  · rw [cn_upd (by omega)] at ht'
    rw [cn_upd (by omega), cn_upd (by omega)]
    exact h3 t' ht'
  · rw [cn_upd (by omega)] at hg'
    rw [cn_upd (by omega), cn_upd (by omega), cn_upd (by omega), cn_upd (by omega)]
    exact h4 g' hg'
  · rw [cn_upd (by omega)] at hs
    rw [cn_upd (by omega), cn_upd (by omega)]
    exact h5 s hs
  · rw [cn_upd (by omega)] at hs
    rw [cn_upd (by omega)]
    exact h6 s hs hs8
theorem Iv.put195 (h : Iv d) {g m : Nat} (hg : g < 16) (hm : m ≤ 9) (h0 : cn d 4 ≤ g ∨ m ≤ cn d (196 + 8 * g)) : Iv (upd d (195 + 8 * g) (nI m)) := by
  have l2 := h.le2
  have l3 := h.le3
  have l4 := h.le4
  have l5 := h.le5
  obtain ⟨h1, h2, h3, h4, h5, h6⟩ := h
  refine ⟨h1.put (fun b hb => ⟨m, by rw [bd_195 hg rfl] at hb; cases hb; exact hm, rfl⟩), fun l' hl' => ?_, fun t' ht' => ?_, fun g' hg' => ?_, fun s hs => ?_, fun s hs hs8 => ?_⟩
  · rw [cn_upd (by omega)] at hl'
    rw [cn_upd (by omega)]
    exact h2 l' hl'
  · rw [cn_upd (by omega)] at ht'
    rw [cn_upd (by omega), cn_upd (by omega)]
    exact h3 t' ht'
  · rw [cn_upd (by omega)] at hg'
    have q := h4 g' hg'
    rw [cn_upd (by omega), cn_upd (by omega)]
    refine ⟨q.1, ?_⟩
    by_cases e : g' = g
    · subst e
      rw [cn_self, nI_clamp (by omega), cn_upd (by omega)]
      omega
    · rw [cn_upd (by omega), cn_upd (by omega)]
      exact q.2
  · rw [cn_upd (by omega)] at hs
    rw [cn_upd (by omega), cn_upd (by omega)]
    exact h5 s hs
  · rw [cn_upd (by omega)] at hs
    rw [cn_upd (by omega)]
    exact h6 s hs hs8
theorem Iv.put196 (h : Iv d) {g m : Nat} (hg : g < 16) (hm : m ≤ 9) (h0 : cn d 4 ≤ g ∨ cn d (195 + 8 * g) ≤ m) : Iv (upd d (196 + 8 * g) (nI m)) := by
  have l2 := h.le2
  have l3 := h.le3
  have l4 := h.le4
  have l5 := h.le5
  obtain ⟨h1, h2, h3, h4, h5, h6⟩ := h
  refine ⟨h1.put (fun b hb => ⟨m, by rw [bd_196 hg rfl] at hb; cases hb; exact hm, rfl⟩), fun l' hl' => ?_, fun t' ht' => ?_, fun g' hg' => ?_, fun s hs => ?_, fun s hs hs8 => ?_⟩
  · rw [cn_upd (by omega)] at hl'
    rw [cn_upd (by omega)]
    exact h2 l' hl'
  · rw [cn_upd (by omega)] at ht'
    rw [cn_upd (by omega), cn_upd (by omega)]
    exact h3 t' ht'
  · rw [cn_upd (by omega)] at hg'
    have q := h4 g' hg'
    rw [cn_upd (by omega), cn_upd (by omega)]
    refine ⟨q.1, ?_⟩
    by_cases e : g' = g
    · subst e
      rw [cn_upd (by omega), cn_self, nI_clamp (by omega)]
      omega
    · rw [cn_upd (by omega), cn_upd (by omega)]
      exact q.2
  · rw [cn_upd (by omega)] at hs
    rw [cn_upd (by omega), cn_upd (by omega)]
    exact h5 s hs
  · rw [cn_upd (by omega)] at hs
    rw [cn_upd (by omega)]
    exact h6 s hs hs8
theorem Iv.putpq (h : Iv d) {g p q : Nat} (hg : g < 16) (hp : p ≤ q) (hq : q ≤ 9) : Iv (upd (upd d (195 + 8 * g) (nI p)) (196 + 8 * g) (nI q)) := by
  have l2 := h.le2
  have l3 := h.le3
  have l4 := h.le4
  have l5 := h.le5
  obtain ⟨h1, h2, h3, h4, h5, h6⟩ := h
  refine ⟨(h1.put (fun b hb => ⟨p, by rw [bd_195 hg rfl] at hb; cases hb; omega, rfl⟩)).put (fun b hb => ⟨q, by rw [bd_196 hg rfl] at hb; cases hb; exact hq, rfl⟩), fun l' hl' => ?_, fun t' ht' => ?_, fun g' hg' => ?_, fun s hs => ?_, fun s hs hs8 => ?_⟩
  · rw [cn_upd (by omega), cn_upd (by omega)] at hl'
    rw [cn_upd (by omega), cn_upd (by omega)]
    exact h2 l' hl'
  · rw [cn_upd (by omega), cn_upd (by omega)] at ht'
    simp (disch := omega) only [cn_upd]
    exact h3 t' ht'
  · rw [cn_upd (by omega), cn_upd (by omega)] at hg'
    have q2 := h4 g' hg'
    by_cases e : g' = g
    · subst e
      simp (disch := omega) only [cn_upd, cn_self]
      rw [nI_clamp (by omega), nI_clamp (by omega)]
      exact ⟨q2.1, hp⟩
    · simp (disch := omega) only [cn_upd]
      exact q2
  · rw [cn_upd (by omega), cn_upd (by omega)] at hs
    simp (disch := omega) only [cn_upd]
    exact h5 s hs
  · rw [cn_upd (by omega), cn_upd (by omega)] at hs
    rw [cn_upd (by omega), cn_upd (by omega)]
    exact h6 s hs hs8
theorem Iv.put320 (h : Iv d) {s m : Nat} (hs : s < 8) (hm : m ≤ 4095) (h0 : cn d 5 ≤ s) : Iv (upd d (320 + s) (nI m)) := by
  have l2 := h.le2
  have l3 := h.le3
  have l4 := h.le4
  have l5 := h.le5
  obtain ⟨h1, h2, h3, h4, h5, h6⟩ := h
  refine ⟨h1.put (fun b hb => ⟨m, by rw [bd_320 hs rfl] at hb; cases hb; exact hm, rfl⟩), fun l' hl' => ?_, fun t' ht' => ?_, fun g' hg' => ?_, fun s' hs' => ?_, fun s' hs' hs8 => ?_⟩
  · rw [cn_upd (by omega)] at hl'
    rw [cn_upd (by omega)]
    exact h2 l' hl'
  · rw [cn_upd (by omega)] at ht'
    rw [cn_upd (by omega), cn_upd (by omega)]
    exact h3 t' ht'
  · rw [cn_upd (by omega)] at hg'
    rw [cn_upd (by omega), cn_upd (by omega), cn_upd (by omega), cn_upd (by omega)]
    exact h4 g' hg'
  · rw [cn_upd (by omega)] at hs'
    rw [cn_upd (by omega), cn_upd (by omega)]
    exact h5 s' hs'
  · rw [cn_upd (by omega)] at hs'
    rw [cn_upd (by omega)]
    exact h6 s' hs' hs8
theorem Iv.inc2 (h : Iv d) {n : Nat} (hn0 : cn d 2 = n) (hn : n < 4) (h0 : 2 ≤ cn d (90 + 13 * n)) : Iv (upd d 2 (nI (1 + n))) := by
  subst hn0
  rw [Nat.add_comm 1]
  have l3 := h.le3
  have l4 := h.le4
  have l5 := h.le5
  obtain ⟨h1, h2, h3, h4, h5, h6⟩ := h
  refine ⟨h1.put (fun b hb => ⟨cn d 2 + 1, by cases hb; omega, rfl⟩), fun l' hl' => ?_, fun t' ht' => ?_, fun g' hg' => ?_, fun s' hs' => ?_, fun s' hs' hs8 => ?_⟩
  · rw [cn_self, nI_clamp (by omega)] at hl'
    rw [cn_upd (by omega)]
    rcases Nat.lt_or_ge l' (cn d 2) with e | e
    · exact h2 l' e
    · rw [show l' = cn d 2 by omega]
      exact h0
  · rw [cn_upd (by omega)] at ht'
    rw [cn_upd (by omega), cn_self, nI_clamp (by omega)]
    have := h3 t' ht'
    omega
  · rw [cn_upd (by omega)] at hg'
    rw [cn_upd (by omega), cn_upd (by omega), cn_upd (by omega), cn_upd (by omega)]
    exact h4 g' hg'
  · rw [cn_upd (by omega)] at hs'
    rw [cn_upd (by omega), cn_upd (by omega)]
    exact h5 s' hs'
  · rw [cn_upd (by omega)] at hs'
    rw [cn_upd (by omega)]
    exact h6 s' hs' hs8
theorem Iv.inc3 (h : Iv d) {n : Nat} (hn0 : cn d 3 = n) (hn : n < 12) (h0 : cn d (150 + 3 * n) < cn d 2) : Iv (upd d 3 (nI (1 + n))) := by
  subst hn0
  rw [Nat.add_comm 1]
  have l2 := h.le2
  have l4 := h.le4
  have l5 := h.le5
  obtain ⟨h1, h2, h3, h4, h5, h6⟩ := h
  refine ⟨h1.put (fun b hb => ⟨cn d 3 + 1, by cases hb; omega, rfl⟩), fun l' hl' => ?_, fun t' ht' => ?_, fun g' hg' => ?_, fun s' hs' => ?_, fun s' hs' hs8 => ?_⟩
  · rw [cn_upd (by omega)] at hl'
    rw [cn_upd (by omega)]
    exact h2 l' hl'
  · rw [cn_self, nI_clamp (by omega)] at ht'
    rw [cn_upd (by omega), cn_upd (by omega)]
    rcases Nat.lt_or_ge t' (cn d 3) with e | e
    · exact h3 t' e
    · rw [show t' = cn d 3 by omega]
      exact h0
  · rw [cn_upd (by omega)] at hg'
    rw [cn_upd (by omega), cn_self, nI_clamp (by omega), cn_upd (by omega), cn_upd (by omega)]
    have := h4 g' hg'
    omega
  · rw [cn_upd (by omega)] at hs'
    rw [cn_upd (by omega), cn_self, nI_clamp (by omega)]
    have := h5 s' hs'
    exact ⟨this.1, Nat.lt_of_lt_of_le this.2 (Nat.pow_le_pow_right (by omega) (by omega))⟩
  · rw [cn_upd (by omega)] at hs'
    rw [cn_upd (by omega)]
    exact h6 s' hs' hs8
theorem Iv.inc4 (h : Iv d) {n : Nat} (hn0 : cn d 4 = n) (hn : n < 16) (h0 : cn d (191 + 8 * n) < cn d 3 ∧ cn d (195 + 8 * n) ≤ cn d (196 + 8 * n)) : Iv (upd d 4 (nI (1 + n))) := by
  subst hn0
  rw [Nat.add_comm 1]
  have l2 := h.le2
  have l3 := h.le3
  have l5 := h.le5
  obtain ⟨h1, h2, h3, h4, h5, h6⟩ := h
  refine ⟨h1.put (fun b hb => ⟨cn d 4 + 1, by cases hb; omega, rfl⟩), fun l' hl' => ?_, fun t' ht' => ?_, fun g' hg' => ?_, fun s' hs' => ?_, fun s' hs' hs8 => ?_⟩
  · rw [cn_upd (by omega)] at hl'
    rw [cn_upd (by omega)]
    exact h2 l' hl'
  · rw [cn_upd (by omega)] at ht'
    rw [cn_upd (by omega), cn_upd (by omega)]
    exact h3 t' ht'
  · rw [cn_self, nI_clamp (by omega)] at hg'
    rw [cn_upd (by omega), cn_upd (by omega), cn_upd (by omega), cn_upd (by omega)]
    rcases Nat.lt_or_ge g' (cn d 4) with e | e
    · exact h4 g' e
    · rw [show g' = cn d 4 by omega]
      exact h0
  · rw [cn_upd (by omega)] at hs'
    rw [cn_upd (by omega), cn_upd (by omega)]
    exact h5 s' hs'
  · rw [cn_upd (by omega)] at hs'
    rw [cn_upd (by omega)]
    exact h6 s' hs' hs8
theorem Iv.inc5 (h : Iv d) {n : Nat} (hn0 : cn d 5 = n) (hn : n < 8) (h0 : 1 ≤ cn d (320 + n) ∧ cn d (320 + n) < 2 ^ cn d 3) : Iv (upd d 5 (nI (1 + n))) := by
  subst hn0
  rw [Nat.add_comm 1]
  have l2 := h.le2
  have l3 := h.le3
  have l4 := h.le4
  obtain ⟨h1, h2, h3, h4, h5, h6⟩ := h
  refine ⟨h1.put (fun b hb => ⟨cn d 5 + 1, by cases hb; omega, rfl⟩), fun l' hl' => ?_, fun t' ht' => ?_, fun g' hg' => ?_, fun s' hs' => ?_, fun s' hs' hs8 => ?_⟩
  · rw [cn_upd (by omega)] at hl'
    rw [cn_upd (by omega)]
    exact h2 l' hl'
  · rw [cn_upd (by omega)] at ht'
    rw [cn_upd (by omega), cn_upd (by omega)]
    exact h3 t' ht'
  · rw [cn_upd (by omega)] at hg'
    rw [cn_upd (by omega), cn_upd (by omega), cn_upd (by omega), cn_upd (by omega)]
    exact h4 g' hg'
  · rw [cn_self, nI_clamp (by omega)] at hs'
    rw [cn_upd (by omega), cn_upd (by omega)]
    rcases Nat.lt_or_ge s' (cn d 5) with e | e
    · exact h5 s' e
    · rw [show s' = cn d 5 by omega]
      exact h0
  · rw [cn_self, nI_clamp (by omega)] at hs'
    rw [cn_upd (by omega)]
    exact h6 s' (by omega) hs8
theorem Iv.put330 (h : Iv d) {s m : Nat} (hs : s < 8) (hm : m ≤ 9) (h0 : s < cn d 5 ∨ m = 0) : Iv (upd d (330 + s) (nI m)) := by
  have l2 := h.le2
  have l3 := h.le3
  have l4 := h.le4
  have l5 := h.le5
  obtain ⟨h1, h2, h3, h4, h5, h6⟩ := h
  refine ⟨h1.put (fun b hb => ⟨m, by rw [bd_330 hs rfl] at hb; cases hb; exact hm, rfl⟩), fun l' hl' => ?_, fun t' ht' => ?_, fun g' hg' => ?_, fun s' hs' => ?_, fun s' hs' hs8 => ?_⟩
  · rw [cn_upd (by omega)] at hl'
    rw [cn_upd (by omega)]
    exact h2 l' hl'
  · rw [cn_upd (by omega)] at ht'
    rw [cn_upd (by omega), cn_upd (by omega)]
    exact h3 t' ht'
  · rw [cn_upd (by omega)] at hg'
    rw [cn_upd (by omega), cn_upd (by omega), cn_upd (by omega), cn_upd (by omega)]
    exact h4 g' hg'
  · rw [cn_upd (by omega)] at hs'
    rw [cn_upd (by omega), cn_upd (by omega)]
    exact h5 s' hs'
  · rw [cn_upd (by omega)] at hs'
    by_cases e : s' = s
    · subst e
      rw [cn_self, nI_clamp (by omega)]
      omega
    · rw [cn_upd (by omega)]
      exact h6 s' hs' hs8
end IVP
theorem nlt_lt {x : Int32} {a n : Nat} (h : x = nI a) (hl : x < nI n) (ha : a < 2147483648) : a < n := by
  subst h
  rcases Nat.lt_or_ge a n with h1 | h1
  · exact h1
  · exact absurd hl (nI_nlt h1 (by omega))
theorem op_seed {v : Int32} (hJ : J α μ)  : Op (rf_T Ln xs) MX11_seed MX12_seed [some (.ref 0), some (.int v), none] [some (.ref 94), some (.int v), none] α μ := by
  have hR := hJ.1.1.1
  have hI := hJ.2
  have b0 := hI.le0
  have b1 := hI.le1
  have b2 := hI.le2
  have b3 := hI.le3
  have b4 := hI.le4
  have b5 := hI.le5
  have b6 := hI.le6
  have b8 := hI.le8
  have b9 := hI.le9
  have b11 := hI.le11
  have b12 := hI.le12
  refine ok_step (ps := []) (L' := [some (.ref 0), some (.int v), some (.int (α 22 2))]) (st' := [.int (α 22 2)]) (σ' := (rf_w α 22 2 v, μ)) (pc' := 23) kX11_seed_0 rfl rfl rf_a0 ?_
  try rw [(show α 22 2 = μ 95 10 from hR 21 2 10 rfl)]
  refine ok_reti eX11_seed_23 rfl ?_
  refine ⟨rfl, _, rfl, ?_⟩
  refine ok_step (ps := [rf_in (nI 10) 700, rf_in (nI 10) 700]) (L' := [some (.ref 94), some (.int v), some (.int (μ 95 ((nI 10).toNatClampNeg)))]) (st' := [.int (μ 95 ((nI 10).toNatClampNeg))]) (σ' := (rf_w α 22 2 v, rf_w μ 95 ((nI 10).toNatClampNeg) v)) (pc' := 17) kX12_seed_0 rfl rfl (rf_a1 (rf_in_n (a := 10) rfl (by omega)) (rf_a1 (rf_in_n (a := 10) rfl (by omega)) rf_a0)) ?_
  try rw [(show (nI 10).toNatClampNeg = 10 from rf_cl_n rfl (by omega))]
  refine ok_reti eX12_seed_17 rfl ?_
  refine ⟨rfl, _, rfl, hJ.1.put (c := 21) (i := 2) rfl v, ?_⟩
  rw [rf_w_self]
  exact hI.put (fun b hb => by cases hb) (by unfold nst; omega)
theorem op_station (hJ : J α μ)  : Op (rf_T Ln xs) MX11_station MX12_station [some (.ref 0)] [some (.ref 94)] α μ := by
  have hR := hJ.1.1.1
  have hI := hJ.2
  have b0 := hI.le0
  have b1 := hI.le1
  have b2 := hI.le2
  have b3 := hI.le3
  have b4 := hI.le4
  have b5 := hI.le5
  have b6 := hI.le6
  have b8 := hI.le8
  have b9 := hI.le9
  have b11 := hI.le11
  have b12 := hI.le12
  refine ok_step (ps := []) (L' := [some (.ref 0)]) (st' := [.int (nI 8), .int (α 2 0)]) (σ' := (α, μ)) (pc' := 12) kX11_station_0 rfl rfl rf_a0 ?_
  try rw [(show α 2 0 = μ 95 1 from hR 1 0 1 rfl)]
  refine ok_icmp_lt bX11_station_12 (fun h12 => ?_) (fun h12 => ?_)
  · refine ok_step (ps := []) (L' := [some (.ref 0)]) (st' := [.ref 2]) (σ' := (α, μ)) (pc' := 29) kX11_station_22 rfl rfl rf_a0 ?_
    refine ok_V (As := []) (b := 2) (st := []) mkX4_addStation qX11_station_29 rfl (rc_2) rfl rfl rfl rfl (Nat.le_of_ble_eq_true rfl) (c_addStation hR hI) ?_
    refine ok_reti eX11_station_32 rfl ?_
    refine ⟨rfl, _, rfl, ?_⟩
    refine ok_step (ps := [rf_in (nI 1) 700]) (L' := [some (.ref 94)]) (st' := [.int (nI 8), .int (μ 95 ((nI 1).toNatClampNeg))]) (σ' := (rf_w α 2 0 (nI (1 + cn (μ 95) 1)), μ)) (pc' := 8) kX12_station_0 rfl rfl (rf_a1 (rf_in_n (a := 1) rfl (by omega)) rf_a0) ?_
    try rw [(show (nI 1).toNatClampNeg = 1 from rf_cl_n rfl (by omega))]
    refine ok_icmp_ne bX12_station_8 (fun _ => ?_) (fun g8 => absurd g8 ((lt_ne h12)))
    refine ok_step (ps := [rf_in (nI 1) 700, rf_in (nI 1) 700, rf_in (nI 1) 700]) (L' := [some (.ref 94)]) (st' := [.int (((rf_w μ 95 ((nI 1).toNatClampNeg) ((μ 95 ((nI 1).toNatClampNeg)) + (nI 1))) 95 ((nI 1).toNatClampNeg)) - (nI 1))]) (σ' := (rf_w α 2 0 (nI (1 + cn (μ 95) 1)), rf_w μ 95 ((nI 1).toNatClampNeg) ((μ 95 ((nI 1).toNatClampNeg)) + (nI 1)))) (pc' := 35) kX12_station_17 rfl rfl (rf_a1 (rf_in_n (a := 1) rfl (by omega)) (rf_a1 (rf_in_n (a := 1) rfl (by omega)) (rf_a1 (rf_in_n (a := 1) rfl (by omega)) rf_a0))) ?_
    try rw [(show (nI 1).toNatClampNeg = 1 from rf_cl_n rfl (by omega))]
    try rw [(show ((μ 95 1) + (nI 1)) = nI (1 + cn (μ 95) 1) from rf_eq (rf_nadd (x := μ 95 1) (y := nI 1) (hI.at1) rfl) (by omega))]
    try rw [(show (nI 1).toNatClampNeg = 1 from rf_cl_n rfl (by omega))]
    try rw [(show (rf_w μ 95 1 (nI (1 + cn (μ 95) 1))) 95 1 = (nI (1 + cn (μ 95) 1)) from by rw [rf_w_at, if_pos ⟨rfl, rfl⟩])]
    refine ok_reti eX12_station_35 rfl ?_
    refine ⟨rfl, _, rfl, hJ.1.put (c := 1) (i := 0) rfl _, ?_⟩
    rw [rf_w_self]
    have l := nlt_lt hI.at1 h12 (by omega)
    exact hI.put (fun b hb => ⟨1 + cn (μ 95) 1, by cases hb; omega, rfl⟩) (by unfold nst; omega)
  · refine ok_step (ps := []) (L' := [some (.ref 0)]) (st' := [.int (-1000000004), .ref 0]) (σ' := (α, μ)) (pc' := 18) kX11_station_15 rfl rfl rf_a0 ?_
    refine ok_V (As := [.int (-1000000004)]) (b := 0) (st := []) mkX11_error qX11_station_18 rfl (rc_0) rfl rfl rfl rfl (Nat.le_of_ble_eq_true rfl) (c_error (k := 4) (by decide) (by decide) (by decide)) ?_
    refine ok_reti eX11_station_21 rfl ?_
    refine ⟨rfl, _, rfl, ?_⟩
    refine ok_step (ps := [rf_in (nI 1) 700]) (L' := [some (.ref 94)]) (st' := [.int (nI 8), .int (μ 95 ((nI 1).toNatClampNeg))]) (σ' := (rf_w α 93 4 (α 93 4 + nI 1), μ)) (pc' := 8) kX12_station_0 rfl rfl (rf_a1 (rf_in_n (a := 1) rfl (by omega)) rf_a0) ?_
    try rw [(show (nI 1).toNatClampNeg = 1 from rf_cl_n rfl (by omega))]
    refine ok_icmp_ne bX12_station_8 (fun g8 => absurd ((full_eq (hI.at1) (by omega) h12)) g8) (fun _ => ?_)
    refine ok_step (ps := []) (L' := [some (.ref 94)]) (st' := [.int (nI 4), .ref 94]) (σ' := (rf_w α 93 4 (α 93 4 + nI 1), μ)) (pc' := 13) kX12_station_11 rfl rfl rf_a0 ?_
    refine ok_V (As := [.int (nI 4)]) (b := 94) (st := []) mkX12_finds qX12_station_13 rfl (rc_94) rfl rfl rfl rfl (Nat.le_of_ble_eq_true rfl) (m_finds (k := 4) (by decide)) ?_
    refine ok_reti eX12_station_16 rfl ?_
    exact ⟨rfl, _, rfl, hJ.err (k := 4) (by decide)⟩
end H26
