/-! ===== all rows of LOTS with as many, those of the least first ===== -/
def rowsL : Nat → Nat → Nat → (Nat → Nat) → List (Nat → Nat)
  | 0, k, left, f => [updN f k left]
  | m + 1, k, left, f => (List.range (left + 1)).flatMap fun v => rowsL m (k + 1) (left - v) (updN f k v)
/-- r' is behind r -/
def Nx (M : Nat) (r r' : Nat → Nat) : Prop := ∃ p, 1 ≤ p ∧ p < M ∧ 1 ≤ r p ∧ (∀ x, p < x → x < M → r x = 0) ∧ r' = updN (updN (updN r p 0) (p - 1) (r (p - 1) + 1)) (M - 1) (r p - 1)
def Sg (M : Nat) : (Nat → Nat) → List (Nat → Nat) → (Nat → Nat) → Prop
  | r, [], s => r = s
  | r, r' :: l, s => Nx M r r' ∧ Sg M r' l s
theorem Sg.app {M : Nat} : ∀ {l : List (Nat → Nat)} {r s r2 s2 : Nat → Nat} {l2 : List (Nat → Nat)}, Sg M r l s → Nx M s r2 → Sg M r2 l2 s2 → Sg M r (l ++ r2 :: l2) s2
  | [], _, _, _, _, _, h, h1, h2 => by
    cases h
    exact ⟨h1, h2⟩
  | _ :: _, _, _, _, _, _, h, h1, h2 => ⟨h.1, Sg.app h.2 h1 h2⟩
def frR (M k left : Nat) (f : Nat → Nat) : Nat → Nat := fun x => if k ≤ x ∧ x < M then (if x = M - 1 then left else 0) else f x
def laR (M k left : Nat) (f : Nat → Nat) : Nat → Nat := fun x => if k ≤ x ∧ x < M then (if x = k then left else 0) else f x
theorem rows_sg (M : Nat) : ∀ (m k left : Nat) (f : Nat → Nat), k + m + 1 = M → ∃ l, rowsL m k left f = frR M k left f :: l ∧ Sg M (frR M k left f) l (laR M k left f)
  | 0, k, left, f, h => ⟨[], by
      rw [rowsL]
      congr 1
      funext x
      unfold updN frR
      repeat' split
      all_goals first | rfl | omega, by
      show frR M k left f = laR M k left f
      funext x
      unfold frR laR
      repeat' split
      all_goals first | rfl | omega⟩
  | m + 1, k, left, f, h => by
    have key : ∀ j, j ≤ left → ∃ l, (List.range (j + 1)).flatMap (fun v => rowsL m (k + 1) (left - v) (updN f k v)) = frR M k left f :: l ∧ Sg M (frR M k left f) l (laR M (k + 1) (left - j) (updN f k j)) := by
      intro j
      induction j with
      | zero =>
        intro _
        obtain ⟨l, h1, h2⟩ := rows_sg M m (k + 1) (left - 0) (updN f k 0) (by omega)
        have e : frR M (k + 1) (left - 0) (updN f k 0) = frR M k left f := by
          funext x
          unfold frR updN
          repeat' split
          all_goals first | rfl | omega
        refine ⟨l, ?_, ?_⟩
        · simp only [List.range_succ, List.range_zero, List.nil_append, List.flatMap_cons, List.flatMap_nil, List.append_nil]
          rw [h1, e]
        · rw [← e]
          exact h2
      | succ j ih =>
        intro hj
        obtain ⟨l, h1, h2⟩ := ih (by omega)
        obtain ⟨l', h3, h4⟩ := rows_sg M m (k + 1) (left - (j + 1)) (updN f k (j + 1)) (by omega)
        refine ⟨l ++ frR M (k + 1) (left - (j + 1)) (updN f k (j + 1)) :: l', ?_, h2.app ?_ h4⟩
        · rw [List.range_succ, List.flatMap_append, h1]
          simp only [List.flatMap_cons, List.flatMap_nil, List.append_nil, List.cons_append]
          rw [h3]
        · refine ⟨k + 1, by omega, by omega, ?_, ?_, ?_⟩
          · unfold laR updN
            repeat' split
            all_goals omega
          · intro x h5 h6
            unfold laR updN
            repeat' split
            all_goals omega
          · funext x
            unfold frR laR updN
            dsimp only
            repeat' split
            all_goals first | rfl | omega
    obtain ⟨l, h1, h2⟩ := key left (Nat.le_refl _)
    refine ⟨l, by rw [rowsL]; exact h1, ?_⟩
    have e : laR M (k + 1) (left - left) (updN f k left) = laR M k left f := by
      funext x
      unfold laR updN
      repeat' split
      all_goals first | rfl | omega
    rw [← e]
    exact h2
theorem rows_congr : ∀ (m k left : Nat) (f g : Nat → Nat), (∀ x, x < k ∨ k + m < x → f x = g x) → rowsL m k left f = rowsL m k left g
  | 0, k, left, f, g, h => by
    rw [rowsL, rowsL]
    congr 1
    funext x
    unfold updN
    split
    · rfl
    · exact h x (by omega)
  | m + 1, k, left, f, g, h => by
    rw [rowsL, rowsL]
    congr 1
    funext v
    apply rows_congr
    intro x hx
    unfold updN
    split
    · rfl
    · exact h x (by omega)
/-- what each of them is like -/
theorem rows_in : ∀ (m k left : Nat) (f q : Nat → Nat), q ∈ rowsL m k left f → (∀ x, x < k ∨ k + m < x → q x = f x) ∧ sumN q (k + m + 1) = sumN f k + left
  | 0, k, left, f, q, h => by
    rw [rowsL, List.mem_singleton] at h
    subst h
    have e : ∀ n, n ≤ k → sumN (updN f k left) n = sumN f n := by
      intro n
      induction n with
      | zero => intro _; rfl
      | succ n ih =>
        intro hn
        rw [sumN, sumN, ih (by omega)]
        unfold updN
        rw [if_neg (by omega)]
    refine ⟨fun x hx => ?_, ?_⟩
    · unfold updN
      rw [if_neg (by omega)]
    · rw [Nat.add_zero, sumN, e k (Nat.le_refl _)]
      unfold updN
      rw [if_pos rfl]
  | m + 1, k, left, f, q, h => by
    rw [rowsL, List.mem_flatMap] at h
    obtain ⟨v, hv, h⟩ := h
    rw [List.mem_range] at hv
    obtain ⟨h1, h2⟩ := rows_in m (k + 1) (left - v) (updN f k v) q h
    have e : ∀ n, n ≤ k → sumN (updN f k v) n = sumN f n := by
      intro n
      induction n with
      | zero => intro _; rfl
      | succ n ih =>
        intro hn
        rw [sumN, sumN, ih (by omega)]
        unfold updN
        rw [if_neg (by omega)]
    refine ⟨fun x hx => ?_, ?_⟩
    · rw [h1 x (by omega)]
      unfold updN
      rw [if_neg (by omega)]
    · rw [show k + (m + 1) + 1 = k + 1 + m + 1 by omega, h2, sumN, e k (Nat.le_refl _)]
      unfold updN
      rw [if_pos rfl]
      omega
/-- a row of n LOTS for M SHIFTS -/
def Gd (M n : Nat) (q : Nat → Nat) : Prop := sumN q M = n ∧ ∀ x, M ≤ x → q x = 0
theorem sumN_at {f : Nat → Nat} {i : Nat} : ∀ {n : Nat}, i < n → f i ≤ sumN f n
  | 0, h => absurd h (by omega)
  | n + 1, h => by
    rw [sumN]
    by_cases e : i = n
    · subst e; omega
    · have := sumN_at (f := f) (i := i) (n := n) (by omega); omega
theorem Gd.le {M n : Nat} {q : Nat → Nat} (h : Gd M n q) (x : Nat) : q x ≤ n := by
  by_cases e : x < M
  · have := sumN_at (f := q) e
    rw [h.1] at this
    exact this
  · rw [h.2 x (by omega)]; omega
theorem rows_gd {M n : Nat} (hM : 1 ≤ M) {q : Nat → Nat} (h : q ∈ rowsL (M - 1) 0 n (fun _ => 0)) : Gd M n q := by
  obtain ⟨h1, h2⟩ := rows_in (M - 1) 0 n (fun _ => 0) q h
  refine ⟨?_, fun x hx => h1 x (by omega)⟩
  rw [show 0 + (M - 1) + 1 = M by omega] at h2
  rw [h2, sumN, Nat.zero_add]
/-- the better of two rows -/
def bet (U V : (Nat → Nat) → Nat) (r q : Nat → Nat) : Bool := decide (U q < U r ∨ (U q = U r ∧ V r < V q))
def bstep (U V : (Nat → Nat) → Nat) (b : Option (Nat → Nat)) (q : Nat → Nat) : Option (Nat → Nat) := match b with
  | none => some q
  | some r => if bet U V r q = true then some q else some r
/-- LOTS with a TRAIN by a row -/
def wq (d : Nat → Int32) (q : Nat → Nat) (t : Nat) : Nat := sumN (fun s => if hb (d (320 + s)) (nI t) = true then q s else 0) (cn d 5)
theorem wq_le {d : Nat → Int32} {q : Nat → Nat} {n t : Nat} (h : Gd (cn d 5) n q) : wq d q t ≤ n := by
  rw [← h.1]
  exact sumN_mono (fun s _ => by by_cases h : hb (d (320 + s)) (nI t) = true <;> simp [h])
/-- those of a GROUP who don't pay where their TRAIN has p of n LOTS -/
def aU (d : Nat → Int32) (n g p : Nat) : Nat := if s_pays d g (d 9) (nI p) (nI n) = true then 0 else cn d (194 + 8 * g)
def fU (d : Nat → Int32) (n : Nat) (q : Nat → Nat) (g : Nat) : Nat := aU d n g (wq d q (cn d (191 + 8 * g)))
def fV (d : Nat → Int32) (n : Nat) (q : Nat → Nat) (g : Nat) : Nat := fU d n q g * wq d q (cn d (191 + 8 * g))
def sU (d : Nat → Int32) (n : Nat) (q : Nat → Nat) : Nat := sumN (fU d n q) (cn d 4)
def sV (d : Nat → Int32) (n : Nat) (q : Nat → Nat) : Nat := sumN (fV d n q) (cn d 4) * cn d 9
theorem aU_le {d : Nat → Int32} {n g p : Nat} (hI : Iv d) (hg : g < 16) : aU d n g p ≤ 999 := by
  have := (m194 hI hg).1
  unfold aU
  split <;> omega
theorem sU_le {d : Nat → Int32} {n : Nat} {q : Nat → Nat} (hI : Iv d) : sU d n q ≤ 15984 := by
  have b4 := hI.le4
  exact s16 (fun i hi => aU_le hI (by omega)) b4
theorem sV_le {d : Nat → Int32} {n : Nat} {q : Nat → Nat} (hI : Iv d) (hq : Gd (cn d 5) n q) (hn : n ≤ 5) : sV d n q ≤ 2 ^ 40 := by
  have b4 := hI.le4
  have b9 := hI.le9
  have h := sumN_le (f := fV d n q) (b := 999 * 5) (n := cn d 4) (fun i hi => Nat.mul_le_mul (aU_le hI (by omega)) (Nat.le_trans (wq_le hq) hn))
  have h2 := Nat.mul_le_mul (Nat.le_trans h (Nat.mul_le_mul_right _ b4)) b9
  unfold sV
  omega
/-! the exchange of sums -/
theorem sumN_z {n : Nat} : sumN (fun _ => 0) n = 0 := by
  induction n with
  | zero => rfl
  | succ n ih => rw [sumN, ih]
theorem sumN_one {n t v : Nat} : ∀ {n : Nat}, t < n → sumN (fun x => if t = x then v else 0) n = v
  | 0, h => absurd h (by omega)
  | n + 1, h => by
    rw [sumN]
    by_cases e : t = n
    · subst e
      rw [if_pos rfl, sumN_congr (g := fun _ => 0) (fun i hi => if_neg (by omega)), sumN_z, Nat.zero_add]
    · rw [if_neg e, sumN_one (n := n) (by omega), Nat.add_zero]
theorem sum_ex {T : Nat} {tr : Nat → Nat} {a : Nat → Nat → Nat} : ∀ {G : Nat}, (∀ g, g < G → tr g < T) → sumN (fun t => sumN (fun g => if tr g = t then a g t else 0) G) T = sumN (fun g => a g (tr g)) G
  | 0, _ => sumN_z
  | G + 1, h => by
    rw [sumN_add (f := fun t => sumN (fun g => if tr g = t then a g t else 0) (G + 1)) (g := fun t => sumN (fun g => if tr g = t then a g t else 0) G) (h := fun t => if tr G = t then a G t else 0) (fun t _ => rfl), sum_ex (fun g hg => h g (by omega)), sumN]
    congr 1
    rw [sumN_congr (g := fun t => if tr G = t then a G (tr G) else 0) (fun t _ => by
      by_cases e : tr G = t
      · rw [if_pos e, if_pos e, e]
      · rw [if_neg e, if_neg e])]
    exact sumN_one (n := T) (h G (by omega))
/-! the model's row while it looks -/
def dq (d : Nat → Int32) (M : Nat) (q : Nat → Nat) : Nat → Int32 := fun j => if 330 ≤ j ∧ j < 330 + M then nI (q (j - 330)) else d j
section S65
variable {d : Nat → Int32} {q : Nat → Nat} {n g : Nat}
theorem dq_o {M j : Nat} (h : ¬ (330 ≤ j ∧ j < 330 + M)) : dq d M q j = d j := if_neg h
theorem dq_i {M s : Nat} (h : s < M) : dq d M q (330 + s) = nI (q s) := by
  unfold dq
  rw [if_pos (by omega), show 330 + s - 330 = s by omega]
theorem dq_cn {M j : Nat} (h : ¬ (330 ≤ j ∧ j < 330 + M)) : cn (dq d M q) j = cn d j := by unfold cn; rw [dq_o h]
theorem dq_ci {M s : Nat} (h : s < M) (hq : q s < 2 ^ 31) : cn (dq d M q) (330 + s) = q s := by unfold cn; rw [dq_i h, nI_clamp hq]
theorem dq_Iv (hI : Iv d) (hq : ∀ x, q x ≤ 9) : Iv (dq d (cn d 5) q) := by
  have b5 := hI.le5
  obtain ⟨h1, h2, h3, h4, h5, h6⟩ := hI
  have b3 := Iv.le3 ⟨h1, h2, h3, h4, h5, h6⟩
  have b2 := Iv.le2 ⟨h1, h2, h3, h4, h5, h6⟩
  have b4 := Iv.le4 ⟨h1, h2, h3, h4, h5, h6⟩
  refine ⟨fun k b hk => ?_, fun l hl => ?_, fun t ht => ?_, fun g hg => ?_, fun s hs => ?_, fun s hs hs2 => ?_⟩
  · by_cases e : 330 ≤ k ∧ k < 330 + cn d 5
    · rw [bd_330 (i := k - 330) (by omega) (by omega)] at hk
      cases hk
      exact ⟨q (k - 330), hq _, if_pos e⟩
    · rw [dq_o e]
      exact h1 k b hk
  · rw [dq_cn (by omega)] at hl
    rw [dq_cn (by omega)]
    exact h2 l hl
  · rw [dq_cn (by omega)] at ht
    rw [dq_cn (by omega), dq_cn (by omega)]
    exact h3 t ht
  · rw [dq_cn (by omega)] at hg
    rw [dq_cn (by omega), dq_cn (by omega), dq_cn (by omega), dq_cn (by omega)]
    exact h4 g hg
  · rw [dq_cn (by omega)] at hs
    rw [dq_cn (by omega), dq_cn (by omega)]
    exact h5 s hs
  · rw [dq_cn (by omega)] at hs
    rw [dq_cn (by omega)]
    exact h6 s hs hs2
theorem pays_dq {fine p a : Int32} (hM : cn d 5 ≤ 8) (hg : g < 16) (hT : cn d (191 + 8 * g) < 12) : s_pays (dq d (cn d 5) q) g fine p a = s_pays d g fine p a := by
  have e : ∀ k, ¬ (330 ≤ k ∧ k < 338) → dq d (cn d 5) q k = d k := fun k hk => dq_o (by omega)
  have c : ∀ k, ¬ (330 ≤ k ∧ k < 338) → cn (dq d (cn d 5) q) k = cn d k := fun k hk => by unfold cn; rw [e k hk]
  generalize dq d (cn d 5) q = f at e c
  have h3 : s_go f g = s_go d g := by
    unfold s_go
    rw [e _ (by omega), e _ (by omega)]
  have h4 : s_fare f g = s_fare d g := by
    unfold s_fare
    rw [h3, e _ (by omega), e 8 (by decide)]
  have h5 : ∀ nm, gv 0 f nm = gv 0 d nm := fun nm => by
    unfold gv
    rw [e _ (by omega), c _ (by omega), show (fun i => f (530 + 50 * 0 + i)) = fun i => d (530 + 50 * 0 + i) from funext fun i => e _ (by omega)]
  have h6 : ∀ a b x, s_wei f g a b x = s_wei d g a b x := fun a b x => by
    unfold s_wei
    rw [h5, h4, h3]
  unfold s_pays
  rw [c (190 + 8 * g) (by omega), c (191 + 8 * g) (by omega), c 0 (by decide), e (195 + 8 * g) (by omega), e (196 + 8 * g) (by omega), e (197 + 8 * g) (by omega), e 0 (by decide), e (151 + 3 * cn d (191 + 8 * g)) (by omega)]
  simp only [h6]
theorem nA_dq (hM : cn d 5 ≤ 8) (hq : Gd (cn d 5) n q) (hn : n ≤ 5) : nA (dq d (cn d 5) q) = n := by
  unfold nA
  rw [dq_cn (by omega)]
  rw [sumN_congr (g := q) (fun s hs => dq_ci hs (by have := hq.le s; omega))]
  exact hq.1
theorem nW_dq {t : Nat} (hM : cn d 5 ≤ 8) (hq : Gd (cn d 5) n q) (hn : n ≤ 5) : nW (dq d (cn d 5) q) t = wq d q t := by
  unfold nW wq
  rw [dq_cn (by omega)]
  refine sumN_congr (fun s hs => ?_)
  rw [dq_ci hs (by have := hq.le s; omega), dq_o (by omega)]
theorem tr_lt (hI : Iv d) (hg : g < cn d 4) : cn d (191 + 8 * g) < cn d 3 := (hI.2.2.2.1 g hg).1
theorem now_dq (hI : Iv d) (hq : Gd (cn d 5) n q) (hn : n ≤ 5) (hn1 : 1 ≤ n) (hg : g < cn d 4) : s_pays (dq d (cn d 5) q) g (d 9) (s_with (dq d (cn d 5) q) (dq d (cn d 5) q (191 + 8 * g))) (rf_max (s_all (dq d (cn d 5) q)) (nI 1)) = s_pays d g (d 9) (nI (wq d q (cn d (191 + 8 * g)))) (nI n) := by
  have b5 := hI.le5
  have b4 := hI.le4
  have b3 := hI.le3
  have hT := tr_lt hI hg
  have hI2 := dq_Iv hI (fun x => Nat.le_trans (hq.le x) (by omega))
  rw [pays_dq b5 (by omega) (by omega), below_n hI2, dq_o (by omega), hI.atb (b := 11) (bd_191 (i := g) (by omega) rfl) (by decide), with_n hI2, nW_dq b5 hq hn]
  unfold nB
  rw [nA_dq b5 hq hn, if_neg (by omega)]
theorem ub_dq (hI : Iv d) (hq : Gd (cn d 5) n q) (hn : n ≤ 5) (hn1 : 1 ≤ n) : sumI (f_unp (dq d (cn d 5) q) (d 9)) (cn (dq d (cn d 5) q) 4) = nI (sU d n q) := by
  have b5 := hI.le5
  have b4 := hI.le4
  rw [unp_n (dq_Iv hI (fun x => Nat.le_trans (hq.le x) (by omega))), dq_cn (by omega)]
  congr 1
  refine sumN_congr (fun g hg => ?_)
  unfold fu fU aU
  rw [now_dq hI hq hn hn1 hg, dq_cn (by omega)]
/-- COIN by a row: FARES of all but those who don't pay, and their FINES -/
theorem coin_dq (hI : Iv d) (hq : Gd (cn d 5) n q) (hn : n ≤ 5) (hn1 : 1 ≤ n) : sumN (fC (dq d (cn d 5) q)) (cn (dq d (cn d 5) q) 4) + cn d 8 * n * sU d n q = cn d 8 * n * sumN (fun g => cn d (194 + 8 * g)) (cn d 4) + sV d n q := by
  have b5 := hI.le5
  have b4 := hI.le4
  rw [dq_cn (by omega)]
  have key : ∀ G, G ≤ cn d 4 → sumN (fC (dq d (cn d 5) q)) G + cn d 8 * n * sumN (fU d n q) G = cn d 8 * n * sumN (fun g => cn d (194 + 8 * g)) G + sumN (fV d n q) G * cn d 9 := by
    intro G
    induction G with
    | zero => intro _; simp [sumN]
    | succ G ih =>
      intro hG
      have ih := ih (by omega)
      have h1 : fC (dq d (cn d 5) q) G + cn d 8 * n * fU d n q G = cn d 8 * n * cn d (194 + 8 * G) + fV d n q G * cn d 9 := by
        have e9 : dq d (cn d 5) q 9 = d 9 := dq_o (by omega)
        unfold fC s_now fV fU aU nB
        rw [e9, now_dq hI hq hn hn1 (by omega), nA_dq b5 hq hn, if_neg (by omega : ¬ n = 0), dq_cn (by omega), dq_cn (by omega), dq_cn (by omega), dq_cn (by omega), nW_dq b5 hq hn]
        split
        · simp
        · rw [Nat.mul_comm (cn d 9) (wq _ _ _), Nat.mul_assoc, Nat.mul_comm (cn d 9), ← Nat.mul_assoc, Nat.mul_comm (wq _ _ _) (cn d (194 + 8 * G)), Nat.add_comm]
      rw [sumN, sumN, sumN, sumN, Nat.mul_add, Nat.mul_add, Nat.add_mul]
      omega
  exact key _ (Nat.le_refl _)
theorem coin_lt {r : Nat → Nat} (hI : Iv d) (hq : Gd (cn d 5) n q) (hr : Gd (cn d 5) n r) (hn : n ≤ 5) (hn1 : 1 ≤ n) (e : sU d n q = sU d n r) : sumN (fC (dq d (cn d 5) r)) (cn (dq d (cn d 5) r) 4) < sumN (fC (dq d (cn d 5) q)) (cn (dq d (cn d 5) q) 4) ↔ sV d n r < sV d n q := by
  have h1 := coin_dq hI hq hn hn1
  have h2 := coin_dq hI hr hn hn1
  rw [e] at h1
  omega
end S65
