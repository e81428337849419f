def nm5 (a b c e f : Int32) : Nat → Int32 := fun i => match i with | 0 => a | 1 => b | 2 => c | 3 => e | 4 => f | _ => 0
theorem wr5 {α : Nat → Nat → Int32} {k : Nat} {a b c e f : Int32} : ∀ i, i < 5 → rf_w (rf_w (rf_w (rf_w (rf_w α k 0 a) k 1 b) k 2 c) k 3 e) k 4 f k i = nm5 a b c e f i := by
  intro i hi
  have h : i = 0 ∨ i = 1 ∨ i = 2 ∨ i = 3 ∨ i = 4 := by omega
  rcases h with rfl | rfl | rfl | rfl | rfl <;> simp [rf_w_at, nm5]
theorem wr5_o {α : Nat → Nat → Int32} {k k' : Nat} {a b c e f : Int32} (h : k' ≠ k) : rf_w (rf_w (rf_w (rf_w (rf_w α k 0 a) k 1 b) k 2 c) k 3 e) k 4 f k' = α k' := by
  rw [rf_w_row h, rf_w_row h, rf_w_row h, rf_w_row h, rf_w_row h]
/-- the class's scratch cells -/
def sA (α β : Nat → Nat → Int32) : Prop := ∀ k, k ≠ 31 → k ≠ 34 → k ≠ 35 → β k = α k
/-- the model's -/
def sB (μ ν : Nat → Nat → Int32) : Prop := (∀ k, k ≠ 94 → k ≠ 98 → ν k = μ k) ∧ ∀ i, i < 4 ∨ 10 ≤ i → ν 94 i = μ 94 i
theorem sA.rfl (α : Nat → Nat → Int32) : sA α α := fun _ _ _ _ => Eq.refl _
theorem sB.rfl (μ : Nat → Nat → Int32) : sB μ μ := ⟨fun _ _ _ => Eq.refl _, fun _ _ => Eq.refl _⟩
theorem sA.tr {α β γ : Nat → Nat → Int32} (h : sA α β) (g : sA β γ) : sA α γ := fun k h1 h2 h3 => (g k h1 h2 h3).trans (h k h1 h2 h3)
theorem sB.tr {μ ν ρ : Nat → Nat → Int32} (h : sB μ ν) (g : sB ν ρ) : sB μ ρ := ⟨fun k h1 h2 => (g.1 k h1 h2).trans (h.1 k h1 h2), fun i hi => (g.2 i hi).trans (h.2 i hi)⟩
theorem J.sA {α β μ : Nat → Nat → Int32} (h : J α μ) (g : sA α β) : J β μ := h.same (fun k i hk => by rw [g k (by unfold jA at hk; omega) (by unfold jA at hk; omega) (by unfold jA at hk; omega)]) (fun _ _ _ => rfl)
theorem J.sB {α μ ν : Nat → Nat → Int32} (h : J α μ) (g : sB μ ν) : J α ν := h.same (fun _ _ _ => rfl) (fun k i hk => by
  unfold jB at hk
  by_cases e : k = 94
  · subst e
    exact g.2 i (by omega)
  · rw [g.1 k e (by omega)])
theorem qJ {α μ δ : Nat → Nat → Int32} {r v : Option Value} {s : rf_Mem} (hJ : J α μ) (hq : r = v ∧ ∃ α' : Nat → Nat → Int32, s = (α', δ) ∧ sA α α') : r = v ∧ ∃ α' : Nat → Nat → Int32, s = (α', δ) ∧ J α' μ := by
  obtain ⟨h1, α', h2, h3⟩ := hq
  exact ⟨h1, α', h2, hJ.sA h3⟩
/-- steps that put one number on a stack -/
def EV (nm : Nat → Int32) (c : List Int32) : Prop := ∀ st, c.foldl (ev1 nm) st = evl nm c :: st
theorem EV.of {nm : Nat → Int32} {c : List Int32} {v : Int32} (h : ∀ st, c.foldl (ev1 nm) st = v :: st) : evl nm c = v ∧ EV nm c := by
  have e : evl nm c = v := by rw [evl, h]; rfl
  exact ⟨e, fun st => by rw [e]; exact h st⟩
theorem ev_join {nm : Nat → Int32} {c c2 : List Int32} {s : Int32} (h : EV nm c) (h2 : EV nm c2) (hs : lvl s < 9) : evl nm (c ++ c2 ++ [20000 + s]) = jn2 s (evl nm c) (evl nm c2) ∧ EV nm (c ++ c2 ++ [20000 + s]) := by
  apply EV.of
  intro st
  obtain ⟨k, k1, rfl, k3⟩ := lvl_s hs
  rw [List.foldl_append, List.foldl_append, h, h2, show (20000 : Int32) = nI 20000 from rfl, nI_add]
  show ev1 nm _ (nI (20000 + k)) = _
  rw [ev1_s (by omega) (by omega) (by omega), show 20000 + k - 20000 = k by omega]
theorem ev_not {nm : Nat → Int32} {c : List Int32} (h : EV nm c) : evl nm (c ++ [20033]) = bI (decide (evl nm c = 0)) ∧ EV nm (c ++ [20033]) := by
  apply EV.of
  intro st
  rw [List.foldl_append, h]
  show ev1 nm (evl nm c :: st) (nI 20033) = _
  rw [ev1_not]
theorem ev_num {nm : Nat → Int32} {m : Nat} (h : m < 10000) : evl nm [nI m] = nI m ∧ EV nm [nI m] := EV.of (fun _ => ev1_n h)
theorem ev_nam {nm : Nat → Int32} {k : Nat} (h : k < 5) : evl nm [10000 + nI k] = nm k ∧ EV nm [10000 + nI k] := EV.of (fun st => by
  rw [show (10000 : Int32) = nI 10000 from rfl, nI_add]
  show ev1 nm st (nI (10000 + k)) = _
  rw [ev1_m (by omega) (by omega), show 10000 + k - 10000 = k by omega])
theorem prl_ev {lev n : Nat} {x nm : Nat → Int32} {g : Nat → PR} (hx : ∀ a, n ≤ a → x a = -1) (hl : lev < 5) (hk : ∀ a, a ≤ n → (g a).2.1 ≤ n) (hg : ∀ a, a ≤ n → (g a).1 = true → EV nm (g a).2.2) : ∀ (k a : Nat) (c : List Int32), EV nm c → (prl x lev g k a c).1 = true → EV nm (prl x lev g k a c).2.2
  | 0, a, c, h, _ => h
  | k + 1, a, c, h, ht => by
    unfold prl at ht ⊢
    by_cases hv : lvl (x a) = lev
    · rw [if_pos hv] at ht ⊢
      have q := hg (a + 1) (lvl_lt hx hl hv)
      rcases e : g (a + 1) with ⟨b, a2, c2⟩
      rw [e] at q ht
      cases b
      · cases ht
      · exact prl_ev hx hl hk hg k a2 _ (ev_join h (q rfl) (by omega)).2 ht
    · rw [if_neg hv]
      exact h
theorem pr_ev {u n : Nat} {x nm : Nat → Int32} (hu : u ≤ 1) (hx : ∀ a, n ≤ a → x a = -1) : ∀ (f lev a op : Nat), a ≤ n → (pr u x f lev a op).1 = true → EV nm (pr u x f lev a op).2.2
  | 0, lev, a, op, ha, h => by cases h
  | f + 1, lev, a, op, ha, h => by
    have ih := pr_ev (nm := nm) hu hx f
    unfold pr at h ⊢
    by_cases hl : lev < 5
    · rw [if_pos hl] at h ⊢
      have q := ih (lev + 1) a op ha
      rcases e : pr u x f (lev + 1) a op with ⟨b, a2, c2⟩
      rw [e] at q h
      cases b
      · cases h
      · exact prl_ev hx hl (fun a ha => (pr_ok hu hx f (lev + 1) a op ha).2.1) (fun a ha => ih (lev + 1) a op ha) _ a2 c2 (q rfl) h
    · rw [if_neg hl] at h ⊢
      by_cases h1 : x a = 33 ∨ x a = 40
      · rw [if_pos h1] at h ⊢
        have han : a < n := nx_lt hx (fun e => by rw [e] at h1; exact absurd h1 (by decide))
        by_cases h2 : op < 5
        · rw [if_pos h2] at h ⊢
          by_cases h3 : x a = 33
          · rw [if_pos h3] at h ⊢
            have q := ih 5 (a + 1) (op + 1) han
            rcases e : pr u x f 5 (a + 1) (op + 1) with ⟨b, a2, c2⟩
            rw [e] at q h
            cases b
            · cases h
            · exact (ev_not (q rfl)).2
          · rw [if_neg h3] at h ⊢
            have q := ih 0 (a + 1) (op + 1) han
            rcases e : pr u x f 0 (a + 1) (op + 1) with ⟨b, a2, c2⟩
            rw [e] at q h
            cases b
            · cases h
            · replace h : (if x a2 = 41 then ((true, a2 + 1, c2) : PR) else (false, a2, c2)).1 = true := h
              show EV nm (if x a2 = 41 then ((true, a2 + 1, c2) : PR) else (false, a2, c2)).2.2
              by_cases h4 : x a2 = 41
              · rw [if_pos h4]
                exact q rfl
              · rw [if_neg h4] at h
                cases h
        · rw [if_neg h2] at h
          cases h
      · rw [if_neg h1] at h ⊢
        by_cases h2 : dgt (x a) = true
        · rw [if_pos h2]
          obtain ⟨m, hm, em⟩ := (prn_ok hx 4 a 0 1 ha (by decide) (by decide)).2.2
          show EV nm [(prn x 4 a (nI 0)).2]
          rw [em]
          exact (ev_num hm).2
        · rw [if_neg h2] at h ⊢
          by_cases h3 : nmi u (x a) < 0
          · rw [if_pos h3] at h
            cases h
          · rw [if_neg h3]
            obtain ⟨k, k1, k2, k3⟩ := nmi_k hu h3
            rw [k2]
            exact (ev_nam (by omega)).2
/-- a text's steps, as the class has them, and what they give -/
theorem tx_use {u : Nat} {steps n : Int32} {code b : Nat → Int32} (hu : u ≤ 1) (h : Tx u steps code n b) (h0 : ¬ steps = 0) (nm : Nat → Int32) :
    ∃ (m : Nat) (c : List Int32), n = nI m ∧ 1 ≤ m ∧ m ≤ 50 ∧ prt u b m = (true, m, c) ∧ (1 ≤ c.length ∧ c.length ≤ 50) ∧ (∀ e ∈ c, vc u e) ∧ c.foldl (ev1 nm) [] = [evl nm c] ∧ steps = nI c.length ∧ ∀ i, i < c.length → code i = c.getD i 0 := by
  rcases h with h | ⟨m, c, h1, h2, h3, h4, h5, h6, h7, h8⟩
  · exact absurd h.2 h0
  · have q := pr_ok (n := m) (x := nxb b m) hu nxb_x 60 0 0 0 (by omega)
    have q2 := pr_ev (n := m) (x := nxb b m) (nm := nm) hu nxb_x 60 0 0 0 (by omega)
    have e : pr u (nxb b m) 60 0 0 0 = (true, m, c) := h4
    rw [e] at q q2
    exact ⟨m, c, h3, h1, h2, h4, ⟨h5, h6⟩, q.2.2.2.1, q2 rfl [], h7, h8⟩
theorem tx_0 {u : Nat} {steps n : Int32} {code b : Nat → Int32} (h : Tx u steps code n b) : steps = 0 ↔ n = 0 := by
  rcases h with h | ⟨m, c, h1, h2, h3, h4, h5, h6, h7, h8⟩
  · exact ⟨fun _ => h.1, fun _ => h.2⟩
  · rw [h3, h7]
    exact ⟨fun e => by have := nI_inj (b := 0) e (by omega) (by omega); omega, fun e => by have := nI_inj (b := 0) e (by omega) (by omega); omega⟩
theorem gv_0 {d nm : Nat → Int32} (h : d 520 = 0) : gv 0 d nm = bI (decide (nm 0 * nm 3 ≤ nm 1 * nm 2)) := by
  unfold gv
  rw [if_pos (show d (520 + 0) = 0 from h), if_pos rfl]
theorem gv_1 {d nm : Nat → Int32} (h : d 521 = 0) : gv 1 d nm = nI 1 := by
  unfold gv
  rw [if_pos (show d (520 + 1) = 0 from h), if_neg (by decide)]
theorem gv_t {u m : Nat} {c : List Int32} {d nm : Nat → Int32} (h : d (520 + u) = nI m) (h1 : 1 ≤ m) (h2 : m ≤ 50) (hp : prt u (fun i => d (530 + 50 * u + i)) m = (true, m, c)) : gv u d nm = evl nm c := by
  unfold gv
  rw [if_neg (fun e => by rw [h] at e; have := nI_inj (b := 0) e (by omega) (by omega); omega), show cn d (520 + u) = m from by unfold cn; rw [h, nI_clamp (by omega)], hp]
section H42
variable {Ln : Nat} {xs : Nat → Int32} {α μ δ : Nat → Nat → Int32}
theorem c_weigh {a b c e f : Int32} (hJ : J α μ) : rf_Ok (rf_T Ln xs) MX10_weigh 3 0 [some (.ref 1), some (.int a), some (.int b), some (.int c), some (.int e), some (.int f)] [] (α, δ) (fun r s => r = some (.int (gv 0 (μ 95) (nm5 a b c e f))) ∧ ∃ α' : Nat → Nat → Int32, s = (α', δ) ∧ sA α α') := by
  have hT := hJ.1.1.2.1
  refine ok_step (ps := []) (L' := [some (.ref 1), some (.int a), some (.int b), some (.int c), some (.int e), some (.int f)]) (st' := [.int (α 29 0)]) (σ' := (α, δ)) (pc' := 7) kX10_weigh_0 rfl rfl rf_a0 ?_
  refine ok_if_ne bX10_weigh_7 (fun h7 => ?_) (fun h7 => ?_)
  · refine ok_step (ps := [rf_in (nI 0) 5, rf_in (nI 1) 5, rf_in (nI 2) 5, rf_in (nI 3) 5, rf_in (nI 4) 5]) (L' := [some (.ref 1), some (.int a), some (.int b), some (.int c), some (.int e), some (.int f)]) (st' := [.ref 35, .ref 29]) (σ' := (rf_w (rf_w (rf_w (rf_w (rf_w α 35 ((nI 0).toNatClampNeg) a) 35 ((nI 1).toNatClampNeg) b) 35 ((nI 2).toNatClampNeg) c) 35 ((nI 3).toNatClampNeg) e) 35 ((nI 4).toNatClampNeg) f, δ)) (pc' := 71) kX10_weigh_26 rfl rfl (rf_a1 (rf_in_n (a := 0) rfl (by omega)) (rf_a1 (rf_in_n (a := 1) rfl (by omega)) (rf_a1 (rf_in_n (a := 2) rfl (by omega)) (rf_a1 (rf_in_n (a := 3) rfl (by omega)) (rf_a1 (rf_in_n (a := 4) rfl (by omega)) rf_a0))))) ?_
    try rw [(show (nI 0).toNatClampNeg = 0 from rf_cl_n rfl (by omega))]
    try rw [(show (nI 1).toNatClampNeg = 1 from rf_cl_n rfl (by omega))]
    try rw [(show (nI 2).toNatClampNeg = 2 from rf_cl_n rfl (by omega))]
    try rw [(show (nI 3).toNatClampNeg = 3 from rf_cl_n rfl (by omega))]
    try rw [(show (nI 4).toNatClampNeg = 4 from rf_cl_n rfl (by omega))]
    obtain ⟨m, cc, h3, h1, h2, h4, hc, hv, he, hst, hco⟩ := tx_use (by decide) hT h7 (nm5 a b c e f)
    refine ok_Vx (As := [.ref 35]) (b := 29) (st := []) mkX8_workOut qX10_weigh_71 rfl (rc_29) rfl rfl rfl rfl (Nat.le_of_ble_eq_true rfl) (c_wo29 (u := 0) (c := cc) (nm := (nm5 a b c e f)) (by decide) hc hv he ((congrFun (wr5_o (by decide)) 0).trans hst) (fun i hi => (congrFun (wr5_o (by decide)) i).trans (hco i hi)) (fun i hi => wr5 i (by omega))) (fun r1 σ1 hq => ?_)
    obtain ⟨rfl, α1, rfl, ha⟩ := hq
    refine ok_reti eX10_weigh_74 rfl ?_
    exact ⟨by rw [gv_t (u := 0) h3 h1 h2 h4], _, rfl, fun k k1 k2 k3 => by rw [ha k k1, wr5_o k3]⟩
  · refine ok_step (ps := []) (L' := [some (.ref 1), some (.int a), some (.int b), some (.int c), some (.int e), some (.int f)]) (st' := [.int (b * c), .int (a * e)]) (σ' := (α, δ)) (pc' := 17) kX10_weigh_10 rfl rfl rf_a0 ?_
    refine ok_icmp_gt bX10_weigh_17 (fun h17 => ?_) (fun h17 => ?_)
    · refine ok_step (ps := []) (L' := [some (.ref 1), some (.int a), some (.int b), some (.int c), some (.int e), some (.int f)]) (st' := [.int (nI 0)]) (σ' := (α, δ)) (pc' := 25) kX10_weigh_24 rfl rfl rf_a0 ?_
      refine ok_reti eX10_weigh_25 rfl ?_
      refine ⟨?_, _, rfl, sA.rfl α⟩
      rw [gv_0 ((tx_0 hT).mp h7)]
      exact rz (decide_eq_false (Int32.not_le.mpr h17))
    · refine ok_step (ps := []) (L' := [some (.ref 1), some (.int a), some (.int b), some (.int c), some (.int e), some (.int f)]) (st' := [.int (nI 1)]) (σ' := (α, δ)) (pc' := 21) kX10_weigh_20 rfl rfl rf_a0 ?_
      refine ok_goto bX10_weigh_21 ?_
      refine ok_reti eX10_weigh_25 rfl ?_
      refine ⟨?_, _, rfl, sA.rfl α⟩
      rw [gv_0 ((tx_0 hT).mp h7)]
      exact ro (decide_eq_true (Int32.not_lt.mp h17))
theorem c_rule {a b c e : Int32} (hJ : J α μ) : rf_Ok (rf_T Ln xs) MX10_rule 3 0 [some (.ref 1), some (.int a), some (.int b), some (.int c), some (.int e)] [] (α, δ) (fun r s => r = some (.int (gv 1 (μ 95) (nm5 a b c e (nI 0)))) ∧ ∃ α' : Nat → Nat → Int32, s = (α', δ) ∧ sA α α') := by
  have hT := hJ.1.1.2.2
  refine ok_step (ps := []) (L' := [some (.ref 1), some (.int a), some (.int b), some (.int c), some (.int e)]) (st' := [.int (α 32 0)]) (σ' := (α, δ)) (pc' := 7) kX10_rule_0 rfl rfl rf_a0 ?_
  refine ok_if_ne bX10_rule_7 (fun h7 => ?_) (fun h7 => ?_)
  · refine ok_step (ps := [rf_in (nI 0) 5, rf_in (nI 1) 5, rf_in (nI 2) 5, rf_in (nI 3) 5, rf_in (nI 4) 5]) (L' := [some (.ref 1), some (.int a), some (.int b), some (.int c), some (.int e)]) (st' := [.ref 35, .ref 32]) (σ' := (rf_w (rf_w (rf_w (rf_w (rf_w α 35 ((nI 0).toNatClampNeg) a) 35 ((nI 1).toNatClampNeg) b) 35 ((nI 2).toNatClampNeg) c) 35 ((nI 3).toNatClampNeg) e) 35 ((nI 4).toNatClampNeg) (nI 0), δ)) (pc' := 56) kX10_rule_12 rfl rfl (rf_a1 (rf_in_n (a := 0) rfl (by omega)) (rf_a1 (rf_in_n (a := 1) rfl (by omega)) (rf_a1 (rf_in_n (a := 2) rfl (by omega)) (rf_a1 (rf_in_n (a := 3) rfl (by omega)) (rf_a1 (rf_in_n (a := 4) rfl (by omega)) rf_a0))))) ?_
    try rw [(show (nI 0).toNatClampNeg = 0 from rf_cl_n rfl (by omega))]
    try rw [(show (nI 1).toNatClampNeg = 1 from rf_cl_n rfl (by omega))]
    try rw [(show (nI 2).toNatClampNeg = 2 from rf_cl_n rfl (by omega))]
    try rw [(show (nI 3).toNatClampNeg = 3 from rf_cl_n rfl (by omega))]
    try rw [(show (nI 4).toNatClampNeg = 4 from rf_cl_n rfl (by omega))]
    obtain ⟨m, cc, h3, h1, h2, h4, hc, hv, he, hst, hco⟩ := tx_use (by decide) hT h7 (nm5 a b c e (nI 0))
    refine ok_Vx (As := [.ref 35]) (b := 32) (st := []) mkX8_workOut qX10_rule_56 rfl (rc_32) rfl rfl rfl rfl (Nat.le_of_ble_eq_true rfl) (c_wo32 (u := 1) (c := cc) (nm := (nm5 a b c e (nI 0))) (by decide) hc hv he ((congrFun (wr5_o (by decide)) 0).trans hst) (fun i hi => (congrFun (wr5_o (by decide)) i).trans (hco i hi)) (fun i hi => wr5 i (by omega))) (fun r1 σ1 hq => ?_)
    obtain ⟨rfl, α1, rfl, ha⟩ := hq
    refine ok_reti eX10_rule_59 rfl ?_
    exact ⟨by rw [gv_t (u := 1) h3 h1 h2 h4], _, rfl, fun k k1 k2 k3 => by rw [ha k k2, wr5_o k3]⟩
  · refine ok_step (ps := []) (L' := [some (.ref 1), some (.int a), some (.int b), some (.int c), some (.int e)]) (st' := [.int (nI 1)]) (σ' := (α, δ)) (pc' := 11) kX10_rule_10 rfl rfl rf_a0 ?_
    refine ok_reti eX10_rule_11 rfl ?_
    exact ⟨by rw [gv_1 ((tx_0 hT).mp h7)], _, rfl, sA.rfl α⟩
end H42
