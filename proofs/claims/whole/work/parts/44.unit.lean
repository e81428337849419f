theorem nmi_d {u : Nat} {c : Int32} (h : dgt c = true) : nmi u c < 0 := by
  obtain ⟨k, h1, h2, rfl⟩ := dgt_n h
  have ne : ∀ m : Nat, 58 ≤ m → m < 1000 → ¬ nI k = nI m := fun m h3 h4 e => by have := nI_inj e (by omega) (by omega); omega
  have h102 : ¬ nI k = 102 := ne 102 (by decide) (by decide)
  have h103 : ¬ nI k = 103 := ne 103 (by decide) (by decide)
  have h112 : ¬ nI k = 112 := ne 112 (by decide) (by decide)
  have h113 : ¬ nI k = 113 := ne 113 (by decide) (by decide)
  have h110 : ¬ nI k = 110 := ne 110 (by decide) (by decide)
  have h108 : ¬ nI k = 108 := ne 108 (by decide) (by decide)
  have h98 : ¬ nI k = 98 := ne 98 (by decide) (by decide)
  unfold nmi
  simp only [h102, h103, h112, h113, h110, h108, h98, if_false]
  split <;> decide
theorem dgt_wi {c : Int32} : wi c (nI 48) (nI 57) = dgt c := rfl
section H44
variable {Ln : Nat} {xs : Nat → Int32} {α ν : Nat → Nat → Int32} {u b n : Nat} {x : Nat → Int32} {o : Int32}
theorem m_dig {D : Nat} {c0 kk : Int32} (hE : En ν u b n) (hx : x = nxb (fun i => ν 95 (b + i)) n) : ∀ (k a j : Nat) (v : Int32), j + k = 4 → 1 ≤ j → a ≤ n → rf_Ok (rf_T Ln xs) MX12_unit (D + 5) 150 [some (.ref 94), some (.int c0), some (.int kk), some (.int v), some (.int (nI j))] [] (α, mm ν (nI a) (-1) o) (fun r s => r = some (.int (prn x k a v).2) ∧ s = (α, mm ν (nI (prn x k a v).1) (-1) o)) := by
  have hn := hE.2.2.1
  intro k
  induction k with
  | zero =>
    intro a j v hj h1 ha
    refine ok_step (ps := []) (L' := [some (.ref 94), some (.int c0), some (.int kk), some (.int v), some (.int (nI j))]) (st' := [.int (nI 4), .int (nI j)]) (σ' := (α, mm ν (nI a) (-1) o)) (pc' := 153) kX12_unit_150 rfl rfl rf_a0 ?_
    refine ok_icmp_ge bX12_unit_153 (fun _ => ?_) (fun h153 => absurd (nI_le (by omega) (by omega)) h153)
    refine ok_step (ps := []) (L' := [some (.ref 94), some (.int c0), some (.int kk), some (.int v), some (.int (nI j))]) (st' := [.int (nI j)]) (σ' := (α, mm ν (nI a) (-1) o)) (pc' := 204) kX12_unit_202 rfl rfl rf_a0 ?_
    refine ok_if_ne bX12_unit_204 (fun _ => ?_) (fun h204 => absurd h204 (fun e => by have := nI_inj (b := 0) e (by omega) (by omega); omega))
    refine ok_step (ps := []) (L' := [some (.ref 94), some (.int c0), some (.int kk), some (.int v), some (.int (nI j))]) (st' := [.int v]) (σ' := (α, mm ν (nI a) (-1) o)) (pc' := 215) kX12_unit_214 rfl rfl rf_a0 ?_
    refine ok_reti eX12_unit_215 rfl ?_
    exact ⟨rfl, rfl⟩
  | succ k ih =>
    intro a j v hj h1 ha
    unfold prn
    by_cases hd : dgt (x a) = true
    · rw [if_pos hd]
      have han : a < n := nx_lt (fun a h => nxb_y hx h) (fun e => by rw [e] at hd; exact absurd hd (by decide))
      refine ok_step (ps := []) (L' := [some (.ref 94), some (.int c0), some (.int kk), some (.int v), some (.int (nI j))]) (st' := [.int (nI 4), .int (nI j)]) (σ' := (α, mm ν (nI a) (-1) o)) (pc' := 153) kX12_unit_150 rfl rfl rf_a0 ?_
      refine ok_icmp_ge bX12_unit_153 (fun h153 => absurd h153 (nI_ge (by omega) (by omega))) (fun _ => ?_)
      refine ok_step (ps := []) (L' := [some (.ref 94), some (.int c0), some (.int kk), some (.int v), some (.int (nI j))]) (st' := [.ref 94]) (σ' := (α, mm ν (nI a) (-1) o)) (pc' := 157) kX12_unit_156 rfl rfl rf_a0 ?_
      refine ok_V (As := []) (b := 94) (st := []) mkX12_here qX12_unit_157 rfl (rc_94) rfl rfl rfl rfl (by omega) (m_here hE hx (by omega)) ?_
      refine ok_step (ps := []) (L' := [some (.ref 94), some (.int c0), some (.int kk), some (.int v), some (.int (nI j))]) (st' := [.long (lN 57), .long (lN 48), .long ((x a).toInt64)]) (σ' := (α, mm ν (nI a) (-1) o)) (pc' := 167) kX12_unit_160 rfl rfl rf_a0 ?_
      refine ok_S (As := [.long ((x a).toInt64), .long (lN 48), .long (lN 57)]) (st := []) mkX12_in qX12_unit_167 rfl rfl rfl rfl rfl (by omega) (m_in) ?_
      rw [show wl ((x a).toInt64) (lN 48) (lN 57) = wi (x a) (nI 48) (nI 57) from wl_of rfl (nI_l (by decide)).symm (nI_l (by decide)).symm]
      refine ok_if_eq bX12_unit_170 (fun h170 => absurd h170 (bI_n0.mpr hd)) (fun _ => ?_)
      refine ok_step (ps := []) (L' := [some (.ref 94), some (.int c0), some (.int kk), some (.int v), some (.int (nI j))]) (st' := [.ref 94, .int ((nI 10) * v)]) (σ' := (α, mm ν (nI a) (-1) o)) (pc' := 178) kX12_unit_173 rfl rfl rf_a0 ?_
      refine ok_V (As := []) (b := 94) (st := [.int ((nI 10) * v)]) mkX12_here qX12_unit_178 rfl (rc_94) rfl rfl rfl rfl (by omega) (m_here hE hx (by omega)) ?_
      refine ok_step (ps := []) (L' := [some (.ref 94), some (.int c0), some (.int kk), some (.int ((((nI 10) * v) + (x a)) - (nI 48))), some (.int ((nI j) + (nI 1)))]) (st' := []) (σ' := (α, rf_w (mm ν (nI a) (-1) o) 94 5 (((mm ν (nI a) (-1) o) 94 5) + (nI 1)))) (pc' := 199) kX12_unit_181 rfl rfl rf_a0 ?_
      try rw [(show (mm ν (nI a) (-1) o) 94 5 = nI a from rfl)]
      try rw [(show ((nI a) + (nI 1)) = nI (1 + a) from rf_eq (rf_nadd (x := nI a) (y := nI 1) rfl rfl) (by omega))]
      try rw [(show ((nI j) + (nI 1)) = nI (j + 1) from nI_add _ _)]
      rw [mm_5]
      refine ok_goto bX12_unit_199 ?_
      rw [show (nI 10 * v + x a - nI 48 : Int32) = v * 10 + x a - 48 from by rw [Int32.mul_comm]; rfl, Nat.add_comm 1 a]
      exact ih (a + 1) (j + 1) _ (by omega) (by omega) (by omega)
    · rw [if_neg hd]
      refine ok_step (ps := []) (L' := [some (.ref 94), some (.int c0), some (.int kk), some (.int v), some (.int (nI j))]) (st' := [.int (nI 4), .int (nI j)]) (σ' := (α, mm ν (nI a) (-1) o)) (pc' := 153) kX12_unit_150 rfl rfl rf_a0 ?_
      refine ok_icmp_ge bX12_unit_153 (fun h153 => absurd h153 (nI_ge (by omega) (by omega))) (fun _ => ?_)
      refine ok_step (ps := []) (L' := [some (.ref 94), some (.int c0), some (.int kk), some (.int v), some (.int (nI j))]) (st' := [.ref 94]) (σ' := (α, mm ν (nI a) (-1) o)) (pc' := 157) kX12_unit_156 rfl rfl rf_a0 ?_
      refine ok_V (As := []) (b := 94) (st := []) mkX12_here qX12_unit_157 rfl (rc_94) rfl rfl rfl rfl (by omega) (m_here hE hx (by omega)) ?_
      refine ok_step (ps := []) (L' := [some (.ref 94), some (.int c0), some (.int kk), some (.int v), some (.int (nI j))]) (st' := [.long (lN 57), .long (lN 48), .long ((x a).toInt64)]) (σ' := (α, mm ν (nI a) (-1) o)) (pc' := 167) kX12_unit_160 rfl rfl rf_a0 ?_
      refine ok_S (As := [.long ((x a).toInt64), .long (lN 48), .long (lN 57)]) (st := []) mkX12_in qX12_unit_167 rfl rfl rfl rfl rfl (by omega) (m_in) ?_
      rw [show wl ((x a).toInt64) (lN 48) (lN 57) = wi (x a) (nI 48) (nI 57) from wl_of rfl (nI_l (by decide)).symm (nI_l (by decide)).symm]
      refine ok_if_eq bX12_unit_170 (fun _ => ?_) (fun h170 => absurd (bI_0.mpr (show dgt (x a) = false by simpa using hd)) h170)
      refine ok_step (ps := []) (L' := [some (.ref 94), some (.int c0), some (.int kk), some (.int v), some (.int (nI j))]) (st' := [.int (nI j)]) (σ' := (α, mm ν (nI a) (-1) o)) (pc' := 204) kX12_unit_202 rfl rfl rf_a0 ?_
      refine ok_if_ne bX12_unit_204 (fun _ => ?_) (fun h204 => absurd h204 (fun e => by have := nI_inj (b := 0) e (by omega) (by omega); omega))
      refine ok_step (ps := []) (L' := [some (.ref 94), some (.int c0), some (.int kk), some (.int v), some (.int (nI j))]) (st' := [.int v]) (σ' := (α, mm ν (nI a) (-1) o)) (pc' := 215) kX12_unit_214 rfl rfl rf_a0 ?_
      refine ok_reti eX12_unit_215 rfl ?_
      exact ⟨rfl, rfl⟩
theorem m_unit {g0 g5 : Nat → PR} {D a op : Nat} (hE : En ν u b n) (hx : x = nxb (fun i => ν 95 (b + i)) n) (hs0 : ∀ a, a ≤ n → op < 5 → rf_Ok (rf_T Ln xs) MX12_either (D + 4) 0 [some (.ref 94), none, none] [] (α, mm ν (nI a) (-1) (nI (1 + op))) (PQ α ν (nI (1 + op)) (g0 a))) (hs5 : ∀ a, a ≤ n → op < 5 → rf_Ok (rf_T Ln xs) MX12_unit (D + 4) 0 [some (.ref 94), none, none, none, none] [] (α, mm ν (nI a) (-1) (nI (1 + op))) (PQ α ν (nI (1 + op)) (g5 a))) (hk0 : ∀ a, a ≤ n → PK u n a (g0 a)) (hk5 : ∀ a, a ≤ n → PK u n a (g5 a)) (hv0 : ∀ a, a ≤ n → (g0 a).1 = true → EV (ν 98) (g0 a).2.2) (hv5 : ∀ a, a ≤ n → (g5 a).1 = true → EV (ν 98) (g5 a).2.2) (ha : a ≤ n) (hop : op ≤ 5) : rf_Ok (rf_T Ln xs) MX12_unit (D + 5) 0 [some (.ref 94), none, none, none, none] [] (α, mm ν (nI a) (-1) (nI op)) (PQ α ν (nI op) (if x a = 33 ∨ x a = 40 then
      (if op < 5 then (if x a = 33 then (match g5 (a + 1) with
          | (true, a2, c2) => (true, a2, c2 ++ [20033])
          | (false, a2, c2) => (false, a2, c2))
        else (match g0 (a + 1) with
          | (true, a2, c2) => if x a2 = 41 then (true, a2 + 1, c2) else (false, a2, c2)
          | (false, a2, c2) => (false, a2, c2)))
      else (false, a, []))
    else if dgt (x a) then (true, (prn x 4 a 0).1, [(prn x 4 a 0).2])
    else if nmi u (x a) < 0 then (false, a, []) else (true, a + 1, [10000 + nmi u (x a)]))) := by
  have hn := hE.2.2.1
  by_cases hb : x a = 33 ∨ x a = 40
  · rw [if_pos hb]
    have han : a < n := nx_lt (fun a h => nxb_y hx h) (fun e => by rw [e] at hb; exact absurd hb (by decide))
    by_cases h5 : op < 5
    · rw [if_pos h5]
      by_cases h3 : x a = 33
      · rw [if_pos h3, Nat.add_comm a 1]
        have hc : x a = nI 33 := h3
        rcases e1 : g5 (1 + a) with ⟨_ | _, a2, c2⟩
        · obtain ⟨v1, o1, hc1⟩ := PQ_f (hs5 (1 + a) (by omega) h5) e1
          refine ok_step (ps := []) (L' := [some (.ref 94), none, none, none, none]) (st' := [.ref 94]) (σ' := (α, mm ν (nI a) (-1) (nI op))) (pc' := 1) kX12_unit_0 rfl rfl rf_a0 ?_
          refine ok_V (As := []) (b := 94) (st := []) mkX12_here qX12_unit_1 rfl (rc_94) rfl rfl rfl rfl (by omega) (m_here hE hx (by omega)) ?_
          refine ok_step (ps := []) (L' := [some (.ref 94), some (.int (x a)), none, none, none]) (st' := [.int (nI 33), .int (x a)]) (σ' := (α, mm ν (nI a) (-1) (nI op))) (pc' := 8) kX12_unit_4 rfl rfl rf_a0 ?_
          refine ok_icmp_eq bX12_unit_8 (fun _ => ?_) (fun h8 => absurd (hc) h8)
          refine ok_step (ps := []) (L' := [some (.ref 94), some (.int (x a)), none, none, none]) (st' := [.int (nI 5), .int ((mm ν (nI a) (-1) (nI op)) 94 8)]) (σ' := (α, mm ν (nI a) (-1) (nI op))) (pc' := 22) kX12_unit_17 rfl rfl rf_a0 ?_
          try rw [(show (mm ν (nI a) (-1) (nI op)) 94 8 = nI op from rfl)]
          refine ok_icmp_ne bX12_unit_22 (fun _ => ?_) (fun h22 => absurd h22 (fun e => by have := nI_inj e (by omega) (by omega); omega))
          refine ok_step (ps := []) (L' := [some (.ref 94), some (.int (x a)), none, none, none]) (st' := [.int (nI 40), .int (x a)]) (σ' := (α, rf_w (rf_w (mm ν (nI a) (-1) (nI op)) 94 8 (((mm ν (nI a) (-1) (nI op)) 94 8) + (nI 1))) 94 5 (((rf_w (mm ν (nI a) (-1) (nI op)) 94 8 (((mm ν (nI a) (-1) (nI op)) 94 8) + (nI 1))) 94 5) + (nI 1)))) (pc' := 53) kX12_unit_30 rfl rfl rf_a0 ?_
          try rw [(show (mm ν (nI a) (-1) (nI op)) 94 8 = nI op from rfl)]
          try rw [(show ((nI op) + (nI 1)) = nI (1 + op) from rf_eq (rf_nadd (x := nI op) (y := nI 1) rfl rfl) (by omega))]
          try rw [(show (rf_w (mm ν (nI a) (-1) (nI op)) 94 8 (nI (1 + op))) 94 5 = (mm ν (nI a) (-1) (nI op)) 94 5 from by rw [rf_w_at, if_neg (fun h => absurd h.2 (by omega))])]
          try rw [(show (mm ν (nI a) (-1) (nI op)) 94 5 = nI a from rfl)]
          try rw [(show ((nI a) + (nI 1)) = nI (1 + a) from rf_eq (rf_nadd (x := nI a) (y := nI 1) rfl rfl) (by omega))]
          rw [mm_8]
          rw [mm_5]
          refine ok_icmp_ne bX12_unit_53 (fun _ => ?_) (fun h53 => absurd h53 ((by rw [hc]; decide)))
          refine ok_step (ps := []) (L' := [some (.ref 94), some (.int (x a)), none, none, none]) (st' := [.ref 94]) (σ' := (α, mm ν (nI (1 + a)) (-1) (nI (1 + op)))) (pc' := 64) kX12_unit_63 rfl rfl rf_a0 ?_
          refine ok_V (As := []) (b := 94) (st := []) mkX12_unit qX12_unit_64 rfl (rc_94) rfl rfl rfl rfl (by omega) (hc1) ?_
          refine ok_step (ps := []) (L' := [some (.ref 94), some (.int (x a)), some (.int v1), none, none]) (st' := [.int (nI 40), .int (x a)]) (σ' := (α, mm ν (nI a2) (nI a2) o1)) (pc' := 71) kX12_unit_67 rfl rfl rf_a0 ?_
          refine ok_icmp_ne bX12_unit_71 (fun _ => ?_) (fun h71 => absurd h71 ((by rw [hc]; decide)))
          refine ok_step (ps := []) (L' := [some (.ref 94), some (.int (x a)), some (.int v1), none, none]) (st' := [.int (nI 40), .int (x a)]) (σ' := (α, rf_w (mm ν (nI a2) (nI a2) o1) 94 8 (((mm ν (nI a2) (nI a2) o1) 94 8) - (nI 1)))) (pc' := 101) kX12_unit_88 rfl rfl rf_a0 ?_
          try rw [(show (mm ν (nI a2) (nI a2) o1) 94 8 = o1 from rfl)]
          rw [mm_8]
          refine ok_icmp_ne bX12_unit_101 (fun _ => ?_) (fun h101 => absurd h101 ((by rw [hc]; decide)))
          refine ok_step (ps := []) (L' := [some (.ref 94), some (.int (x a)), some (.int v1), none, none]) (st' := [.int v1]) (σ' := (α, mm ν (nI a2) (nI a2) (o1 - (nI 1)))) (pc' := 109) kX12_unit_108 rfl rfl rf_a0 ?_
          refine ok_if_ne bX12_unit_109 (fun h109 => ?_) (fun h109 => ?_)
          · refine ok_step (ps := []) (L' := [some (.ref 94), some (.int (x a)), some (.int v1), none, none]) (st' := [.int (nI 0)]) (σ' := (α, mm ν (nI a2) (nI a2) (o1 - (nI 1)))) (pc' := 117) kX12_unit_116 rfl rfl rf_a0 ?_
            refine ok_reti eX12_unit_117 rfl ?_
            exact Or.inr ⟨rfl, _, _, rfl, rfl⟩
          · refine ok_step (ps := []) (L' := [some (.ref 94), some (.int (x a)), some (.int v1), none, none]) (st' := [.int (nI 1)]) (σ' := (α, mm ν (nI a2) (nI a2) (o1 - (nI 1)))) (pc' := 113) kX12_unit_112 rfl rfl rf_a0 ?_
            refine ok_goto bX12_unit_113 ?_
            refine ok_reti eX12_unit_117 rfl ?_
            exact Or.inr ⟨rfl, _, _, rfl, rfl⟩
        · have q4 := hv5 (1 + a) (by omega)
          rw [e1] at q4
          replace q4 : EV (ν 98) c2 := q4 rfl
          have hc1 := PQ_t (hs5 (1 + a) (by omega) h5) e1
          refine ok_step (ps := []) (L' := [some (.ref 94), none, none, none, none]) (st' := [.ref 94]) (σ' := (α, mm ν (nI a) (-1) (nI op))) (pc' := 1) kX12_unit_0 rfl rfl rf_a0 ?_
          refine ok_V (As := []) (b := 94) (st := []) mkX12_here qX12_unit_1 rfl (rc_94) rfl rfl rfl rfl (by omega) (m_here hE hx (by omega)) ?_
          refine ok_step (ps := []) (L' := [some (.ref 94), some (.int (x a)), none, none, none]) (st' := [.int (nI 33), .int (x a)]) (σ' := (α, mm ν (nI a) (-1) (nI op))) (pc' := 8) kX12_unit_4 rfl rfl rf_a0 ?_
          refine ok_icmp_eq bX12_unit_8 (fun _ => ?_) (fun h8 => absurd (hc) h8)
          refine ok_step (ps := []) (L' := [some (.ref 94), some (.int (x a)), none, none, none]) (st' := [.int (nI 5), .int ((mm ν (nI a) (-1) (nI op)) 94 8)]) (σ' := (α, mm ν (nI a) (-1) (nI op))) (pc' := 22) kX12_unit_17 rfl rfl rf_a0 ?_
          try rw [(show (mm ν (nI a) (-1) (nI op)) 94 8 = nI op from rfl)]
          refine ok_icmp_ne bX12_unit_22 (fun _ => ?_) (fun h22 => absurd h22 (fun e => by have := nI_inj e (by omega) (by omega); omega))
          refine ok_step (ps := []) (L' := [some (.ref 94), some (.int (x a)), none, none, none]) (st' := [.int (nI 40), .int (x a)]) (σ' := (α, rf_w (rf_w (mm ν (nI a) (-1) (nI op)) 94 8 (((mm ν (nI a) (-1) (nI op)) 94 8) + (nI 1))) 94 5 (((rf_w (mm ν (nI a) (-1) (nI op)) 94 8 (((mm ν (nI a) (-1) (nI op)) 94 8) + (nI 1))) 94 5) + (nI 1)))) (pc' := 53) kX12_unit_30 rfl rfl rf_a0 ?_
          try rw [(show (mm ν (nI a) (-1) (nI op)) 94 8 = nI op from rfl)]
          try rw [(show ((nI op) + (nI 1)) = nI (1 + op) from rf_eq (rf_nadd (x := nI op) (y := nI 1) rfl rfl) (by omega))]
          try rw [(show (rf_w (mm ν (nI a) (-1) (nI op)) 94 8 (nI (1 + op))) 94 5 = (mm ν (nI a) (-1) (nI op)) 94 5 from by rw [rf_w_at, if_neg (fun h => absurd h.2 (by omega))])]
          try rw [(show (mm ν (nI a) (-1) (nI op)) 94 5 = nI a from rfl)]
          try rw [(show ((nI a) + (nI 1)) = nI (1 + a) from rf_eq (rf_nadd (x := nI a) (y := nI 1) rfl rfl) (by omega))]
          rw [mm_8]
          rw [mm_5]
          refine ok_icmp_ne bX12_unit_53 (fun _ => ?_) (fun h53 => absurd h53 ((by rw [hc]; decide)))
          refine ok_step (ps := []) (L' := [some (.ref 94), some (.int (x a)), none, none, none]) (st' := [.ref 94]) (σ' := (α, mm ν (nI (1 + a)) (-1) (nI (1 + op)))) (pc' := 64) kX12_unit_63 rfl rfl rf_a0 ?_
          refine ok_V (As := []) (b := 94) (st := []) mkX12_unit qX12_unit_64 rfl (rc_94) rfl rfl rfl rfl (by omega) (hc1) ?_
          refine ok_step (ps := []) (L' := [some (.ref 94), some (.int (x a)), some (.int (evl (ν 98) c2)), none, none]) (st' := [.int (nI 40), .int (x a)]) (σ' := (α, mm ν (nI a2) (-1) (nI (1 + op)))) (pc' := 71) kX12_unit_67 rfl rfl rf_a0 ?_
          refine ok_icmp_ne bX12_unit_71 (fun _ => ?_) (fun h71 => absurd h71 ((by rw [hc]; decide)))
          refine ok_step (ps := []) (L' := [some (.ref 94), some (.int (x a)), some (.int (evl (ν 98) c2)), none, none]) (st' := [.int (nI 40), .int (x a)]) (σ' := (α, rf_w (mm ν (nI a2) (-1) (nI (1 + op))) 94 8 (((mm ν (nI a2) (-1) (nI (1 + op))) 94 8) - (nI 1)))) (pc' := 101) kX12_unit_88 rfl rfl rf_a0 ?_
          try rw [(show (mm ν (nI a2) (-1) (nI (1 + op))) 94 8 = nI (1 + op) from rfl)]
          try rw [(show ((nI (1 + op)) - (nI 1)) = nI op from rf_eq (rf_nsub (x := nI (1 + op)) (y := nI 1) rfl rfl (by omega)) (by omega))]
          rw [mm_8]
          refine ok_icmp_ne bX12_unit_101 (fun _ => ?_) (fun h101 => absurd h101 ((by rw [hc]; decide)))
          refine ok_step (ps := []) (L' := [some (.ref 94), some (.int (x a)), some (.int (evl (ν 98) c2)), none, none]) (st' := [.int (evl (ν 98) c2)]) (σ' := (α, mm ν (nI a2) (-1) (nI op))) (pc' := 109) kX12_unit_108 rfl rfl rf_a0 ?_
          refine ok_if_ne bX12_unit_109 (fun h109 => ?_) (fun h109 => ?_)
          · refine ok_step (ps := []) (L' := [some (.ref 94), some (.int (x a)), some (.int (evl (ν 98) c2)), none, none]) (st' := [.int (nI 0)]) (σ' := (α, mm ν (nI a2) (-1) (nI op))) (pc' := 117) kX12_unit_116 rfl rfl rf_a0 ?_
            refine ok_reti eX12_unit_117 rfl ?_
            exact Or.inl ⟨rfl, by rw [(ev_not q4).1]; exact rz (by simp [h109]), rfl⟩
          · refine ok_step (ps := []) (L' := [some (.ref 94), some (.int (x a)), some (.int (evl (ν 98) c2)), none, none]) (st' := [.int (nI 1)]) (σ' := (α, mm ν (nI a2) (-1) (nI op))) (pc' := 113) kX12_unit_112 rfl rfl rf_a0 ?_
            refine ok_goto bX12_unit_113 ?_
            refine ok_reti eX12_unit_117 rfl ?_
            exact Or.inl ⟨rfl, by rw [(ev_not q4).1]; exact ro (by simp [h109]), rfl⟩
      · rw [if_neg h3, Nat.add_comm a 1]
        have hc : x a = nI 40 := hb.resolve_left h3
        rcases e1 : g0 (1 + a) with ⟨_ | _, a2, c2⟩
        · have q1 := hk0 (1 + a) (by omega)
          rw [e1] at q1
          obtain ⟨q1, q2, -⟩ := q1
          simp only at q1 q2
          obtain ⟨v1, o1, hc1⟩ := PQ_f (hs0 (1 + a) (by omega) h5) e1
          refine ok_step (ps := []) (L' := [some (.ref 94), none, none, none, none]) (st' := [.ref 94]) (σ' := (α, mm ν (nI a) (-1) (nI op))) (pc' := 1) kX12_unit_0 rfl rfl rf_a0 ?_
          refine ok_V (As := []) (b := 94) (st := []) mkX12_here qX12_unit_1 rfl (rc_94) rfl rfl rfl rfl (by omega) (m_here hE hx (by omega)) ?_
          refine ok_step (ps := []) (L' := [some (.ref 94), some (.int (x a)), none, none, none]) (st' := [.int (nI 33), .int (x a)]) (σ' := (α, mm ν (nI a) (-1) (nI op))) (pc' := 8) kX12_unit_4 rfl rfl rf_a0 ?_
          refine ok_icmp_eq bX12_unit_8 (fun h8 => absurd h8 ((by rw [hc]; decide))) (fun _ => ?_)
          refine ok_step (ps := []) (L' := [some (.ref 94), some (.int (x a)), none, none, none]) (st' := [.int (nI 40), .int (x a)]) (σ' := (α, mm ν (nI a) (-1) (nI op))) (pc' := 14) kX12_unit_11 rfl rfl rf_a0 ?_
          refine ok_icmp_ne bX12_unit_14 (fun h14 => absurd (hc) h14) (fun _ => ?_)
          refine ok_step (ps := []) (L' := [some (.ref 94), some (.int (x a)), none, none, none]) (st' := [.int (nI 5), .int ((mm ν (nI a) (-1) (nI op)) 94 8)]) (σ' := (α, mm ν (nI a) (-1) (nI op))) (pc' := 22) kX12_unit_17 rfl rfl rf_a0 ?_
          try rw [(show (mm ν (nI a) (-1) (nI op)) 94 8 = nI op from rfl)]
          refine ok_icmp_ne bX12_unit_22 (fun _ => ?_) (fun h22 => absurd h22 (fun e => by have := nI_inj e (by omega) (by omega); omega))
          refine ok_step (ps := []) (L' := [some (.ref 94), some (.int (x a)), none, none, none]) (st' := [.int (nI 40), .int (x a)]) (σ' := (α, rf_w (rf_w (mm ν (nI a) (-1) (nI op)) 94 8 (((mm ν (nI a) (-1) (nI op)) 94 8) + (nI 1))) 94 5 (((rf_w (mm ν (nI a) (-1) (nI op)) 94 8 (((mm ν (nI a) (-1) (nI op)) 94 8) + (nI 1))) 94 5) + (nI 1)))) (pc' := 53) kX12_unit_30 rfl rfl rf_a0 ?_
          try rw [(show (mm ν (nI a) (-1) (nI op)) 94 8 = nI op from rfl)]
          try rw [(show ((nI op) + (nI 1)) = nI (1 + op) from rf_eq (rf_nadd (x := nI op) (y := nI 1) rfl rfl) (by omega))]
          try rw [(show (rf_w (mm ν (nI a) (-1) (nI op)) 94 8 (nI (1 + op))) 94 5 = (mm ν (nI a) (-1) (nI op)) 94 5 from by rw [rf_w_at, if_neg (fun h => absurd h.2 (by omega))])]
          try rw [(show (mm ν (nI a) (-1) (nI op)) 94 5 = nI a from rfl)]
          try rw [(show ((nI a) + (nI 1)) = nI (1 + a) from rf_eq (rf_nadd (x := nI a) (y := nI 1) rfl rfl) (by omega))]
          rw [mm_8]
          rw [mm_5]
          refine ok_icmp_ne bX12_unit_53 (fun h53 => absurd (hc) h53) (fun _ => ?_)
          refine ok_step (ps := []) (L' := [some (.ref 94), some (.int (x a)), none, none, none]) (st' := [.ref 94]) (σ' := (α, mm ν (nI (1 + a)) (-1) (nI (1 + op)))) (pc' := 57) kX12_unit_56 rfl rfl rf_a0 ?_
          refine ok_V (As := []) (b := 94) (st := []) mkX12_either qX12_unit_57 rfl (rc_94) rfl rfl rfl rfl (by omega) (hc1) ?_
          refine ok_goto bX12_unit_60 ?_
          refine ok_step (ps := []) (L' := [some (.ref 94), some (.int (x a)), some (.int v1), none, none]) (st' := [.int (nI 40), .int (x a)]) (σ' := (α, mm ν (nI a2) (nI a2) o1)) (pc' := 71) kX12_unit_67 rfl rfl rf_a0 ?_
          refine ok_icmp_ne bX12_unit_71 (fun h71 => absurd (hc) h71) (fun _ => ?_)
          refine ok_step (ps := []) (L' := [some (.ref 94), some (.int (x a)), some (.int v1), none, none]) (st' := [.int (nI 41), .ref 94]) (σ' := (α, mm ν (nI a2) (nI a2) o1)) (pc' := 77) kX12_unit_74 rfl rfl rf_a0 ?_
          refine ok_V (As := [.int (nI 41)]) (b := 94) (st := []) mkX12_takes qX12_unit_77 rfl (rc_94) rfl rfl rfl rfl (by omega) (m_takes_f hE (by omega) (by decide)) ?_
          refine ok_if_ne bX12_unit_80 (fun h80 => absurd ((by decide)) h80) (fun _ => ?_)
          refine ok_step (ps := []) (L' := [some (.ref 94), some (.int (x a)), some (.int v1), none, none]) (st' := [.ref 94]) (σ' := (α, mm ν (nI a2) (nI a2) o1)) (pc' := 84) kX12_unit_83 rfl rfl rf_a0 ?_
          refine ok_V (As := []) (b := 94) (st := []) mkX12_wrong qX12_unit_84 rfl (rc_94) rfl rfl rfl rfl (by omega) (m_wrong_f hE (by omega)) ?_
          refine ok_reti eX12_unit_87 rfl ?_
          exact Or.inr ⟨rfl, _, _, rfl, rfl⟩
        · have q1 := hk0 (1 + a) (by omega)
          have q4 := hv0 (1 + a) (by omega)
          rw [e1] at q1 q4
          obtain ⟨q1, q2, -⟩ := q1
          simp only at q1 q2
          replace q4 : EV (ν 98) c2 := q4 rfl
          have hc1 := PQ_t (hs0 (1 + a) (by omega) h5) e1
          show rf_Ok _ _ _ _ _ _ _ (PQ α ν (nI op) (if x a2 = 41 then (true, a2 + 1, c2) else (false, a2, c2)))
          by_cases h4 : x a2 = nI 41
          · rw [if_pos (show x a2 = 41 from h4), Nat.add_comm a2 1]
            refine ok_step (ps := []) (L' := [some (.ref 94), none, none, none, none]) (st' := [.ref 94]) (σ' := (α, mm ν (nI a) (-1) (nI op))) (pc' := 1) kX12_unit_0 rfl rfl rf_a0 ?_
            refine ok_V (As := []) (b := 94) (st := []) mkX12_here qX12_unit_1 rfl (rc_94) rfl rfl rfl rfl (by omega) (m_here hE hx (by omega)) ?_
            refine ok_step (ps := []) (L' := [some (.ref 94), some (.int (x a)), none, none, none]) (st' := [.int (nI 33), .int (x a)]) (σ' := (α, mm ν (nI a) (-1) (nI op))) (pc' := 8) kX12_unit_4 rfl rfl rf_a0 ?_
            refine ok_icmp_eq bX12_unit_8 (fun h8 => absurd h8 ((by rw [hc]; decide))) (fun _ => ?_)
            refine ok_step (ps := []) (L' := [some (.ref 94), some (.int (x a)), none, none, none]) (st' := [.int (nI 40), .int (x a)]) (σ' := (α, mm ν (nI a) (-1) (nI op))) (pc' := 14) kX12_unit_11 rfl rfl rf_a0 ?_
            refine ok_icmp_ne bX12_unit_14 (fun h14 => absurd (hc) h14) (fun _ => ?_)
            refine ok_step (ps := []) (L' := [some (.ref 94), some (.int (x a)), none, none, none]) (st' := [.int (nI 5), .int ((mm ν (nI a) (-1) (nI op)) 94 8)]) (σ' := (α, mm ν (nI a) (-1) (nI op))) (pc' := 22) kX12_unit_17 rfl rfl rf_a0 ?_
            try rw [(show (mm ν (nI a) (-1) (nI op)) 94 8 = nI op from rfl)]
            refine ok_icmp_ne bX12_unit_22 (fun _ => ?_) (fun h22 => absurd h22 (fun e => by have := nI_inj e (by omega) (by omega); omega))
            refine ok_step (ps := []) (L' := [some (.ref 94), some (.int (x a)), none, none, none]) (st' := [.int (nI 40), .int (x a)]) (σ' := (α, rf_w (rf_w (mm ν (nI a) (-1) (nI op)) 94 8 (((mm ν (nI a) (-1) (nI op)) 94 8) + (nI 1))) 94 5 (((rf_w (mm ν (nI a) (-1) (nI op)) 94 8 (((mm ν (nI a) (-1) (nI op)) 94 8) + (nI 1))) 94 5) + (nI 1)))) (pc' := 53) kX12_unit_30 rfl rfl rf_a0 ?_
            try rw [(show (mm ν (nI a) (-1) (nI op)) 94 8 = nI op from rfl)]
            try rw [(show ((nI op) + (nI 1)) = nI (1 + op) from rf_eq (rf_nadd (x := nI op) (y := nI 1) rfl rfl) (by omega))]
            try rw [(show (rf_w (mm ν (nI a) (-1) (nI op)) 94 8 (nI (1 + op))) 94 5 = (mm ν (nI a) (-1) (nI op)) 94 5 from by rw [rf_w_at, if_neg (fun h => absurd h.2 (by omega))])]
            try rw [(show (mm ν (nI a) (-1) (nI op)) 94 5 = nI a from rfl)]
            try rw [(show ((nI a) + (nI 1)) = nI (1 + a) from rf_eq (rf_nadd (x := nI a) (y := nI 1) rfl rfl) (by omega))]
            rw [mm_8]
            rw [mm_5]
            refine ok_icmp_ne bX12_unit_53 (fun h53 => absurd (hc) h53) (fun _ => ?_)
            refine ok_step (ps := []) (L' := [some (.ref 94), some (.int (x a)), none, none, none]) (st' := [.ref 94]) (σ' := (α, mm ν (nI (1 + a)) (-1) (nI (1 + op)))) (pc' := 57) kX12_unit_56 rfl rfl rf_a0 ?_
            refine ok_V (As := []) (b := 94) (st := []) mkX12_either qX12_unit_57 rfl (rc_94) rfl rfl rfl rfl (by omega) (hc1) ?_
            refine ok_goto bX12_unit_60 ?_
            refine ok_step (ps := []) (L' := [some (.ref 94), some (.int (x a)), some (.int (evl (ν 98) c2)), none, none]) (st' := [.int (nI 40), .int (x a)]) (σ' := (α, mm ν (nI a2) (-1) (nI (1 + op)))) (pc' := 71) kX12_unit_67 rfl rfl rf_a0 ?_
            refine ok_icmp_ne bX12_unit_71 (fun h71 => absurd (hc) h71) (fun _ => ?_)
            refine ok_step (ps := []) (L' := [some (.ref 94), some (.int (x a)), some (.int (evl (ν 98) c2)), none, none]) (st' := [.int (nI 41), .ref 94]) (σ' := (α, mm ν (nI a2) (-1) (nI (1 + op)))) (pc' := 77) kX12_unit_74 rfl rfl rf_a0 ?_
            refine ok_V (As := [.int (nI 41)]) (b := 94) (st := []) mkX12_takes qX12_unit_77 rfl (rc_94) rfl rfl rfl rfl (by omega) (m_takes_t hE hx (by omega) h4) ?_
            refine ok_if_ne bX12_unit_80 (fun _ => ?_) (fun h80 => absurd h80 ((by decide)))
            refine ok_step (ps := []) (L' := [some (.ref 94), some (.int (x a)), some (.int (evl (ν 98) c2)), none, none]) (st' := [.int (nI 40), .int (x a)]) (σ' := (α, rf_w (mm ν (nI (1 + a2)) (-1) (nI (1 + op))) 94 8 (((mm ν (nI (1 + a2)) (-1) (nI (1 + op))) 94 8) - (nI 1)))) (pc' := 101) kX12_unit_88 rfl rfl rf_a0 ?_
            try rw [(show (mm ν (nI (1 + a2)) (-1) (nI (1 + op))) 94 8 = nI (1 + op) from rfl)]
            try rw [(show ((nI (1 + op)) - (nI 1)) = nI op from rf_eq (rf_nsub (x := nI (1 + op)) (y := nI 1) rfl rfl (by omega)) (by omega))]
            rw [mm_8]
            refine ok_icmp_ne bX12_unit_101 (fun h101 => absurd (hc) h101) (fun _ => ?_)
            refine ok_step (ps := []) (L' := [some (.ref 94), some (.int (x a)), some (.int (evl (ν 98) c2)), none, none]) (st' := [.int (evl (ν 98) c2)]) (σ' := (α, mm ν (nI (1 + a2)) (-1) (nI op))) (pc' := 105) kX12_unit_104 rfl rfl rf_a0 ?_
            refine ok_goto bX12_unit_105 ?_
            refine ok_reti eX12_unit_117 rfl ?_
            exact Or.inl ⟨rfl, rfl, rfl⟩
          · rw [if_neg (show ¬ x a2 = 41 from h4)]
            refine ok_step (ps := []) (L' := [some (.ref 94), none, none, none, none]) (st' := [.ref 94]) (σ' := (α, mm ν (nI a) (-1) (nI op))) (pc' := 1) kX12_unit_0 rfl rfl rf_a0 ?_
            refine ok_V (As := []) (b := 94) (st := []) mkX12_here qX12_unit_1 rfl (rc_94) rfl rfl rfl rfl (by omega) (m_here hE hx (by omega)) ?_
            refine ok_step (ps := []) (L' := [some (.ref 94), some (.int (x a)), none, none, none]) (st' := [.int (nI 33), .int (x a)]) (σ' := (α, mm ν (nI a) (-1) (nI op))) (pc' := 8) kX12_unit_4 rfl rfl rf_a0 ?_
            refine ok_icmp_eq bX12_unit_8 (fun h8 => absurd h8 ((by rw [hc]; decide))) (fun _ => ?_)
            refine ok_step (ps := []) (L' := [some (.ref 94), some (.int (x a)), none, none, none]) (st' := [.int (nI 40), .int (x a)]) (σ' := (α, mm ν (nI a) (-1) (nI op))) (pc' := 14) kX12_unit_11 rfl rfl rf_a0 ?_
            refine ok_icmp_ne bX12_unit_14 (fun h14 => absurd (hc) h14) (fun _ => ?_)
            refine ok_step (ps := []) (L' := [some (.ref 94), some (.int (x a)), none, none, none]) (st' := [.int (nI 5), .int ((mm ν (nI a) (-1) (nI op)) 94 8)]) (σ' := (α, mm ν (nI a) (-1) (nI op))) (pc' := 22) kX12_unit_17 rfl rfl rf_a0 ?_
            try rw [(show (mm ν (nI a) (-1) (nI op)) 94 8 = nI op from rfl)]
            refine ok_icmp_ne bX12_unit_22 (fun _ => ?_) (fun h22 => absurd h22 (fun e => by have := nI_inj e (by omega) (by omega); omega))
            refine ok_step (ps := []) (L' := [some (.ref 94), some (.int (x a)), none, none, none]) (st' := [.int (nI 40), .int (x a)]) (σ' := (α, rf_w (rf_w (mm ν (nI a) (-1) (nI op)) 94 8 (((mm ν (nI a) (-1) (nI op)) 94 8) + (nI 1))) 94 5 (((rf_w (mm ν (nI a) (-1) (nI op)) 94 8 (((mm ν (nI a) (-1) (nI op)) 94 8) + (nI 1))) 94 5) + (nI 1)))) (pc' := 53) kX12_unit_30 rfl rfl rf_a0 ?_
            try rw [(show (mm ν (nI a) (-1) (nI op)) 94 8 = nI op from rfl)]
            try rw [(show ((nI op) + (nI 1)) = nI (1 + op) from rf_eq (rf_nadd (x := nI op) (y := nI 1) rfl rfl) (by omega))]
            try rw [(show (rf_w (mm ν (nI a) (-1) (nI op)) 94 8 (nI (1 + op))) 94 5 = (mm ν (nI a) (-1) (nI op)) 94 5 from by rw [rf_w_at, if_neg (fun h => absurd h.2 (by omega))])]
            try rw [(show (mm ν (nI a) (-1) (nI op)) 94 5 = nI a from rfl)]
            try rw [(show ((nI a) + (nI 1)) = nI (1 + a) from rf_eq (rf_nadd (x := nI a) (y := nI 1) rfl rfl) (by omega))]
            rw [mm_8]
            rw [mm_5]
            refine ok_icmp_ne bX12_unit_53 (fun h53 => absurd (hc) h53) (fun _ => ?_)
            refine ok_step (ps := []) (L' := [some (.ref 94), some (.int (x a)), none, none, none]) (st' := [.ref 94]) (σ' := (α, mm ν (nI (1 + a)) (-1) (nI (1 + op)))) (pc' := 57) kX12_unit_56 rfl rfl rf_a0 ?_
            refine ok_V (As := []) (b := 94) (st := []) mkX12_either qX12_unit_57 rfl (rc_94) rfl rfl rfl rfl (by omega) (hc1) ?_
            refine ok_goto bX12_unit_60 ?_
            refine ok_step (ps := []) (L' := [some (.ref 94), some (.int (x a)), some (.int (evl (ν 98) c2)), none, none]) (st' := [.int (nI 40), .int (x a)]) (σ' := (α, mm ν (nI a2) (-1) (nI (1 + op)))) (pc' := 71) kX12_unit_67 rfl rfl rf_a0 ?_
            refine ok_icmp_ne bX12_unit_71 (fun h71 => absurd (hc) h71) (fun _ => ?_)
            refine ok_step (ps := []) (L' := [some (.ref 94), some (.int (x a)), some (.int (evl (ν 98) c2)), none, none]) (st' := [.int (nI 41), .ref 94]) (σ' := (α, mm ν (nI a2) (-1) (nI (1 + op)))) (pc' := 77) kX12_unit_74 rfl rfl rf_a0 ?_
            refine ok_V (As := [.int (nI 41)]) (b := 94) (st := []) mkX12_takes qX12_unit_77 rfl (rc_94) rfl rfl rfl rfl (by omega) (m_takes_n hE hx (by omega) h4) ?_
            refine ok_if_ne bX12_unit_80 (fun h80 => absurd ((by decide)) h80) (fun _ => ?_)
            refine ok_step (ps := []) (L' := [some (.ref 94), some (.int (x a)), some (.int (evl (ν 98) c2)), none, none]) (st' := [.ref 94]) (σ' := (α, mm ν (nI a2) (-1) (nI (1 + op)))) (pc' := 84) kX12_unit_83 rfl rfl rf_a0 ?_
            refine ok_V (As := []) (b := 94) (st := []) mkX12_wrong qX12_unit_84 rfl (rc_94) rfl rfl rfl rfl (by omega) (m_wrong hE) ?_
            refine ok_reti eX12_unit_87 rfl ?_
            exact Or.inr ⟨rfl, _, _, rfl, rfl⟩
    · rw [if_neg h5]
      obtain rfl : op = 5 := by omega
      rcases hb with hb | hb
      · have hc : x a = nI 33 := hb
        refine ok_step (ps := []) (L' := [some (.ref 94), none, none, none, none]) (st' := [.ref 94]) (σ' := (α, mm ν (nI a) (-1) (nI 5))) (pc' := 1) kX12_unit_0 rfl rfl rf_a0 ?_
        refine ok_V (As := []) (b := 94) (st := []) mkX12_here qX12_unit_1 rfl (rc_94) rfl rfl rfl rfl (by omega) (m_here hE hx (by omega)) ?_
        refine ok_step (ps := []) (L' := [some (.ref 94), some (.int (x a)), none, none, none]) (st' := [.int (nI 33), .int (x a)]) (σ' := (α, mm ν (nI a) (-1) (nI 5))) (pc' := 8) kX12_unit_4 rfl rfl rf_a0 ?_
        refine ok_icmp_eq bX12_unit_8 (fun _ => ?_) (fun h8 => absurd (hc) h8)
        refine ok_step (ps := []) (L' := [some (.ref 94), some (.int (x a)), none, none, none]) (st' := [.int (nI 5), .int ((mm ν (nI a) (-1) (nI 5)) 94 8)]) (σ' := (α, mm ν (nI a) (-1) (nI 5))) (pc' := 22) kX12_unit_17 rfl rfl rf_a0 ?_
        try rw [(show (mm ν (nI a) (-1) (nI 5)) 94 8 = nI 5 from rfl)]
        refine ok_icmp_ne bX12_unit_22 (fun h22 => absurd ((by decide)) h22) (fun _ => ?_)
        refine ok_step (ps := []) (L' := [some (.ref 94), some (.int (x a)), none, none, none]) (st' := [.ref 94]) (σ' := (α, mm ν (nI a) (-1) (nI 5))) (pc' := 26) kX12_unit_25 rfl rfl rf_a0 ?_
        refine ok_V (As := []) (b := 94) (st := []) mkX12_wrong qX12_unit_26 rfl (rc_94) rfl rfl rfl rfl (by omega) (m_wrong hE) ?_
        refine ok_reti eX12_unit_29 rfl ?_
        exact Or.inr ⟨rfl, _, _, rfl, rfl⟩
      · have hc : x a = nI 40 := hb
        refine ok_step (ps := []) (L' := [some (.ref 94), none, none, none, none]) (st' := [.ref 94]) (σ' := (α, mm ν (nI a) (-1) (nI 5))) (pc' := 1) kX12_unit_0 rfl rfl rf_a0 ?_
        refine ok_V (As := []) (b := 94) (st := []) mkX12_here qX12_unit_1 rfl (rc_94) rfl rfl rfl rfl (by omega) (m_here hE hx (by omega)) ?_
        refine ok_step (ps := []) (L' := [some (.ref 94), some (.int (x a)), none, none, none]) (st' := [.int (nI 33), .int (x a)]) (σ' := (α, mm ν (nI a) (-1) (nI 5))) (pc' := 8) kX12_unit_4 rfl rfl rf_a0 ?_
        refine ok_icmp_eq bX12_unit_8 (fun h8 => absurd h8 ((by rw [hc]; decide))) (fun _ => ?_)
        refine ok_step (ps := []) (L' := [some (.ref 94), some (.int (x a)), none, none, none]) (st' := [.int (nI 40), .int (x a)]) (σ' := (α, mm ν (nI a) (-1) (nI 5))) (pc' := 14) kX12_unit_11 rfl rfl rf_a0 ?_
        refine ok_icmp_ne bX12_unit_14 (fun h14 => absurd (hc) h14) (fun _ => ?_)
        refine ok_step (ps := []) (L' := [some (.ref 94), some (.int (x a)), none, none, none]) (st' := [.int (nI 5), .int ((mm ν (nI a) (-1) (nI 5)) 94 8)]) (σ' := (α, mm ν (nI a) (-1) (nI 5))) (pc' := 22) kX12_unit_17 rfl rfl rf_a0 ?_
        try rw [(show (mm ν (nI a) (-1) (nI 5)) 94 8 = nI 5 from rfl)]
        refine ok_icmp_ne bX12_unit_22 (fun h22 => absurd ((by decide)) h22) (fun _ => ?_)
        refine ok_step (ps := []) (L' := [some (.ref 94), some (.int (x a)), none, none, none]) (st' := [.ref 94]) (σ' := (α, mm ν (nI a) (-1) (nI 5))) (pc' := 26) kX12_unit_25 rfl rfl rf_a0 ?_
        refine ok_V (As := []) (b := 94) (st := []) mkX12_wrong qX12_unit_26 rfl (rc_94) rfl rfl rfl rfl (by omega) (m_wrong hE) ?_
        refine ok_reti eX12_unit_29 rfl ?_
        exact Or.inr ⟨rfl, _, _, rfl, rfl⟩
  · rw [if_neg hb]
    have n33 : ¬ x a = nI 33 := fun e => hb (Or.inl e)
    have n40 : ¬ x a = nI 40 := fun e => hb (Or.inr e)
    by_cases hd : dgt (x a) = true
    · rw [if_pos hd]
      have han : a < n := nx_lt (fun a h => nxb_y hx h) (fun e => by rw [e] at hd; exact absurd hd (by decide))
      have hm := prn_ok (n := n) (x := x) (fun a h => nxb_y hx h) 4 a 0 1 ha (by decide) (by decide)
      obtain ⟨m, hm1, hm2⟩ := hm.2.2
      have ep : prn x 4 a 0 = prn x 3 (a + 1) (0 * 10 + x a - 48) := by rw [prn, if_pos hd]
      refine ok_step (ps := []) (L' := [some (.ref 94), none, none, none, none]) (st' := [.ref 94]) (σ' := (α, mm ν (nI a) (-1) (nI op))) (pc' := 1) kX12_unit_0 rfl rfl rf_a0 ?_
      refine ok_V (As := []) (b := 94) (st := []) mkX12_here qX12_unit_1 rfl (rc_94) rfl rfl rfl rfl (by omega) (m_here hE hx (by omega)) ?_
      refine ok_step (ps := []) (L' := [some (.ref 94), some (.int (x a)), none, none, none]) (st' := [.int (nI 33), .int (x a)]) (σ' := (α, mm ν (nI a) (-1) (nI op))) (pc' := 8) kX12_unit_4 rfl rfl rf_a0 ?_
      refine ok_icmp_eq bX12_unit_8 (fun h8 => absurd h8 (n33)) (fun _ => ?_)
      refine ok_step (ps := []) (L' := [some (.ref 94), some (.int (x a)), none, none, none]) (st' := [.int (nI 40), .int (x a)]) (σ' := (α, mm ν (nI a) (-1) (nI op))) (pc' := 14) kX12_unit_11 rfl rfl rf_a0 ?_
      refine ok_icmp_ne bX12_unit_14 (fun _ => ?_) (fun h14 => absurd h14 (n40))
      refine ok_step (ps := []) (L' := [some (.ref 94), some (.int (x a)), none, none, none]) (st' := [.int (x a), .ref 94]) (σ' := (α, mm ν (nI a) (-1) (nI op))) (pc' := 120) kX12_unit_118 rfl rfl rf_a0 ?_
      refine ok_V (As := [.int (x a)]) (b := 94) (st := []) mkX12_nameOf qX12_unit_120 rfl (rc_94) rfl rfl rfl rfl (by omega) (m_nameOf hE) ?_
      refine ok_step (ps := []) (L' := [some (.ref 94), some (.int (x a)), some (.int (nmi u (x a))), none, none]) (st' := [.int (nmi u (x a))]) (σ' := (α, mm ν (nI a) (-1) (nI op))) (pc' := 125) kX12_unit_123 rfl rfl rf_a0 ?_
      refine ok_if_lt bX12_unit_125 (fun _ => ?_) (fun h125 => absurd (nmi_d hd) h125)
      refine ok_step (ps := []) (L' := [some (.ref 94), some (.int (x a)), some (.int (nmi u (x a))), some (.int (nI 0)), some (.int (nI 0))]) (st' := []) (σ' := (α, mm ν (nI a) (-1) (nI op))) (pc' := 150) kX12_unit_145 rfl rfl rf_a0 ?_
      refine ok_step (ps := []) (L' := [some (.ref 94), some (.int (x a)), some (.int (nmi u (x a))), some (.int (nI 0)), some (.int (nI 0))]) (st' := [.int (nI 4), .int (nI 0)]) (σ' := (α, mm ν (nI a) (-1) (nI op))) (pc' := 153) kX12_unit_150 rfl rfl rf_a0 ?_
      refine ok_icmp_ge bX12_unit_153 (fun h153 => absurd h153 ((by decide))) (fun _ => ?_)
      refine ok_step (ps := []) (L' := [some (.ref 94), some (.int (x a)), some (.int (nmi u (x a))), some (.int (nI 0)), some (.int (nI 0))]) (st' := [.ref 94]) (σ' := (α, mm ν (nI a) (-1) (nI op))) (pc' := 157) kX12_unit_156 rfl rfl rf_a0 ?_
      refine ok_V (As := []) (b := 94) (st := []) mkX12_here qX12_unit_157 rfl (rc_94) rfl rfl rfl rfl (by omega) (m_here hE hx (by omega)) ?_
      refine ok_step (ps := []) (L' := [some (.ref 94), some (.int (x a)), some (.int (nmi u (x a))), some (.int (nI 0)), some (.int (nI 0))]) (st' := [.long (lN 57), .long (lN 48), .long ((x a).toInt64)]) (σ' := (α, mm ν (nI a) (-1) (nI op))) (pc' := 167) kX12_unit_160 rfl rfl rf_a0 ?_
      refine ok_S (As := [.long ((x a).toInt64), .long (lN 48), .long (lN 57)]) (st := []) mkX12_in qX12_unit_167 rfl rfl rfl rfl rfl (by omega) (m_in) ?_
      rw [show wl ((x a).toInt64) (lN 48) (lN 57) = wi (x a) (nI 48) (nI 57) from wl_of rfl (nI_l (by decide)).symm (nI_l (by decide)).symm]
      refine ok_if_eq bX12_unit_170 (fun h170 => absurd h170 (bI_n0.mpr hd)) (fun _ => ?_)
      refine ok_step (ps := []) (L' := [some (.ref 94), some (.int (x a)), some (.int (nmi u (x a))), some (.int (nI 0)), some (.int (nI 0))]) (st' := [.ref 94, .int ((nI 10) * (nI 0))]) (σ' := (α, mm ν (nI a) (-1) (nI op))) (pc' := 178) kX12_unit_173 rfl rfl rf_a0 ?_
      try rw [(show ((nI 10) * (nI 0)) = nI 0 from rf_eq (rf_nmul (x := nI 10) (y := nI 0) rfl rfl) (by omega))]
      refine ok_V (As := []) (b := 94) (st := [.int (nI 0)]) mkX12_here qX12_unit_178 rfl (rc_94) rfl rfl rfl rfl (by omega) (m_here hE hx (by omega)) ?_
      refine ok_step (ps := []) (L' := [some (.ref 94), some (.int (x a)), some (.int (nmi u (x a))), some (.int (((nI 0) + (x a)) - (nI 48))), some (.int ((nI 0) + (nI 1)))]) (st' := []) (σ' := (α, rf_w (mm ν (nI a) (-1) (nI op)) 94 5 (((mm ν (nI a) (-1) (nI op)) 94 5) + (nI 1)))) (pc' := 199) kX12_unit_181 rfl rfl rf_a0 ?_
      try rw [(show (mm ν (nI a) (-1) (nI op)) 94 5 = nI a from rfl)]
      try rw [(show ((nI a) + (nI 1)) = nI (1 + a) from rf_eq (rf_nadd (x := nI a) (y := nI 1) rfl rfl) (by omega))]
      try rw [(show ((nI 0) + (nI 1)) = nI 1 from rf_eq (rf_nadd (x := nI 0) (y := nI 1) rfl rfl) (by omega))]
      rw [mm_5]
      refine ok_goto bX12_unit_199 ?_
      rw [show (nI 0 + x a - nI 48 : Int32) = 0 * 10 + x a - 48 from rfl, Nat.add_comm 1 a]
      refine (m_dig hE hx 3 (a + 1) 1 (0 * 10 + x a - 48) (by omega) (by omega) (by omega)).mono (fun r s hq => ?_)
      obtain ⟨rfl, rfl⟩ := hq
      rw [← ep]
      replace hm2 : (prn x 4 a 0).2 = nI m := hm2
      exact Or.inl ⟨rfl, by rw [hm2, (ev_num hm1).1], rfl⟩
    · rw [if_neg hd]
      by_cases hk : nmi u (x a) < 0
      · rw [if_pos hk]
        refine ok_step (ps := []) (L' := [some (.ref 94), none, none, none, none]) (st' := [.ref 94]) (σ' := (α, mm ν (nI a) (-1) (nI op))) (pc' := 1) kX12_unit_0 rfl rfl rf_a0 ?_
        refine ok_V (As := []) (b := 94) (st := []) mkX12_here qX12_unit_1 rfl (rc_94) rfl rfl rfl rfl (by omega) (m_here hE hx (by omega)) ?_
        refine ok_step (ps := []) (L' := [some (.ref 94), some (.int (x a)), none, none, none]) (st' := [.int (nI 33), .int (x a)]) (σ' := (α, mm ν (nI a) (-1) (nI op))) (pc' := 8) kX12_unit_4 rfl rfl rf_a0 ?_
        refine ok_icmp_eq bX12_unit_8 (fun h8 => absurd h8 (n33)) (fun _ => ?_)
        refine ok_step (ps := []) (L' := [some (.ref 94), some (.int (x a)), none, none, none]) (st' := [.int (nI 40), .int (x a)]) (σ' := (α, mm ν (nI a) (-1) (nI op))) (pc' := 14) kX12_unit_11 rfl rfl rf_a0 ?_
        refine ok_icmp_ne bX12_unit_14 (fun _ => ?_) (fun h14 => absurd h14 (n40))
        refine ok_step (ps := []) (L' := [some (.ref 94), some (.int (x a)), none, none, none]) (st' := [.int (x a), .ref 94]) (σ' := (α, mm ν (nI a) (-1) (nI op))) (pc' := 120) kX12_unit_118 rfl rfl rf_a0 ?_
        refine ok_V (As := [.int (x a)]) (b := 94) (st := []) mkX12_nameOf qX12_unit_120 rfl (rc_94) rfl rfl rfl rfl (by omega) (m_nameOf hE) ?_
        refine ok_step (ps := []) (L' := [some (.ref 94), some (.int (x a)), some (.int (nmi u (x a))), none, none]) (st' := [.int (nmi u (x a))]) (σ' := (α, mm ν (nI a) (-1) (nI op))) (pc' := 125) kX12_unit_123 rfl rfl rf_a0 ?_
        refine ok_if_lt bX12_unit_125 (fun _ => ?_) (fun h125 => absurd (hk) h125)
        refine ok_step (ps := []) (L' := [some (.ref 94), some (.int (x a)), some (.int (nmi u (x a))), some (.int (nI 0)), some (.int (nI 0))]) (st' := []) (σ' := (α, mm ν (nI a) (-1) (nI op))) (pc' := 150) kX12_unit_145 rfl rfl rf_a0 ?_
        refine ok_step (ps := []) (L' := [some (.ref 94), some (.int (x a)), some (.int (nmi u (x a))), some (.int (nI 0)), some (.int (nI 0))]) (st' := [.int (nI 4), .int (nI 0)]) (σ' := (α, mm ν (nI a) (-1) (nI op))) (pc' := 153) kX12_unit_150 rfl rfl rf_a0 ?_
        refine ok_icmp_ge bX12_unit_153 (fun h153 => absurd h153 ((by decide))) (fun _ => ?_)
        refine ok_step (ps := []) (L' := [some (.ref 94), some (.int (x a)), some (.int (nmi u (x a))), some (.int (nI 0)), some (.int (nI 0))]) (st' := [.ref 94]) (σ' := (α, mm ν (nI a) (-1) (nI op))) (pc' := 157) kX12_unit_156 rfl rfl rf_a0 ?_
        refine ok_V (As := []) (b := 94) (st := []) mkX12_here qX12_unit_157 rfl (rc_94) rfl rfl rfl rfl (by omega) (m_here hE hx (by omega)) ?_
        refine ok_step (ps := []) (L' := [some (.ref 94), some (.int (x a)), some (.int (nmi u (x a))), some (.int (nI 0)), some (.int (nI 0))]) (st' := [.long (lN 57), .long (lN 48), .long ((x a).toInt64)]) (σ' := (α, mm ν (nI a) (-1) (nI op))) (pc' := 167) kX12_unit_160 rfl rfl rf_a0 ?_
        refine ok_S (As := [.long ((x a).toInt64), .long (lN 48), .long (lN 57)]) (st := []) mkX12_in qX12_unit_167 rfl rfl rfl rfl rfl (by omega) (m_in) ?_
        rw [show wl ((x a).toInt64) (lN 48) (lN 57) = wi (x a) (nI 48) (nI 57) from wl_of rfl (nI_l (by decide)).symm (nI_l (by decide)).symm]
        refine ok_if_eq bX12_unit_170 (fun _ => ?_) (fun h170 => absurd (bI_0.mpr (show dgt (x a) = false by simpa using hd)) h170)
        refine ok_step (ps := []) (L' := [some (.ref 94), some (.int (x a)), some (.int (nmi u (x a))), some (.int (nI 0)), some (.int (nI 0))]) (st' := [.int (nI 0)]) (σ' := (α, mm ν (nI a) (-1) (nI op))) (pc' := 204) kX12_unit_202 rfl rfl rf_a0 ?_
        refine ok_if_ne bX12_unit_204 (fun h204 => absurd ((by decide)) h204) (fun _ => ?_)
        refine ok_step (ps := []) (L' := [some (.ref 94), some (.int (x a)), some (.int (nmi u (x a))), some (.int (nI 0)), some (.int (nI 0))]) (st' := [.ref 94]) (σ' := (α, mm ν (nI a) (-1) (nI op))) (pc' := 208) kX12_unit_207 rfl rfl rf_a0 ?_
        refine ok_V (As := []) (b := 94) (st := []) mkX12_wrong qX12_unit_208 rfl (rc_94) rfl rfl rfl rfl (by omega) (m_wrong hE) ?_
        refine ok_goto bX12_unit_211 ?_
        refine ok_reti eX12_unit_215 rfl ?_
        exact Or.inr ⟨rfl, _, _, rfl, rfl⟩
      · rw [if_neg hk]
        obtain ⟨k, k1, k2, k3⟩ := nmi_k hE.1 hk
        have han : a < n := nx_lt (fun a h => nxb_y hx h) k3
        rw [k2, Nat.add_comm a 1]
        have hk : ¬ nI k < 0 := nI_pos (by omega)
        refine ok_step (ps := []) (L' := [some (.ref 94), none, none, none, none]) (st' := [.ref 94]) (σ' := (α, mm ν (nI a) (-1) (nI op))) (pc' := 1) kX12_unit_0 rfl rfl rf_a0 ?_
        refine ok_V (As := []) (b := 94) (st := []) mkX12_here qX12_unit_1 rfl (rc_94) rfl rfl rfl rfl (by omega) (m_here hE hx (by omega)) ?_
        refine ok_step (ps := []) (L' := [some (.ref 94), some (.int (x a)), none, none, none]) (st' := [.int (nI 33), .int (x a)]) (σ' := (α, mm ν (nI a) (-1) (nI op))) (pc' := 8) kX12_unit_4 rfl rfl rf_a0 ?_
        refine ok_icmp_eq bX12_unit_8 (fun h8 => absurd h8 (n33)) (fun _ => ?_)
        refine ok_step (ps := []) (L' := [some (.ref 94), some (.int (x a)), none, none, none]) (st' := [.int (nI 40), .int (x a)]) (σ' := (α, mm ν (nI a) (-1) (nI op))) (pc' := 14) kX12_unit_11 rfl rfl rf_a0 ?_
        refine ok_icmp_ne bX12_unit_14 (fun _ => ?_) (fun h14 => absurd h14 (n40))
        refine ok_step (ps := []) (L' := [some (.ref 94), some (.int (x a)), none, none, none]) (st' := [.int (x a), .ref 94]) (σ' := (α, mm ν (nI a) (-1) (nI op))) (pc' := 120) kX12_unit_118 rfl rfl rf_a0 ?_
        refine ok_V (As := [.int (x a)]) (b := 94) (st := []) mkX12_nameOf qX12_unit_120 rfl (rc_94) rfl rfl rfl rfl (by omega) (m_nameOf hE) ?_
        rw [k2]
        refine ok_step (ps := []) (L' := [some (.ref 94), some (.int (x a)), some (.int (nI k)), none, none]) (st' := [.int (nI k)]) (σ' := (α, mm ν (nI a) (-1) (nI op))) (pc' := 125) kX12_unit_123 rfl rfl rf_a0 ?_
        refine ok_if_lt bX12_unit_125 (fun h125 => absurd h125 (hk)) (fun _ => ?_)
        refine ok_step (ps := [rf_in (nI k) 5]) (L' := [some (.ref 94), some (.int (x a)), some (.int (nI k)), none, none]) (st' := [.int ((rf_w (mm ν (nI a) (-1) (nI op)) 94 5 (((mm ν (nI a) (-1) (nI op)) 94 5) + (nI 1))) 98 ((nI k).toNatClampNeg))]) (σ' := (α, rf_w (mm ν (nI a) (-1) (nI op)) 94 5 (((mm ν (nI a) (-1) (nI op)) 94 5) + (nI 1)))) (pc' := 144) kX12_unit_128 rfl rfl (rf_a1 (rf_in_n (a := k) rfl (by omega)) rf_a0) ?_
        try rw [(show (mm ν (nI a) (-1) (nI op)) 94 5 = nI a from rfl)]
        try rw [(show ((nI a) + (nI 1)) = nI (1 + a) from rf_eq (rf_nadd (x := nI a) (y := nI 1) rfl rfl) (by omega))]
        try rw [(show (nI k).toNatClampNeg = k from rf_cl_n rfl (by omega))]
        try rw [(show (rf_w (mm ν (nI a) (-1) (nI op)) 94 5 (nI (1 + a))) 98 k = (mm ν (nI a) (-1) (nI op)) 98 k from by rw [rf_w_at, if_neg (fun h => absurd h.1 (by decide))])]
        try rw [(show (mm ν (nI a) (-1) (nI op)) 98 k = ν 98 k from rfl)]
        rw [mm_5]
        refine ok_reti eX12_unit_144 rfl ?_
        exact Or.inl ⟨rfl, by rw [(ev_nam (by omega)).1], rfl⟩
/-- the methods of the levels -/
def ML : Nat → rf_M
  | 0 => MX12_either
  | 1 => MX12_both
  | 2 => MX12_compared
  | 3 => MX12_sum
  | 4 => MX12_product
  | _ => MX12_unit
def LL : Nat → List (Option Value)
  | 0 => [some (.ref 94), none, none]
  | 1 => [some (.ref 94), none, none]
  | 2 => [some (.ref 94), none, none, none]
  | 3 => [some (.ref 94), none, none, none]
  | 4 => [some (.ref 94), none, none, none]
  | _ => [some (.ref 94), none, none, none, none]
theorem m_lev (hE : En ν u b n) (hx : x = nxb (fun i => ν 95 (b + i)) n) : ∀ (f lev a op : Nat), a ≤ n → lev ≤ 5 → op ≤ 5 → 6 * (5 - op) + (5 - lev) < f → rf_Ok (rf_T Ln xs) (ML lev) (6 * (5 - op) + (5 - lev) + 5) 0 (LL lev) [] (α, mm ν (nI a) (-1) (nI op)) (PQ α ν (nI op) (pr u x f lev a op))
  | 0, lev, a, op, ha, hl, ho, hf => absurd hf (Nat.not_lt_zero _)
  | f + 1, lev, a, op, ha, hl, ho, hf => by
    have ih := m_lev hE hx f
    have hx2 : ∀ a, n ≤ a → x a = -1 := fun a h => nxb_y hx h
    have hk := fun l o2 a ha => pr_ok (u := u) (n := n) (x := x) hE.1 hx2 f l a o2 ha
    have hv := fun l o2 a ha => pr_ev (u := u) (n := n) (x := x) (nm := ν 98) hE.1 hx2 f l a o2 ha
    by_cases h5 : lev < 5
    · have hc : lev = 0 ∨ lev = 1 ∨ lev = 2 ∨ lev = 3 ∨ lev = 4 := by omega
      have hs : ∀ a, a ≤ n → rf_Ok (rf_T Ln xs) (ML (lev + 1)) (6 * (5 - op) + (4 - lev) + 5) 0 (LL (lev + 1)) [] (α, mm ν (nI a) (-1) (nI op)) (PQ α ν (nI op) (pr u x f (lev + 1) a op)) := fun a ha => by
        have := ih (lev + 1) a op ha (by omega) ho (by omega)
        rw [show 5 - (lev + 1) = 4 - lev by omega] at this
        exact this
      unfold pr
      rw [if_pos h5]
      rcases hc with rfl | rfl | rfl | rfl | rfl
      · exact m_either (D := 6 * (5 - op) + 5) hE hx hs (hk 1 op) (hv 1 op) ha
      · exact m_both (D := 6 * (5 - op) + 4) hE hx hs (hk 2 op) (hv 2 op) ha
      · exact m_compared (D := 6 * (5 - op) + 3) hE hx hs (hk 3 op) (hv 3 op) ha
      · exact m_sum (D := 6 * (5 - op) + 2) hE hx hs (hk 4 op) (hv 4 op) ha
      · exact m_product (D := 6 * (5 - op) + 1) hE hx hs (hk 5 op) (hv 5 op) ha
    · obtain rfl : lev = 5 := by omega
      unfold pr
      rw [if_neg h5]
      refine m_unit (g0 := fun a => pr u x f 0 a (op + 1)) (g5 := fun a => pr u x f 5 a (op + 1)) (D := 6 * (5 - op)) hE hx (fun a ha h6 => ?_) (fun a ha h6 => ?_) (hk 0 (op + 1)) (hk 5 (op + 1)) (hv 0 (op + 1)) (hv 5 (op + 1)) ha ho
      · rw [Nat.add_comm 1 op]
        exact (ih 0 a (op + 1) ha (by omega) (by omega) (by omega)).more (by omega)
      · rw [Nat.add_comm 1 op]
        exact (ih 5 a (op + 1) ha (by omega) (by omega) (by omega)).more (by omega)
theorem mm_of {b n u : Int32} : rf_w (rf_w (rf_w (rf_w (rf_w (rf_w ν 94 4 b) 94 5 (nI 0)) 94 6 n) 94 7 (-1)) 94 8 (nI 0)) 94 9 u = mm (rf_w (rf_w (rf_w ν 94 4 b) 94 6 n) 94 9 u) (nI 0) (-1) (nI 0) := by
  funext k i
  unfold mm
  simp only [rf_w_at]
  by_cases h : k = 94
  · subst h
    by_cases h4 : i = 4
    · simp [h4]
    by_cases h5 : i = 5
    · simp [h5]
    by_cases h6 : i = 6
    · simp [h6]
    by_cases h7 : i = 7
    · simp [h7]
    by_cases h8 : i = 8
    · simp [h8]
    by_cases h9 : i = 9
    · simp [h9]
    simp [h4, h5, h6, h7, h8, h9]
  · simp [h]
theorem mm_sB {b n u a fl op : Int32} : sB ν (mm (rf_w (rf_w (rf_w ν 94 4 b) 94 6 n) 94 9 u) a fl op) := by
  refine ⟨fun k h1 _ => ?_, fun i hi => ?_⟩
  · funext i
    unfold mm
    rw [if_neg h1, rf_w_row h1, rf_w_row h1, rf_w_row h1]
  · unfold mm
    rw [if_pos rfl, if_neg (by omega), if_neg (by omega), if_neg (by omega), rf_w_at, if_neg (by omega), rf_w_at, if_neg (by omega), rf_w_at, if_neg (by omega)]
theorem m_worked (hu : u ≤ 1) (hb : b + n ≤ 700) (hn : n ≤ 50) : rf_Ok (rf_T Ln xs) MX12_worked 45 0 [some (.ref 94), some (.int (nI b)), some (.int (nI n)), some (.int (nI u)), none] [] (α, ν) (fun r s => ∃ ν' : Nat → Nat → Int32, s = (α, ν') ∧ sB ν ν' ∧ ν' 98 = ν 98 ∧ (((prt u (fun i => ν 95 (b + i)) n).1 = true ∧ (prt u (fun i => ν 95 (b + i)) n).2.1 = n ∧ r = some (.int (evl (ν 98) (prt u (fun i => ν 95 (b + i)) n).2.2)) ∧ ν' 94 7 = -1) ∨ (¬ ((prt u (fun i => ν 95 (b + i)) n).1 = true ∧ (prt u (fun i => ν 95 (b + i)) n).2.1 = n) ∧ ν' 94 7 = nI (prt u (fun i => ν 95 (b + i)) n).2.1 ∧ ∃ v, r = some (.int v)))) := by
  have hx2 : ∀ a, n ≤ a → nxb (fun i => ν 95 (b + i)) n a = -1 := nxb_x
  have hk := pr_ok (u := u) (n := n) (x := nxb (fun i => ν 95 (b + i)) n) hu hx2 60 0 0 0 (by omega)
  change PK u n 0 (prt u (fun i => ν 95 (b + i)) n) at hk
  have e9 : (if u = 1 then nI 1 else nI 0) = nI u := by
    have : u = 0 ∨ u = 1 := by omega
    rcases this with rfl | rfl <;> rfl
  have key : ∀ v : Int32, v = nI u → rf_Ok (rf_T Ln xs) MX12_worked 45 40 [some (.ref 94), some (.int (nI b)), some (.int (nI n)), some (.int (nI u)), none] [.ref 94] (α, rf_w (rf_w (rf_w (rf_w (rf_w (rf_w ν 94 4 (nI b)) 94 5 (nI 0)) 94 6 (nI n)) 94 7 (-1)) 94 8 (nI 0)) 94 9 v) (fun r s => ∃ ν' : Nat → Nat → Int32, s = (α, ν') ∧ sB ν ν' ∧ ν' 98 = ν 98 ∧ (((prt u (fun i => ν 95 (b + i)) n).1 = true ∧ (prt u (fun i => ν 95 (b + i)) n).2.1 = n ∧ r = some (.int (evl (ν 98) (prt u (fun i => ν 95 (b + i)) n).2.2)) ∧ ν' 94 7 = -1) ∨ (¬ ((prt u (fun i => ν 95 (b + i)) n).1 = true ∧ (prt u (fun i => ν 95 (b + i)) n).2.1 = n) ∧ ν' 94 7 = nI (prt u (fun i => ν 95 (b + i)) n).2.1 ∧ ∃ v, r = some (.int v)))) := by
    intro v hv
    subst hv
    rw [mm_of]
    have hE : En (rf_w (rf_w (rf_w ν 94 4 (nI b)) 94 6 (nI n)) 94 9 (nI u)) u b n := ⟨hu, hb, hn, by simp [rf_w_at], by simp [rf_w_at], by simp [rf_w_at]⟩
    have h98 : rf_w (rf_w (rf_w ν 94 4 (nI b)) 94 6 (nI n)) 94 9 (nI u) 98 = ν 98 := by rw [rf_w_row (by decide), rf_w_row (by decide), rf_w_row (by decide)]
    have h95 : rf_w (rf_w (rf_w ν 94 4 (nI b)) 94 6 (nI n)) 94 9 (nI u) 95 = ν 95 := by rw [rf_w_row (by decide), rf_w_row (by decide), rf_w_row (by decide)]
    have hS := fun a fl op => mm_sB (ν := ν) (b := nI b) (n := nI n) (u := nI u) (a := a) (fl := fl) (op := op)
    have hs := (m_lev (Ln := Ln) (xs := xs) (α := α) (x := nxb (fun i => ν 95 (b + i)) n) hE (by rw [h95]) 60 0 0 0 (by omega) (by omega) (by omega) (by omega))
    change rf_Ok _ MX12_either 40 _ _ _ _ (PQ α _ (nI 0) (prt u (fun i => ν 95 (b + i)) n)) at hs
    generalize prt u (fun i => ν 95 (b + i)) n = Pp at hs hk ⊢
    generalize rf_w (rf_w (rf_w ν 94 4 (nI b)) 94 6 (nI n)) 94 9 (nI u) = ρ at hE h98 h95 hS hs ⊢
    obtain ⟨pb, a2, c2⟩ := Pp
    obtain ⟨k1, k2, -⟩ := hk
    simp only at k1 k2
    cases pb
    · obtain ⟨v1, o1, hc1⟩ := PQ_f hs rfl
      refine ok_V (As := []) (b := 94) (st := []) mkX12_either qX12_worked_40 rfl (rc_94) rfl rfl rfl rfl (Nat.le_of_ble_eq_true rfl) (hc1) ?_
      refine ok_step (ps := []) (L' := [some (.ref 94), some (.int (nI b)), some (.int (nI n)), some (.int (nI u)), some (.int v1)]) (st' := [.int ((mm ρ (nI a2) (nI a2) o1) 94 7)]) (σ' := (α, mm ρ (nI a2) (nI a2) o1)) (pc' := 49) kX12_worked_43 rfl rfl rf_a0 ?_
      try rw [(show (mm ρ (nI a2) (nI a2) o1) 94 7 = nI a2 from rfl)]
      refine ok_if_ge bX12_worked_49 (fun _ => ?_) (fun h49 => absurd (nI_pos' (by omega)) h49)
      refine ok_step (ps := []) (L' := [some (.ref 94), some (.int (nI b)), some (.int (nI n)), some (.int (nI u)), some (.int v1)]) (st' := [.int v1]) (σ' := (α, mm ρ (nI a2) (nI a2) o1)) (pc' := 70) kX12_worked_68 rfl rfl rf_a0 ?_
      refine ok_reti eX12_worked_70 rfl ?_
      exact ⟨_, rfl, hS _ _ _, h98, Or.inr ⟨fun h => Bool.noConfusion h.1, rfl, _, rfl⟩⟩
    · have hc1 := PQ_t hs rfl
      by_cases h2 : a2 = n
      · refine ok_V (As := []) (b := 94) (st := []) mkX12_either qX12_worked_40 rfl (rc_94) rfl rfl rfl rfl (Nat.le_of_ble_eq_true rfl) (hc1) ?_
        refine ok_step (ps := []) (L' := [some (.ref 94), some (.int (nI b)), some (.int (nI n)), some (.int (nI u)), some (.int (evl (ρ 98) c2))]) (st' := [.int ((mm ρ (nI a2) (-1) (nI 0)) 94 7)]) (σ' := (α, mm ρ (nI a2) (-1) (nI 0))) (pc' := 49) kX12_worked_43 rfl rfl rf_a0 ?_
        try rw [(show (mm ρ (nI a2) (-1) (nI 0)) 94 7 = (-1) from rfl)]
        refine ok_if_ge bX12_worked_49 (fun h49 => absurd h49 (show ¬ (0 : Int32) ≤ -1 by decide)) (fun _ => ?_)
        refine ok_step (ps := []) (L' := [some (.ref 94), some (.int (nI b)), some (.int (nI n)), some (.int (nI u)), some (.int (evl (ρ 98) c2))]) (st' := [.int ((mm ρ (nI a2) (-1) (nI 0)) 94 6), .int ((mm ρ (nI a2) (-1) (nI 0)) 94 5)]) (σ' := (α, mm ρ (nI a2) (-1) (nI 0))) (pc' := 60) kX12_worked_52 rfl rfl rf_a0 ?_
        try rw [(show (mm ρ (nI a2) (-1) (nI 0)) 94 5 = nI a2 from rfl)]
        try rw [(show (mm ρ (nI a2) (-1) (nI 0)) 94 6 = nI n from hE.2.2.2.2.1)]
        refine ok_icmp_ge bX12_worked_60 (fun _ => ?_) (fun h60 => absurd (nI_le (by omega) (by omega)) h60)
        refine ok_step (ps := []) (L' := [some (.ref 94), some (.int (nI b)), some (.int (nI n)), some (.int (nI u)), some (.int (evl (ρ 98) c2))]) (st' := [.int (evl (ρ 98) c2)]) (σ' := (α, mm ρ (nI a2) (-1) (nI 0))) (pc' := 70) kX12_worked_68 rfl rfl rf_a0 ?_
        refine ok_reti eX12_worked_70 rfl ?_
        exact ⟨_, rfl, hS _ _ _, h98, Or.inl ⟨rfl, h2, by rw [h98], rfl⟩⟩
      · refine ok_V (As := []) (b := 94) (st := []) mkX12_either qX12_worked_40 rfl (rc_94) rfl rfl rfl rfl (Nat.le_of_ble_eq_true rfl) (hc1) ?_
        refine ok_step (ps := []) (L' := [some (.ref 94), some (.int (nI b)), some (.int (nI n)), some (.int (nI u)), some (.int (evl (ρ 98) c2))]) (st' := [.int ((mm ρ (nI a2) (-1) (nI 0)) 94 7)]) (σ' := (α, mm ρ (nI a2) (-1) (nI 0))) (pc' := 49) kX12_worked_43 rfl rfl rf_a0 ?_
        try rw [(show (mm ρ (nI a2) (-1) (nI 0)) 94 7 = (-1) from rfl)]
        refine ok_if_ge bX12_worked_49 (fun h49 => absurd h49 (show ¬ (0 : Int32) ≤ -1 by decide)) (fun _ => ?_)
        refine ok_step (ps := []) (L' := [some (.ref 94), some (.int (nI b)), some (.int (nI n)), some (.int (nI u)), some (.int (evl (ρ 98) c2))]) (st' := [.int ((mm ρ (nI a2) (-1) (nI 0)) 94 6), .int ((mm ρ (nI a2) (-1) (nI 0)) 94 5)]) (σ' := (α, mm ρ (nI a2) (-1) (nI 0))) (pc' := 60) kX12_worked_52 rfl rfl rf_a0 ?_
        try rw [(show (mm ρ (nI a2) (-1) (nI 0)) 94 5 = nI a2 from rfl)]
        try rw [(show (mm ρ (nI a2) (-1) (nI 0)) 94 6 = nI n from hE.2.2.2.2.1)]
        refine ok_icmp_ge bX12_worked_60 (fun h60 => absurd h60 (nI_ge (by omega) (by omega))) (fun _ => ?_)
        refine ok_step (ps := []) (L' := [some (.ref 94), some (.int (nI b)), some (.int (nI n)), some (.int (nI u)), some (.int (evl (ρ 98) c2))]) (st' := [.ref 94]) (σ' := (α, mm ρ (nI a2) (-1) (nI 0))) (pc' := 64) kX12_worked_63 rfl rfl rf_a0 ?_
        refine ok_V (As := []) (b := 94) (st := []) mkX12_wrong qX12_worked_64 rfl (rc_94) rfl rfl rfl rfl (Nat.le_of_ble_eq_true rfl) (m_wrong hE) ?_
        refine ok_reti eX12_worked_67 rfl ?_
        exact ⟨_, rfl, hS _ _ _, h98, Or.inr ⟨fun h => h2 h.2, rfl, _, rfl⟩⟩
  refine ok_step (ps := []) (L' := [some (.ref 94), some (.int (nI b)), some (.int (nI n)), some (.int (nI u)), none]) (st' := [.int (nI 1), .int (nI u), .ref 94]) (σ' := (α, rf_w (rf_w (rf_w (rf_w (rf_w ν 94 4 (nI b)) 94 5 (nI 0)) 94 6 (nI n)) 94 7 (-1)) 94 8 (nI 0))) (pc' := 28) kX12_worked_0 rfl rfl rf_a0 ?_
  refine ok_icmp_ne bX12_worked_28 (fun h28 => ?_) (fun h28 => ?_)
  · refine ok_step (ps := []) (L' := [some (.ref 94), some (.int (nI b)), some (.int (nI n)), some (.int (nI u)), none]) (st' := [.int (nI 0), .ref 94]) (σ' := (α, rf_w (rf_w (rf_w (rf_w (rf_w ν 94 4 (nI b)) 94 5 (nI 0)) 94 6 (nI n)) 94 7 (-1)) 94 8 (nI 0))) (pc' := 36) kX12_worked_35 rfl rfl rf_a0 ?_
    refine ok_step (ps := [rf_bb (nI 0)]) (L' := [some (.ref 94), some (.int (nI b)), some (.int (nI n)), some (.int (nI u)), none]) (st' := [.ref 94]) (σ' := (α, rf_w (rf_w (rf_w (rf_w (rf_w (rf_w ν 94 4 (nI b)) 94 5 (nI 0)) 94 6 (nI n)) 94 7 (-1)) 94 8 (nI 0)) 94 9 (nI 0))) (pc' := 40) kX12_worked_36 rfl rfl (rf_a1 (rfl) rf_a0) ?_
    exact key _ (congrArg nI (by have h28 := nI_ne h28; omega))
  · refine ok_step (ps := []) (L' := [some (.ref 94), some (.int (nI b)), some (.int (nI n)), some (.int (nI u)), none]) (st' := [.int (nI 1), .ref 94]) (σ' := (α, rf_w (rf_w (rf_w (rf_w (rf_w ν 94 4 (nI b)) 94 5 (nI 0)) 94 6 (nI n)) 94 7 (-1)) 94 8 (nI 0))) (pc' := 32) kX12_worked_31 rfl rfl rf_a0 ?_
    refine ok_goto bX12_worked_32 ?_
    refine ok_step (ps := [rf_bb (nI 1)]) (L' := [some (.ref 94), some (.int (nI b)), some (.int (nI n)), some (.int (nI u)), none]) (st' := [.ref 94]) (σ' := (α, rf_w (rf_w (rf_w (rf_w (rf_w (rf_w ν 94 4 (nI b)) 94 5 (nI 0)) 94 6 (nI n)) 94 7 (-1)) 94 8 (nI 0)) 94 9 (nI 1))) (pc' := 40) kX12_worked_36 rfl rfl (rf_a1 (rfl) rf_a0) ?_
    exact key _ (congrArg nI (nI_inj h28 (by omega) (by decide)).symm)
end H44
