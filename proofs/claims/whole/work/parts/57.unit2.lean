theorem rf_w_comm {f : Nat → Nat → Int32} {k i k' i' : Nat} {v v' : Int32} (h : k ≠ k') : rf_w (rf_w f k i v) k' i' v' = rf_w (rf_w f k' i' v') k i v := by
  funext x y
  rw [rf_w_at, rf_w_at, rf_w_at, rf_w_at]
  by_cases e : x = k'
  · have : ¬ x = k := fun e2 => h (e2.symm.trans e)
    simp [this]
  · simp [e]
theorem Rd.nam {α β : Nat → Nat → Int32} {u n a : Nat} {c : List Int32} {v : Int32} (h : Rd α β u n a c) : Rd α (rf_w (rf_w (rf_w β 77 c.length v) 76 0 (nI (1 + c.length))) 75 3 (nI (1 + a))) u n (1 + a) (c ++ [v]) := by
  rw [rf_w_comm (by decide), rf_w_comm (k := 77) (by decide)]
  exact h.to.add (by have := h.2.2.2.2.2.2; omega)
theorem nmi_m1 {u : Nat} : nmi u (-1) < 0 := by
  unfold nmi
  split <;> decide
section H57
variable {Ln : Nat} {xs : Nat → Int32} {α β δ : Nat → Nat → Int32} {u n : Nat}
theorem c_rnum {a : Nat} {c : List Int32} (hT : Tp α n) (hr : Rd α β u n a c) (ha : a ≤ n) (hd : dgt ((nxb (α 27) n) a) = true) : rf_Ok (rf_T Ln xs) MX2_readNumber 3 0 [some (.ref 75), none, none] [] (β, δ) (fun r s => r = none ∧ ∃ β2 : Nat → Nat → Int32, s = (β2, δ) ∧ Rd α β2 u n (prn (nxb (α 27) n) 4 a 0).1 (c ++ [(prn (nxb (α 27) n) 4 a 0).2])) := by
  have hn := hT.1
  have hle := hr.2.2.2.2.2.2
  have han : a < n := nx_lt nxb_x (fun e => by rw [e] at hd; exact absurd hd (by decide))
  have ep : prn (nxb (α 27) n) 4 a 0 = prn (nxb (α 27) n) 3 (1 + a) (0 * 10 + (nxb (α 27) n) a - 48) := by rw [prn, if_pos hd, Nat.add_comm a 1]
  rw [ep]
  refine ok_step (ps := []) (L' := [some (.ref 75), some (.int (nI 0)), some (.int (nI 0))]) (st' := []) (σ' := (β, δ)) (pc' := 4) kX2_readNumber_0 rfl rfl rf_a0 ?_
  refine ok_step (ps := []) (L' := [some (.ref 75), some (.int (nI 0)), some (.int (nI 0))]) (st' := [.int (nI 4), .int (nI 0)]) (σ' := (β, δ)) (pc' := 6) kX2_readNumber_4 rfl rfl rf_a0 ?_
  refine ok_icmp_ge bX2_readNumber_6 (fun h6 => absurd h6 ((by decide))) (fun _ => ?_)
  refine ok_step (ps := []) (L' := [some (.ref 75), some (.int (nI 0)), some (.int (nI 0))]) (st' := [.ref 75]) (σ' := (β, δ)) (pc' := 10) kX2_readNumber_9 rfl rfl rf_a0 ?_
  refine ok_V (As := []) (b := 75) (st := []) mkX2_next qX2_readNumber_10 rfl (rc_75) rfl rfl rfl rfl (Nat.le_of_ble_eq_true rfl) (c_nx hT hr (by omega)) ?_
  refine ok_S (As := [.int (nxb (α 27) n a)]) (st := []) mkX2_isDigit qX2_readNumber_13 rfl rfl rfl rfl rfl (Nat.le_of_ble_eq_true rfl) (c_dg) ?_
  refine ok_if_eq bX2_readNumber_16 (fun h16 => absurd h16 (bI_n0.mpr hd)) (fun _ => ?_)
  refine ok_step (ps := []) (L' := [some (.ref 75), some (.int (nI 0)), some (.int (nI 0))]) (st' := [.ref 75, .int ((nI 0) * (nI 10))]) (σ' := (β, δ)) (pc' := 24) kX2_readNumber_19 rfl rfl rf_a0 ?_
  try rw [(show ((nI 0) * (nI 10)) = nI 0 from rf_eq (rf_nmul (x := nI 0) (y := nI 10) rfl rfl) (by omega))]
  refine ok_V (As := []) (b := 75) (st := [.int (nI 0)]) mkX2_next qX2_readNumber_24 rfl (rc_75) rfl rfl rfl rfl (Nat.le_of_ble_eq_true rfl) (c_nx hT hr (by omega)) ?_
  refine ok_step (ps := []) (L' := [some (.ref 75), some (.int (((nI 0) + (nxb (α 27) n a)) - (nI 48))), some (.int ((nI 0) + (nI 1)))]) (st' := []) (σ' := (rf_w β 75 3 ((β 75 3) + (nI 1)), δ)) (pc' := 45) kX2_readNumber_27 rfl rfl rf_a0 ?_
  try rw [(show β 75 3 = nI a from hr.2.2.2.1)]
  try rw [(show ((nI a) + (nI 1)) = nI (1 + a) from rf_eq (rf_nadd (x := nI a) (y := nI 1) rfl rfl) (by omega))]
  try rw [(show ((nI 0) + (nI 1)) = nI 1 from rf_eq (rf_nadd (x := nI 0) (y := nI 1) rfl rfl) (by omega))]
  refine ok_goto bX2_readNumber_45 ?_
  rw [show (((nI 0) + (nxb (α 27) n a)) - (nI 48) : Int32) = 0 * 10 + (nxb (α 27) n) a - 48 from rfl]
  exact c_num hT (a0 := 1 + a) (by omega) 3 1 (1 + a) _ _ (by omega) (by omega) (by omega) hr.to
theorem c_nam0 {a op E : Nat} {c : List Int32} (hT : Tp α n) (hr : Rd α β 0 n a c) (ha : a ≤ n) : rf_Ok (rf_T Ln xs) MX2_readFactor (E + 7) 52 [some (.ref 75), some (.int (nI op)), some (.int ((nxb (α 27) n) a)), none] [] (β, δ) (RQ α δ 0 n c (if nmi 0 ((nxb (α 27) n) a) < 0 then (false, a, []) else (true, a + 1, [10000 + nmi 0 ((nxb (α 27) n) a)]))) := by
  have hn := hT.1
  have hle := hr.2.2.2.2.2.2
  by_cases h0 : (nxb (α 27) n) a < 0
  · have e1 := nx_m1 hT h0
    have h3 : nmi 0 ((nxb (α 27) n) a) < 0 := by rw [e1]; exact nmi_m1
    rw [if_pos h3]
    refine ok_step (ps := []) (L' := [some (.ref 75), some (.int (nI op)), some (.int ((nxb (α 27) n) a)), none]) (st' := [.int ((nxb (α 27) n) a)]) (σ' := (β, δ)) (pc' := 53) kX2_readFactor_52 rfl rfl rf_a0 ?_
    refine ok_if_ge bX2_readFactor_53 (fun h53 => absurd h53 (Int32.not_le.mpr h0)) (fun _ => ?_)
    refine ok_step (ps := []) (L' := [some (.ref 75), some (.int (nI op)), some (.int ((nxb (α 27) n) a)), none]) (st' := [.int (-1)]) (σ' := (β, δ)) (pc' := 57) kX2_readFactor_56 rfl rfl rf_a0 ?_
    refine ok_goto bX2_readFactor_57 ?_
    refine ok_step (ps := []) (L' := [some (.ref 75), some (.int (nI op)), some (.int ((nxb (α 27) n) a)), some (.int (-1))]) (st' := [.int (-1)]) (σ' := (β, δ)) (pc' := 71) kX2_readFactor_69 rfl rfl rf_a0 ?_
    refine ok_if_ge bX2_readFactor_71 (fun h71 => absurd h71 ((by decide))) (fun _ => ?_)
    refine ok_step (ps := []) (L' := [some (.ref 75), some (.int (nI op)), some (.int ((nxb (α 27) n) a)), some (.int (-1))]) (st' := [.int (nI 0)]) (σ' := (β, δ)) (pc' := 75) kX2_readFactor_74 rfl rfl rf_a0 ?_
    refine ok_retz eX2_readFactor_75 rfl (Or.inl rfl) ?_
    exact ⟨rfl, β, c, rfl, hr, fun h => Bool.noConfusion h⟩
  · obtain ⟨han, b, hb, eb⟩ := nx_b hT h0
    rw [eb]
    by_cases h3 : nmi 0 (nI b) < 0
    · rw [if_pos h3]
      refine ok_step (ps := []) (L' := [some (.ref 75), some (.int (nI op)), some (.int (nI b)), none]) (st' := [.int (nI b)]) (σ' := (β, δ)) (pc' := 53) kX2_readFactor_52 rfl rfl rf_a0 ?_
      refine ok_if_ge bX2_readFactor_53 (fun _ => ?_) (fun h53 => absurd (nI_pos' (by omega)) h53)
      refine ok_step (ps := [rf_eqb (β 75 2) (nI 1006)]) (L' := [some (.ref 75), some (.int (nI op)), some (.int (nI b)), none]) (st' := [.int (((nI b).toUInt32 % 65536).toInt32), .ref 1005]) (σ' := (β, δ)) (pc' := 66) (kX2_readFactor_60 (nI 1006)) rfl rfl (rf_a1 (by simp [rf_eqb, hr.2.2.1]) rf_a0) ?_
      rw [i2c_b hb]
      refine ok_V (As := [.int (nI b)]) (b := 1005) (st := []) mkJ0_indexOf_0f7a4 qX2_readFactor_66 rfl (rfl) rfl rfl rfl rfl (by omega) (j_of0 hb) ?_
      refine ok_step (ps := []) (L' := [some (.ref 75), some (.int (nI op)), some (.int (nI b)), some (.int (nmi 0 (nI b)))]) (st' := [.int (nmi 0 (nI b))]) (σ' := (β, δ)) (pc' := 71) kX2_readFactor_69 rfl rfl rf_a0 ?_
      refine ok_if_ge bX2_readFactor_71 (fun h71 => absurd h71 (Int32.not_le.mpr h3)) (fun _ => ?_)
      refine ok_step (ps := []) (L' := [some (.ref 75), some (.int (nI op)), some (.int (nI b)), some (.int (nmi 0 (nI b)))]) (st' := [.int (nI 0)]) (σ' := (β, δ)) (pc' := 75) kX2_readFactor_74 rfl rfl rf_a0 ?_
      refine ok_retz eX2_readFactor_75 rfl (Or.inl rfl) ?_
      exact ⟨rfl, β, c, rfl, hr, fun h => Bool.noConfusion h⟩
    · rw [if_neg h3, Nat.add_comm a 1]
      refine ok_step (ps := []) (L' := [some (.ref 75), some (.int (nI op)), some (.int (nI b)), none]) (st' := [.int (nI b)]) (σ' := (β, δ)) (pc' := 53) kX2_readFactor_52 rfl rfl rf_a0 ?_
      refine ok_if_ge bX2_readFactor_53 (fun _ => ?_) (fun h53 => absurd (nI_pos' (by omega)) h53)
      refine ok_step (ps := [rf_eqb (β 75 2) (nI 1006)]) (L' := [some (.ref 75), some (.int (nI op)), some (.int (nI b)), none]) (st' := [.int (((nI b).toUInt32 % 65536).toInt32), .ref 1005]) (σ' := (β, δ)) (pc' := 66) (kX2_readFactor_60 (nI 1006)) rfl rfl (rf_a1 (by simp [rf_eqb, hr.2.2.1]) rf_a0) ?_
      rw [i2c_b hb]
      refine ok_V (As := [.int (nI b)]) (b := 1005) (st := []) mkJ0_indexOf_0f7a4 qX2_readFactor_66 rfl (rfl) rfl rfl rfl rfl (by omega) (j_of0 hb) ?_
      refine ok_step (ps := []) (L' := [some (.ref 75), some (.int (nI op)), some (.int (nI b)), some (.int (nmi 0 (nI b)))]) (st' := [.int (nmi 0 (nI b))]) (σ' := (β, δ)) (pc' := 71) kX2_readFactor_69 rfl rfl rf_a0 ?_
      refine ok_if_ge bX2_readFactor_71 (fun _ => ?_) (fun h71 => absurd (Int32.not_lt.mp h3) h71)
      refine ok_step (ps := []) (L' := [some (.ref 75), some (.int (nI op)), some (.int (nI b)), some (.int (nmi 0 (nI b)))]) (st' := [.int ((nI 10000) + (nmi 0 (nI b))), .ref 76]) (σ' := (β, δ)) (pc' := 85) kX2_readFactor_76 rfl rfl rf_a0 ?_
      refine ok_V (As := [.int ((nI 10000) + (nmi 0 (nI b)))]) (b := 76) (st := []) mkX8_add qX2_readFactor_85 rfl (rc_76) rfl rfl rfl rfl (by omega) (c_add hr (by first | omega | (simp only [List.length_append, List.length_cons, List.length_nil] at *; omega))) ?_
      refine ok_step (ps := []) (L' := [some (.ref 75), some (.int (nI op)), some (.int (nI b)), some (.int (nmi 0 (nI b)))]) (st' := [.int (nI 1)]) (σ' := (rf_w (rf_w (rf_w β 77 c.length ((nI 10000) + (nmi 0 (nI b)))) 76 0 (nI (1 + c.length))) 75 3 (((rf_w (rf_w β 77 c.length ((nI 10000) + (nmi 0 (nI b)))) 76 0 (nI (1 + c.length))) 75 3) + (nI 1)), δ)) (pc' := 99) kX2_readFactor_88 rfl rfl rf_a0 ?_
      try rw [(show (rf_w (rf_w β 77 c.length ((nI 10000) + (nmi 0 (nI b)))) 76 0 (nI (1 + c.length))) 75 3 = (rf_w β 77 c.length ((nI 10000) + (nmi 0 (nI b)))) 75 3 from by rw [rf_w_at, if_neg (fun h => absurd h.1 (by decide))])]
      try rw [(show (rf_w β 77 c.length ((nI 10000) + (nmi 0 (nI b)))) 75 3 = β 75 3 from by rw [rf_w_at, if_neg (fun h => absurd h.1 (by decide))])]
      try rw [(show β 75 3 = nI a from hr.2.2.2.1)]
      try rw [(show ((nI a) + (nI 1)) = nI (1 + a) from rf_eq (rf_nadd (x := nI a) (y := nI 1) rfl rfl) (by omega))]
      refine ok_retz eX2_readFactor_99 rfl (Or.inr rfl) ?_
      exact ⟨rfl, _, _, rfl, hr.nam, fun _ => rfl⟩
theorem c_nam1 {a op E : Nat} {c : List Int32} (hT : Tp α n) (hr : Rd α β 1 n a c) (ha : a ≤ n) : rf_Ok (rf_T Ln xs) MX2_readFactor (E + 7) 52 [some (.ref 75), some (.int (nI op)), some (.int ((nxb (α 27) n) a)), none] [] (β, δ) (RQ α δ 1 n c (if nmi 1 ((nxb (α 27) n) a) < 0 then (false, a, []) else (true, a + 1, [10000 + nmi 1 ((nxb (α 27) n) a)]))) := by
  have hn := hT.1
  have hle := hr.2.2.2.2.2.2
  by_cases h0 : (nxb (α 27) n) a < 0
  · have e1 := nx_m1 hT h0
    have h3 : nmi 1 ((nxb (α 27) n) a) < 0 := by rw [e1]; exact nmi_m1
    rw [if_pos h3]
    refine ok_step (ps := []) (L' := [some (.ref 75), some (.int (nI op)), some (.int ((nxb (α 27) n) a)), none]) (st' := [.int ((nxb (α 27) n) a)]) (σ' := (β, δ)) (pc' := 53) kX2_readFactor_52 rfl rfl rf_a0 ?_
    refine ok_if_ge bX2_readFactor_53 (fun h53 => absurd h53 (Int32.not_le.mpr h0)) (fun _ => ?_)
    refine ok_step (ps := []) (L' := [some (.ref 75), some (.int (nI op)), some (.int ((nxb (α 27) n) a)), none]) (st' := [.int (-1)]) (σ' := (β, δ)) (pc' := 57) kX2_readFactor_56 rfl rfl rf_a0 ?_
    refine ok_goto bX2_readFactor_57 ?_
    refine ok_step (ps := []) (L' := [some (.ref 75), some (.int (nI op)), some (.int ((nxb (α 27) n) a)), some (.int (-1))]) (st' := [.int (-1)]) (σ' := (β, δ)) (pc' := 71) kX2_readFactor_69 rfl rfl rf_a0 ?_
    refine ok_if_ge bX2_readFactor_71 (fun h71 => absurd h71 ((by decide))) (fun _ => ?_)
    refine ok_step (ps := []) (L' := [some (.ref 75), some (.int (nI op)), some (.int ((nxb (α 27) n) a)), some (.int (-1))]) (st' := [.int (nI 0)]) (σ' := (β, δ)) (pc' := 75) kX2_readFactor_74 rfl rfl rf_a0 ?_
    refine ok_retz eX2_readFactor_75 rfl (Or.inl rfl) ?_
    exact ⟨rfl, β, c, rfl, hr, fun h => Bool.noConfusion h⟩
  · obtain ⟨han, b, hb, eb⟩ := nx_b hT h0
    rw [eb]
    by_cases h3 : nmi 1 (nI b) < 0
    · rw [if_pos h3]
      refine ok_step (ps := []) (L' := [some (.ref 75), some (.int (nI op)), some (.int (nI b)), none]) (st' := [.int (nI b)]) (σ' := (β, δ)) (pc' := 53) kX2_readFactor_52 rfl rfl rf_a0 ?_
      refine ok_if_ge bX2_readFactor_53 (fun _ => ?_) (fun h53 => absurd (nI_pos' (by omega)) h53)
      refine ok_step (ps := [rf_eqb (β 75 2) (nI 1007)]) (L' := [some (.ref 75), some (.int (nI op)), some (.int (nI b)), none]) (st' := [.int (((nI b).toUInt32 % 65536).toInt32), .ref 1006]) (σ' := (β, δ)) (pc' := 66) (kX2_readFactor_60 (nI 1007)) rfl rfl (rf_a1 (by simp [rf_eqb, hr.2.2.1]) rf_a0) ?_
      rw [i2c_b hb]
      refine ok_V (As := [.int (nI b)]) (b := 1006) (st := []) mkJ0_indexOf_0f7a4 qX2_readFactor_66 rfl (rfl) rfl rfl rfl rfl (by omega) (j_of1 hb) ?_
      refine ok_step (ps := []) (L' := [some (.ref 75), some (.int (nI op)), some (.int (nI b)), some (.int (nmi 1 (nI b)))]) (st' := [.int (nmi 1 (nI b))]) (σ' := (β, δ)) (pc' := 71) kX2_readFactor_69 rfl rfl rf_a0 ?_
      refine ok_if_ge bX2_readFactor_71 (fun h71 => absurd h71 (Int32.not_le.mpr h3)) (fun _ => ?_)
      refine ok_step (ps := []) (L' := [some (.ref 75), some (.int (nI op)), some (.int (nI b)), some (.int (nmi 1 (nI b)))]) (st' := [.int (nI 0)]) (σ' := (β, δ)) (pc' := 75) kX2_readFactor_74 rfl rfl rf_a0 ?_
      refine ok_retz eX2_readFactor_75 rfl (Or.inl rfl) ?_
      exact ⟨rfl, β, c, rfl, hr, fun h => Bool.noConfusion h⟩
    · rw [if_neg h3, Nat.add_comm a 1]
      refine ok_step (ps := []) (L' := [some (.ref 75), some (.int (nI op)), some (.int (nI b)), none]) (st' := [.int (nI b)]) (σ' := (β, δ)) (pc' := 53) kX2_readFactor_52 rfl rfl rf_a0 ?_
      refine ok_if_ge bX2_readFactor_53 (fun _ => ?_) (fun h53 => absurd (nI_pos' (by omega)) h53)
      refine ok_step (ps := [rf_eqb (β 75 2) (nI 1007)]) (L' := [some (.ref 75), some (.int (nI op)), some (.int (nI b)), none]) (st' := [.int (((nI b).toUInt32 % 65536).toInt32), .ref 1006]) (σ' := (β, δ)) (pc' := 66) (kX2_readFactor_60 (nI 1007)) rfl rfl (rf_a1 (by simp [rf_eqb, hr.2.2.1]) rf_a0) ?_
      rw [i2c_b hb]
      refine ok_V (As := [.int (nI b)]) (b := 1006) (st := []) mkJ0_indexOf_0f7a4 qX2_readFactor_66 rfl (rfl) rfl rfl rfl rfl (by omega) (j_of1 hb) ?_
      refine ok_step (ps := []) (L' := [some (.ref 75), some (.int (nI op)), some (.int (nI b)), some (.int (nmi 1 (nI b)))]) (st' := [.int (nmi 1 (nI b))]) (σ' := (β, δ)) (pc' := 71) kX2_readFactor_69 rfl rfl rf_a0 ?_
      refine ok_if_ge bX2_readFactor_71 (fun _ => ?_) (fun h71 => absurd (Int32.not_lt.mp h3) h71)
      refine ok_step (ps := []) (L' := [some (.ref 75), some (.int (nI op)), some (.int (nI b)), some (.int (nmi 1 (nI b)))]) (st' := [.int ((nI 10000) + (nmi 1 (nI b))), .ref 76]) (σ' := (β, δ)) (pc' := 85) kX2_readFactor_76 rfl rfl rf_a0 ?_
      refine ok_V (As := [.int ((nI 10000) + (nmi 1 (nI b)))]) (b := 76) (st := []) mkX8_add qX2_readFactor_85 rfl (rc_76) rfl rfl rfl rfl (by omega) (c_add hr (by first | omega | (simp only [List.length_append, List.length_cons, List.length_nil] at *; omega))) ?_
      refine ok_step (ps := []) (L' := [some (.ref 75), some (.int (nI op)), some (.int (nI b)), some (.int (nmi 1 (nI b)))]) (st' := [.int (nI 1)]) (σ' := (rf_w (rf_w (rf_w β 77 c.length ((nI 10000) + (nmi 1 (nI b)))) 76 0 (nI (1 + c.length))) 75 3 (((rf_w (rf_w β 77 c.length ((nI 10000) + (nmi 1 (nI b)))) 76 0 (nI (1 + c.length))) 75 3) + (nI 1)), δ)) (pc' := 99) kX2_readFactor_88 rfl rfl rf_a0 ?_
      try rw [(show (rf_w (rf_w β 77 c.length ((nI 10000) + (nmi 1 (nI b)))) 76 0 (nI (1 + c.length))) 75 3 = (rf_w β 77 c.length ((nI 10000) + (nmi 1 (nI b)))) 75 3 from by rw [rf_w_at, if_neg (fun h => absurd h.1 (by decide))])]
      try rw [(show (rf_w β 77 c.length ((nI 10000) + (nmi 1 (nI b)))) 75 3 = β 75 3 from by rw [rf_w_at, if_neg (fun h => absurd h.1 (by decide))])]
      try rw [(show β 75 3 = nI a from hr.2.2.2.1)]
      try rw [(show ((nI a) + (nI 1)) = nI (1 + a) from rf_eq (rf_nadd (x := nI a) (y := nI 1) rfl rfl) (by omega))]
      refine ok_retz eX2_readFactor_99 rfl (Or.inr rfl) ?_
      exact ⟨rfl, _, _, rfl, hr.nam, fun _ => rfl⟩
theorem c_nam {a op E : Nat} {c : List Int32} (hu : u ≤ 1) (hT : Tp α n) (hr : Rd α β u n a c) (ha : a ≤ n) : rf_Ok (rf_T Ln xs) MX2_readFactor (E + 7) 52 [some (.ref 75), some (.int (nI op)), some (.int ((nxb (α 27) n) a)), none] [] (β, δ) (RQ α δ u n c (if nmi u ((nxb (α 27) n) a) < 0 then (false, a, []) else (true, a + 1, [10000 + nmi u ((nxb (α 27) n) a)]))) := by
  have hu : u = 0 ∨ u = 1 := by omega
  rcases hu with rfl | rfl
  · exact c_nam0 hT hr ha
  · exact c_nam1 hT hr ha
theorem c_opn33 {g5 : Nat → PR} {a op E : Nat} {c : List Int32} (hT : Tp α n) (ho : op < 5) (hs5 : ∀ (a : Nat) (β : Nat → Nat → Int32) (c : List Int32), a ≤ n → Rd α β u n a c → rf_Ok (rf_T Ln xs) MX2_readFactor (E + 5) 0 [some (.ref 75), some (.int (nI (1 + op))), none, none] [] (β, δ) (RQ α δ u n c (g5 a))) (hk5 : ∀ a, a ≤ n → PK u n a (g5 a)) (hr : Rd α β u n a c) (han : a < n) : rf_Ok (rf_T Ln xs) MX2_readOpened (E + 6) 0 [some (.ref 75), some (.int (nI 33)), some (.int (nI (1 + op)))] [] (β, δ) (RQ α δ u n c (match g5 (1 + a) with | (true, a2, c2) => (true, a2, c2 ++ [20033]) | (false, a2, c2) => (false, a2, c2))) := by
  have hn := hT.1
  have hle := hr.2.2.2.2.2.2
  have hsub := hs5 (1 + a) _ _ (by omega) hr.to
  have q1 := hk5 (1 + a) (by omega)
  rcases e1 : g5 (1 + a) with ⟨_ | _, a2, c2⟩
  · refine ok_step (ps := []) (L' := [some (.ref 75), some (.int (nI 33)), some (.int (nI (1 + op)))]) (st' := [.int (nI 33), .int (nI 33)]) (σ' := (rf_w β 75 3 ((β 75 3) + (nI 1)), δ)) (pc' := 13) kX2_readOpened_0 rfl rfl rf_a0 ?_
    try rw [(show β 75 3 = nI a from hr.2.2.2.1)]
    try rw [(show ((nI a) + (nI 1)) = nI (1 + a) from rf_eq (rf_nadd (x := nI a) (y := nI 1) rfl rfl) (by omega))]
    refine ok_icmp_ne bX2_readOpened_13 (fun h13 => absurd ((by decide)) h13) (fun _ => ?_)
    refine ok_step (ps := []) (L' := [some (.ref 75), some (.int (nI 33)), some (.int (nI (1 + op)))]) (st' := [.int (nI (1 + op)), .ref 75]) (σ' := (rf_w β 75 3 (nI (1 + a)), δ)) (pc' := 18) kX2_readOpened_16 rfl rfl rf_a0 ?_
    refine ok_Vx (As := [.int (nI (1 + op))]) (b := 75) (st := []) mkX2_readFactor qX2_readOpened_18 rfl (rc_75) rfl rfl rfl rfl (by omega) (RQ_f hsub e1) (fun r1 σ1 hq => ?_)
    obtain ⟨rfl, β2, c3, rfl, hr2⟩ := hq
    refine ok_if_ne bX2_readOpened_21 (fun h21 => absurd ((by decide)) h21) (fun _ => ?_)
    refine ok_step (ps := []) (L' := [some (.ref 75), some (.int (nI 33)), some (.int (nI (1 + op)))]) (st' := [.int (nI 0)]) (σ' := (β2, δ)) (pc' := 25) kX2_readOpened_24 rfl rfl rf_a0 ?_
    refine ok_retz eX2_readOpened_25 rfl (Or.inl rfl) ?_
    exact ⟨rfl, β2, _, rfl, hr2, fun h => Bool.noConfusion h⟩
  · rw [e1] at q1
    obtain ⟨q1, q2, q3, -⟩ := q1
    simp only at q1 q2 q3
    refine ok_step (ps := []) (L' := [some (.ref 75), some (.int (nI 33)), some (.int (nI (1 + op)))]) (st' := [.int (nI 33), .int (nI 33)]) (σ' := (rf_w β 75 3 ((β 75 3) + (nI 1)), δ)) (pc' := 13) kX2_readOpened_0 rfl rfl rf_a0 ?_
    try rw [(show β 75 3 = nI a from hr.2.2.2.1)]
    try rw [(show ((nI a) + (nI 1)) = nI (1 + a) from rf_eq (rf_nadd (x := nI a) (y := nI 1) rfl rfl) (by omega))]
    refine ok_icmp_ne bX2_readOpened_13 (fun h13 => absurd ((by decide)) h13) (fun _ => ?_)
    refine ok_step (ps := []) (L' := [some (.ref 75), some (.int (nI 33)), some (.int (nI (1 + op)))]) (st' := [.int (nI (1 + op)), .ref 75]) (σ' := (rf_w β 75 3 (nI (1 + a)), δ)) (pc' := 18) kX2_readOpened_16 rfl rfl rf_a0 ?_
    refine ok_Vx (As := [.int (nI (1 + op))]) (b := 75) (st := []) mkX2_readFactor qX2_readOpened_18 rfl (rc_75) rfl rfl rfl rfl (by omega) (RQ_t hsub e1) (fun r1 σ1 hq => ?_)
    obtain ⟨rfl, β2, rfl, hr2⟩ := hq
    have hl2 : (c ++ c2).length + 1 ≤ a2 := by simp only [List.length_append] at *; omega
    refine ok_if_ne bX2_readOpened_21 (fun _ => ?_) (fun h21 => absurd h21 ((by decide)))
    refine ok_step (ps := []) (L' := [some (.ref 75), some (.int (nI 33)), some (.int (nI (1 + op)))]) (st' := [.int ((nI 20000) + (nI 33)), .ref 76]) (σ' := (β2, δ)) (pc' := 35) kX2_readOpened_26 rfl rfl rf_a0 ?_
    try rw [(show ((nI 20000) + (nI 33)) = nI 20033 from rf_eq (rf_nadd (x := nI 20000) (y := nI 33) rfl rfl) (by omega))]
    refine ok_V (As := [.int (nI 20033)]) (b := 76) (st := []) mkX8_add qX2_readOpened_35 rfl (rc_76) rfl rfl rfl rfl (by omega) (c_add hr2 (by first | omega | (simp only [List.length_append, List.length_cons, List.length_nil] at *; omega))) ?_
    refine ok_step (ps := []) (L' := [some (.ref 75), some (.int (nI 33)), some (.int (nI (1 + op)))]) (st' := [.int (nI 1)]) (σ' := (rf_w (rf_w β2 77 (c ++ c2).length (nI 20033)) 76 0 (nI (1 + (c ++ c2).length)), δ)) (pc' := 39) kX2_readOpened_38 rfl rfl rf_a0 ?_
    refine ok_retz eX2_readOpened_39 rfl (Or.inr rfl) ?_
    exact ⟨rfl, _, _, rfl, hr2.add hl2, fun _ => List.append_assoc _ _ _⟩
theorem c_opn40 {g0 : Nat → PR} {a op E : Nat} {c : List Int32} (hT : Tp α n) (ho : op < 5) (hs0 : ∀ (a : Nat) (β : Nat → Nat → Int32) (c : List Int32), a ≤ n → Rd α β u n a c → rf_Ok (rf_T Ln xs) MX2_readLevel (E + 5) 0 [some (.ref 75), some (.int (nI 0)), some (.int (nI (1 + op))), none, none, none] [] (β, δ) (RQ α δ u n c (g0 a))) (hk0 : ∀ a, a ≤ n → PK u n a (g0 a)) (hr : Rd α β u n a c) (han : a < n) : rf_Ok (rf_T Ln xs) MX2_readOpened (E + 6) 0 [some (.ref 75), some (.int (nI 40)), some (.int (nI (1 + op)))] [] (β, δ) (RQ α δ u n c (match g0 (1 + a) with | (true, a2, c2) => if (nxb (α 27) n) a2 = 41 then (true, a2 + 1, c2) else (false, a2, c2) | (false, a2, c2) => (false, a2, c2))) := by
  have hn := hT.1
  have hle := hr.2.2.2.2.2.2
  have hsub := hs0 (1 + a) _ _ (by omega) hr.to
  have q1 := hk0 (1 + a) (by omega)
  rcases e1 : g0 (1 + a) with ⟨_ | _, a2, c2⟩
  · refine ok_step (ps := []) (L' := [some (.ref 75), some (.int (nI 40)), some (.int (nI (1 + op)))]) (st' := [.int (nI 33), .int (nI 40)]) (σ' := (rf_w β 75 3 ((β 75 3) + (nI 1)), δ)) (pc' := 13) kX2_readOpened_0 rfl rfl rf_a0 ?_
    try rw [(show β 75 3 = nI a from hr.2.2.2.1)]
    try rw [(show ((nI a) + (nI 1)) = nI (1 + a) from rf_eq (rf_nadd (x := nI a) (y := nI 1) rfl rfl) (by omega))]
    refine ok_icmp_ne bX2_readOpened_13 (fun _ => ?_) (fun h13 => absurd h13 ((by decide)))
    refine ok_step (ps := []) (L' := [some (.ref 75), some (.int (nI 40)), some (.int (nI (1 + op)))]) (st' := [.int (nI (1 + op)), .int (nI 0), .ref 75]) (σ' := (rf_w β 75 3 (nI (1 + a)), δ)) (pc' := 43) kX2_readOpened_40 rfl rfl rf_a0 ?_
    refine ok_Vx (As := [.int (nI 0), .int (nI (1 + op))]) (b := 75) (st := []) mkX2_readLevel qX2_readOpened_43 rfl (rc_75) rfl rfl rfl rfl (by omega) (RQ_f hsub e1) (fun r1 σ1 hq => ?_)
    obtain ⟨rfl, β2, c3, rfl, hr2⟩ := hq
    refine ok_if_eq bX2_readOpened_46 (fun _ => ?_) (fun h46 => absurd ((by decide)) h46)
    refine ok_step (ps := []) (L' := [some (.ref 75), some (.int (nI 40)), some (.int (nI (1 + op)))]) (st' := [.int (nI 0)]) (σ' := (β2, δ)) (pc' := 59) kX2_readOpened_58 rfl rfl rf_a0 ?_
    refine ok_retz eX2_readOpened_59 rfl (Or.inl rfl) ?_
    exact ⟨rfl, β2, _, rfl, hr2, fun h => Bool.noConfusion h⟩
  · rw [e1] at q1
    obtain ⟨q1, q2, q3, -⟩ := q1
    simp only at q1 q2 q3
    show rf_Ok _ _ _ _ _ _ _ (RQ α δ u n c (if (nxb (α 27) n) a2 = 41 then (true, a2 + 1, c2) else (false, a2, c2)))
    by_cases h4 : (nxb (α 27) n) a2 = nI 41
    · rw [if_pos (show (nxb (α 27) n) a2 = 41 from h4), Nat.add_comm a2 1]
      refine ok_step (ps := []) (L' := [some (.ref 75), some (.int (nI 40)), some (.int (nI (1 + op)))]) (st' := [.int (nI 33), .int (nI 40)]) (σ' := (rf_w β 75 3 ((β 75 3) + (nI 1)), δ)) (pc' := 13) kX2_readOpened_0 rfl rfl rf_a0 ?_
      try rw [(show β 75 3 = nI a from hr.2.2.2.1)]
      try rw [(show ((nI a) + (nI 1)) = nI (1 + a) from rf_eq (rf_nadd (x := nI a) (y := nI 1) rfl rfl) (by omega))]
      refine ok_icmp_ne bX2_readOpened_13 (fun _ => ?_) (fun h13 => absurd h13 ((by decide)))
      refine ok_step (ps := []) (L' := [some (.ref 75), some (.int (nI 40)), some (.int (nI (1 + op)))]) (st' := [.int (nI (1 + op)), .int (nI 0), .ref 75]) (σ' := (rf_w β 75 3 (nI (1 + a)), δ)) (pc' := 43) kX2_readOpened_40 rfl rfl rf_a0 ?_
      refine ok_Vx (As := [.int (nI 0), .int (nI (1 + op))]) (b := 75) (st := []) mkX2_readLevel qX2_readOpened_43 rfl (rc_75) rfl rfl rfl rfl (by omega) (RQ_t hsub e1) (fun r1 σ1 hq => ?_)
      obtain ⟨rfl, β2, rfl, hr2⟩ := hq
      refine ok_if_eq bX2_readOpened_46 (fun h46 => absurd h46 ((by decide))) (fun _ => ?_)
      refine ok_step (ps := []) (L' := [some (.ref 75), some (.int (nI 40)), some (.int (nI (1 + op)))]) (st' := [.ref 75]) (σ' := (β2, δ)) (pc' := 50) kX2_readOpened_49 rfl rfl rf_a0 ?_
      refine ok_V (As := []) (b := 75) (st := []) mkX2_next qX2_readOpened_50 rfl (rc_75) rfl rfl rfl rfl (by omega) (c_nx hT hr2 (by omega)) ?_
      refine ok_step (ps := []) (L' := [some (.ref 75), some (.int (nI 40)), some (.int (nI (1 + op)))]) (st' := [.int (nI 41), .int (nxb (α 27) n a2)]) (σ' := (β2, δ)) (pc' := 55) kX2_readOpened_53 rfl rfl rf_a0 ?_
      refine ok_icmp_eq bX2_readOpened_55 (fun _ => ?_) (fun h55 => absurd (h4) h55)
      refine ok_step (ps := []) (L' := [some (.ref 75), some (.int (nI 40)), some (.int (nI (1 + op)))]) (st' := [.int (nI 1)]) (σ' := (rf_w β2 75 3 ((β2 75 3) + (nI 1)), δ)) (pc' := 71) kX2_readOpened_60 rfl rfl rf_a0 ?_
      try rw [(show β2 75 3 = nI a2 from hr2.2.2.2.1)]
      try rw [(show ((nI a2) + (nI 1)) = nI (1 + a2) from rf_eq (rf_nadd (x := nI a2) (y := nI 1) rfl rfl) (by omega))]
      refine ok_retz eX2_readOpened_71 rfl (Or.inr rfl) ?_
      exact ⟨rfl, _, _, rfl, hr2.to, fun _ => rfl⟩
    · rw [if_neg (show ¬ (nxb (α 27) n) a2 = 41 from h4)]
      refine ok_step (ps := []) (L' := [some (.ref 75), some (.int (nI 40)), some (.int (nI (1 + op)))]) (st' := [.int (nI 33), .int (nI 40)]) (σ' := (rf_w β 75 3 ((β 75 3) + (nI 1)), δ)) (pc' := 13) kX2_readOpened_0 rfl rfl rf_a0 ?_
      try rw [(show β 75 3 = nI a from hr.2.2.2.1)]
      try rw [(show ((nI a) + (nI 1)) = nI (1 + a) from rf_eq (rf_nadd (x := nI a) (y := nI 1) rfl rfl) (by omega))]
      refine ok_icmp_ne bX2_readOpened_13 (fun _ => ?_) (fun h13 => absurd h13 ((by decide)))
      refine ok_step (ps := []) (L' := [some (.ref 75), some (.int (nI 40)), some (.int (nI (1 + op)))]) (st' := [.int (nI (1 + op)), .int (nI 0), .ref 75]) (σ' := (rf_w β 75 3 (nI (1 + a)), δ)) (pc' := 43) kX2_readOpened_40 rfl rfl rf_a0 ?_
      refine ok_Vx (As := [.int (nI 0), .int (nI (1 + op))]) (b := 75) (st := []) mkX2_readLevel qX2_readOpened_43 rfl (rc_75) rfl rfl rfl rfl (by omega) (RQ_t hsub e1) (fun r1 σ1 hq => ?_)
      obtain ⟨rfl, β2, rfl, hr2⟩ := hq
      refine ok_if_eq bX2_readOpened_46 (fun h46 => absurd h46 ((by decide))) (fun _ => ?_)
      refine ok_step (ps := []) (L' := [some (.ref 75), some (.int (nI 40)), some (.int (nI (1 + op)))]) (st' := [.ref 75]) (σ' := (β2, δ)) (pc' := 50) kX2_readOpened_49 rfl rfl rf_a0 ?_
      refine ok_V (As := []) (b := 75) (st := []) mkX2_next qX2_readOpened_50 rfl (rc_75) rfl rfl rfl rfl (by omega) (c_nx hT hr2 (by omega)) ?_
      refine ok_step (ps := []) (L' := [some (.ref 75), some (.int (nI 40)), some (.int (nI (1 + op)))]) (st' := [.int (nI 41), .int (nxb (α 27) n a2)]) (σ' := (β2, δ)) (pc' := 55) kX2_readOpened_53 rfl rfl rf_a0 ?_
      refine ok_icmp_eq bX2_readOpened_55 (fun h55 => absurd h55 (h4)) (fun _ => ?_)
      refine ok_step (ps := []) (L' := [some (.ref 75), some (.int (nI 40)), some (.int (nI (1 + op)))]) (st' := [.int (nI 0)]) (σ' := (β2, δ)) (pc' := 59) kX2_readOpened_58 rfl rfl rf_a0 ?_
      refine ok_retz eX2_readOpened_59 rfl (Or.inl rfl) ?_
      exact ⟨rfl, β2, _, rfl, hr2, fun h => Bool.noConfusion h⟩
theorem c_fac {g0 g5 : Nat → PR} {a op E : Nat} {c : List Int32} (hu : u ≤ 1) (hT : Tp α n) (ho : op ≤ 5) (hs0 : ∀ (a : Nat) (β : Nat → Nat → Int32) (c : List Int32), a ≤ n → op < 5 → Rd α β u n a c → rf_Ok (rf_T Ln xs) MX2_readLevel (E + 5) 0 [some (.ref 75), some (.int (nI 0)), some (.int (nI (1 + op))), none, none, none] [] (β, δ) (RQ α δ u n c (g0 a))) (hk0 : ∀ a, a ≤ n → PK u n a (g0 a)) (hs5 : ∀ (a : Nat) (β : Nat → Nat → Int32) (c : List Int32), a ≤ n → op < 5 → Rd α β u n a c → rf_Ok (rf_T Ln xs) MX2_readFactor (E + 5) 0 [some (.ref 75), some (.int (nI (1 + op))), none, none] [] (β, δ) (RQ α δ u n c (g5 a))) (hk5 : ∀ a, a ≤ n → PK u n a (g5 a)) (hr : Rd α β u n a c) (ha : a ≤ n) : rf_Ok (rf_T Ln xs) MX2_readFactor (E + 7) 0 [some (.ref 75), some (.int (nI op)), none, none] [] (β, δ) (RQ α δ u n c (if (nxb (α 27) n) a = 33 ∨ (nxb (α 27) n) a = 40 then
      (if op < 5 then (if (nxb (α 27) n) a = 33 then (match g5 (a + 1) with
          | (true, a2, c2) => (true, a2, c2 ++ [20033])
          | (false, a2, c2) => (false, a2, c2))
        else (match g0 (a + 1) with
          | (true, a2, c2) => if (nxb (α 27) n) a2 = 41 then (true, a2 + 1, c2) else (false, a2, c2)
          | (false, a2, c2) => (false, a2, c2)))
      else (false, a, []))
    else if dgt ((nxb (α 27) n) a) then (true, (prn (nxb (α 27) n) 4 a 0).1, [(prn (nxb (α 27) n) 4 a 0).2])
    else if nmi u ((nxb (α 27) n) a) < 0 then (false, a, []) else (true, a + 1, [10000 + nmi u ((nxb (α 27) n) a)]))) := by
  have hn := hT.1
  have hle := hr.2.2.2.2.2.2
  by_cases hb : (nxb (α 27) n) a = 33 ∨ (nxb (α 27) n) a = 40
  · rw [if_pos hb]
    have han : a < n := nx_lt nxb_x (fun e => by rw [e] at hb; exact absurd hb (by decide))
    by_cases h5 : op < 5
    · rw [if_pos h5, Nat.add_comm a 1]
      by_cases h3 : (nxb (α 27) n) a = 33
      · rw [if_pos h3]
        have hc : (nxb (α 27) n) a = nI 33 := h3
        have hop := c_opn33 hT h5 (fun a β c ha hr => hs5 a β c ha h5 hr) hk5 hr han
        revert hop
        generalize (match g5 (1 + a) with | (true, a2, c2) => ((true, a2, c2 ++ [20033]) : PR) | (false, a2, c2) => (false, a2, c2)) = Pp
        intro hop
        obtain ⟨bb, a2, c2⟩ := Pp
        cases bb
        · refine ok_step (ps := []) (L' := [some (.ref 75), some (.int (nI op)), none, none]) (st' := [.ref 75]) (σ' := (β, δ)) (pc' := 1) kX2_readFactor_0 rfl rfl rf_a0 ?_
          refine ok_V (As := []) (b := 75) (st := []) mkX2_next qX2_readFactor_1 rfl (rc_75) rfl rfl rfl rfl (by omega) (c_nx hT hr (by omega)) ?_
          refine ok_step (ps := []) (L' := [some (.ref 75), some (.int (nI op)), some (.int (nxb (α 27) n a)), none]) (st' := [.int (nI 33), .int (nxb (α 27) n a)]) (σ' := (β, δ)) (pc' := 8) kX2_readFactor_4 rfl rfl rf_a0 ?_
          refine ok_icmp_eq bX2_readFactor_8 (fun _ => ?_) (fun h8 => absurd (hc) h8)
          refine ok_step (ps := []) (L' := [some (.ref 75), some (.int (nI op)), some (.int (nxb (α 27) n a)), none]) (st' := [.int (nI 5), .int (nI op)]) (σ' := (β, δ)) (pc' := 19) kX2_readFactor_17 rfl rfl rf_a0 ?_
          refine ok_icmp_ge bX2_readFactor_19 (fun h19 => absurd h19 (nI_ge (by omega) (by omega))) (fun _ => ?_)
          refine ok_step (ps := []) (L' := [some (.ref 75), some (.int (nI op)), some (.int (nxb (α 27) n a)), none]) (st' := [.int ((nI op) + (nI 1)), .int (nxb (α 27) n a), .ref 75]) (σ' := (β, δ)) (pc' := 27) kX2_readFactor_22 rfl rfl rf_a0 ?_
          try rw [(show ((nI op) + (nI 1)) = nI (1 + op) from rf_eq (rf_nadd (x := nI op) (y := nI 1) rfl rfl) (by omega))]
          rw [hc]
          refine ok_Vx (As := [.int (nI 33), .int (nI (1 + op))]) (b := 75) (st := []) mkX2_readOpened qX2_readFactor_27 rfl (rc_75) rfl rfl rfl rfl (by omega) (RQ_f hop rfl) (fun r1 σ1 hq => ?_)
          obtain ⟨rfl, β2, c3, rfl, hr2⟩ := hq
          refine ok_if_eq bX2_readFactor_30 (fun _ => ?_) (fun h30 => absurd ((by decide)) h30)
          refine ok_step (ps := []) (L' := [some (.ref 75), some (.int (nI op)), some (.int (nI 33)), none]) (st' := [.int (nI 0)]) (σ' := (β2, δ)) (pc' := 38) kX2_readFactor_37 rfl rfl rf_a0 ?_
          refine ok_retz eX2_readFactor_38 rfl (Or.inl rfl) ?_
          exact ⟨rfl, β2, _, rfl, hr2, fun h => Bool.noConfusion h⟩
        · refine ok_step (ps := []) (L' := [some (.ref 75), some (.int (nI op)), none, none]) (st' := [.ref 75]) (σ' := (β, δ)) (pc' := 1) kX2_readFactor_0 rfl rfl rf_a0 ?_
          refine ok_V (As := []) (b := 75) (st := []) mkX2_next qX2_readFactor_1 rfl (rc_75) rfl rfl rfl rfl (by omega) (c_nx hT hr (by omega)) ?_
          refine ok_step (ps := []) (L' := [some (.ref 75), some (.int (nI op)), some (.int (nxb (α 27) n a)), none]) (st' := [.int (nI 33), .int (nxb (α 27) n a)]) (σ' := (β, δ)) (pc' := 8) kX2_readFactor_4 rfl rfl rf_a0 ?_
          refine ok_icmp_eq bX2_readFactor_8 (fun _ => ?_) (fun h8 => absurd (hc) h8)
          refine ok_step (ps := []) (L' := [some (.ref 75), some (.int (nI op)), some (.int (nxb (α 27) n a)), none]) (st' := [.int (nI 5), .int (nI op)]) (σ' := (β, δ)) (pc' := 19) kX2_readFactor_17 rfl rfl rf_a0 ?_
          refine ok_icmp_ge bX2_readFactor_19 (fun h19 => absurd h19 (nI_ge (by omega) (by omega))) (fun _ => ?_)
          refine ok_step (ps := []) (L' := [some (.ref 75), some (.int (nI op)), some (.int (nxb (α 27) n a)), none]) (st' := [.int ((nI op) + (nI 1)), .int (nxb (α 27) n a), .ref 75]) (σ' := (β, δ)) (pc' := 27) kX2_readFactor_22 rfl rfl rf_a0 ?_
          try rw [(show ((nI op) + (nI 1)) = nI (1 + op) from rf_eq (rf_nadd (x := nI op) (y := nI 1) rfl rfl) (by omega))]
          rw [hc]
          refine ok_Vx (As := [.int (nI 33), .int (nI (1 + op))]) (b := 75) (st := []) mkX2_readOpened qX2_readFactor_27 rfl (rc_75) rfl rfl rfl rfl (by omega) (RQ_t hop rfl) (fun r1 σ1 hq => ?_)
          obtain ⟨rfl, β2, rfl, hr2⟩ := hq
          refine ok_if_eq bX2_readFactor_30 (fun h30 => absurd h30 ((by decide))) (fun _ => ?_)
          refine ok_step (ps := []) (L' := [some (.ref 75), some (.int (nI op)), some (.int (nI 33)), none]) (st' := [.int (nI 1)]) (σ' := (β2, δ)) (pc' := 34) kX2_readFactor_33 rfl rfl rf_a0 ?_
          refine ok_goto bX2_readFactor_34 ?_
          refine ok_retz eX2_readFactor_38 rfl (Or.inr rfl) ?_
          exact ⟨rfl, β2, _, rfl, hr2, fun _ => rfl⟩
      · rw [if_neg h3]
        have hc : (nxb (α 27) n) a = nI 40 := hb.resolve_left h3
        have hop := c_opn40 hT h5 (fun a β c ha hr => hs0 a β c ha h5 hr) hk0 hr han
        revert hop
        generalize (match g0 (1 + a) with | (true, a2, c2) => if (nxb (α 27) n) a2 = 41 then ((true, a2 + 1, c2) : PR) else (false, a2, c2) | (false, a2, c2) => (false, a2, c2)) = Pp
        intro hop
        obtain ⟨bb, a2, c2⟩ := Pp
        cases bb
        · refine ok_step (ps := []) (L' := [some (.ref 75), some (.int (nI op)), none, none]) (st' := [.ref 75]) (σ' := (β, δ)) (pc' := 1) kX2_readFactor_0 rfl rfl rf_a0 ?_
          refine ok_V (As := []) (b := 75) (st := []) mkX2_next qX2_readFactor_1 rfl (rc_75) rfl rfl rfl rfl (by omega) (c_nx hT hr (by omega)) ?_
          refine ok_step (ps := []) (L' := [some (.ref 75), some (.int (nI op)), some (.int (nxb (α 27) n a)), none]) (st' := [.int (nI 33), .int (nxb (α 27) n a)]) (σ' := (β, δ)) (pc' := 8) kX2_readFactor_4 rfl rfl rf_a0 ?_
          refine ok_icmp_eq bX2_readFactor_8 (fun h8 => absurd h8 ((by rw [hc]; decide))) (fun _ => ?_)
          refine ok_step (ps := []) (L' := [some (.ref 75), some (.int (nI op)), some (.int (nxb (α 27) n a)), none]) (st' := [.int (nI 40), .int (nxb (α 27) n a)]) (σ' := (β, δ)) (pc' := 14) kX2_readFactor_11 rfl rfl rf_a0 ?_
          refine ok_icmp_ne bX2_readFactor_14 (fun h14 => absurd (hc) h14) (fun _ => ?_)
          refine ok_step (ps := []) (L' := [some (.ref 75), some (.int (nI op)), some (.int (nxb (α 27) n a)), none]) (st' := [.int (nI 5), .int (nI op)]) (σ' := (β, δ)) (pc' := 19) kX2_readFactor_17 rfl rfl rf_a0 ?_
          refine ok_icmp_ge bX2_readFactor_19 (fun h19 => absurd h19 (nI_ge (by omega) (by omega))) (fun _ => ?_)
          refine ok_step (ps := []) (L' := [some (.ref 75), some (.int (nI op)), some (.int (nxb (α 27) n a)), none]) (st' := [.int ((nI op) + (nI 1)), .int (nxb (α 27) n a), .ref 75]) (σ' := (β, δ)) (pc' := 27) kX2_readFactor_22 rfl rfl rf_a0 ?_
          try rw [(show ((nI op) + (nI 1)) = nI (1 + op) from rf_eq (rf_nadd (x := nI op) (y := nI 1) rfl rfl) (by omega))]
          rw [hc]
          refine ok_Vx (As := [.int (nI 40), .int (nI (1 + op))]) (b := 75) (st := []) mkX2_readOpened qX2_readFactor_27 rfl (rc_75) rfl rfl rfl rfl (by omega) (RQ_f hop rfl) (fun r1 σ1 hq => ?_)
          obtain ⟨rfl, β2, c3, rfl, hr2⟩ := hq
          refine ok_if_eq bX2_readFactor_30 (fun _ => ?_) (fun h30 => absurd ((by decide)) h30)
          refine ok_step (ps := []) (L' := [some (.ref 75), some (.int (nI op)), some (.int (nI 40)), none]) (st' := [.int (nI 0)]) (σ' := (β2, δ)) (pc' := 38) kX2_readFactor_37 rfl rfl rf_a0 ?_
          refine ok_retz eX2_readFactor_38 rfl (Or.inl rfl) ?_
          exact ⟨rfl, β2, _, rfl, hr2, fun h => Bool.noConfusion h⟩
        · refine ok_step (ps := []) (L' := [some (.ref 75), some (.int (nI op)), none, none]) (st' := [.ref 75]) (σ' := (β, δ)) (pc' := 1) kX2_readFactor_0 rfl rfl rf_a0 ?_
          refine ok_V (As := []) (b := 75) (st := []) mkX2_next qX2_readFactor_1 rfl (rc_75) rfl rfl rfl rfl (by omega) (c_nx hT hr (by omega)) ?_
          refine ok_step (ps := []) (L' := [some (.ref 75), some (.int (nI op)), some (.int (nxb (α 27) n a)), none]) (st' := [.int (nI 33), .int (nxb (α 27) n a)]) (σ' := (β, δ)) (pc' := 8) kX2_readFactor_4 rfl rfl rf_a0 ?_
          refine ok_icmp_eq bX2_readFactor_8 (fun h8 => absurd h8 ((by rw [hc]; decide))) (fun _ => ?_)
          refine ok_step (ps := []) (L' := [some (.ref 75), some (.int (nI op)), some (.int (nxb (α 27) n a)), none]) (st' := [.int (nI 40), .int (nxb (α 27) n a)]) (σ' := (β, δ)) (pc' := 14) kX2_readFactor_11 rfl rfl rf_a0 ?_
          refine ok_icmp_ne bX2_readFactor_14 (fun h14 => absurd (hc) h14) (fun _ => ?_)
          refine ok_step (ps := []) (L' := [some (.ref 75), some (.int (nI op)), some (.int (nxb (α 27) n a)), none]) (st' := [.int (nI 5), .int (nI op)]) (σ' := (β, δ)) (pc' := 19) kX2_readFactor_17 rfl rfl rf_a0 ?_
          refine ok_icmp_ge bX2_readFactor_19 (fun h19 => absurd h19 (nI_ge (by omega) (by omega))) (fun _ => ?_)
          refine ok_step (ps := []) (L' := [some (.ref 75), some (.int (nI op)), some (.int (nxb (α 27) n a)), none]) (st' := [.int ((nI op) + (nI 1)), .int (nxb (α 27) n a), .ref 75]) (σ' := (β, δ)) (pc' := 27) kX2_readFactor_22 rfl rfl rf_a0 ?_
          try rw [(show ((nI op) + (nI 1)) = nI (1 + op) from rf_eq (rf_nadd (x := nI op) (y := nI 1) rfl rfl) (by omega))]
          rw [hc]
          refine ok_Vx (As := [.int (nI 40), .int (nI (1 + op))]) (b := 75) (st := []) mkX2_readOpened qX2_readFactor_27 rfl (rc_75) rfl rfl rfl rfl (by omega) (RQ_t hop rfl) (fun r1 σ1 hq => ?_)
          obtain ⟨rfl, β2, rfl, hr2⟩ := hq
          refine ok_if_eq bX2_readFactor_30 (fun h30 => absurd h30 ((by decide))) (fun _ => ?_)
          refine ok_step (ps := []) (L' := [some (.ref 75), some (.int (nI op)), some (.int (nI 40)), none]) (st' := [.int (nI 1)]) (σ' := (β2, δ)) (pc' := 34) kX2_readFactor_33 rfl rfl rf_a0 ?_
          refine ok_goto bX2_readFactor_34 ?_
          refine ok_retz eX2_readFactor_38 rfl (Or.inr rfl) ?_
          exact ⟨rfl, β2, _, rfl, hr2, fun _ => rfl⟩
    · rw [if_neg h5]
      obtain rfl : op = 5 := by omega
      rcases hb with hb | hb
      · have hc : (nxb (α 27) n) a = nI 33 := hb
        refine ok_step (ps := []) (L' := [some (.ref 75), some (.int (nI 5)), none, none]) (st' := [.ref 75]) (σ' := (β, δ)) (pc' := 1) kX2_readFactor_0 rfl rfl rf_a0 ?_
        refine ok_V (As := []) (b := 75) (st := []) mkX2_next qX2_readFactor_1 rfl (rc_75) rfl rfl rfl rfl (by omega) (c_nx hT hr (by omega)) ?_
        refine ok_step (ps := []) (L' := [some (.ref 75), some (.int (nI 5)), some (.int (nxb (α 27) n a)), none]) (st' := [.int (nI 33), .int (nxb (α 27) n a)]) (σ' := (β, δ)) (pc' := 8) kX2_readFactor_4 rfl rfl rf_a0 ?_
        refine ok_icmp_eq bX2_readFactor_8 (fun _ => ?_) (fun h8 => absurd (hc) h8)
        refine ok_step (ps := []) (L' := [some (.ref 75), some (.int (nI 5)), some (.int (nxb (α 27) n a)), none]) (st' := [.int (nI 5), .int (nI 5)]) (σ' := (β, δ)) (pc' := 19) kX2_readFactor_17 rfl rfl rf_a0 ?_
        refine ok_icmp_ge bX2_readFactor_19 (fun _ => ?_) (fun h19 => absurd ((by decide)) h19)
        refine ok_step (ps := []) (L' := [some (.ref 75), some (.int (nI 5)), some (.int (nxb (α 27) n a)), none]) (st' := [.int (nI 0)]) (σ' := (β, δ)) (pc' := 38) kX2_readFactor_37 rfl rfl rf_a0 ?_
        refine ok_retz eX2_readFactor_38 rfl (Or.inl rfl) ?_
        exact ⟨rfl, β, c, rfl, hr, fun h => Bool.noConfusion h⟩
      · have hc : (nxb (α 27) n) a = nI 40 := hb
        refine ok_step (ps := []) (L' := [some (.ref 75), some (.int (nI 5)), none, none]) (st' := [.ref 75]) (σ' := (β, δ)) (pc' := 1) kX2_readFactor_0 rfl rfl rf_a0 ?_
        refine ok_V (As := []) (b := 75) (st := []) mkX2_next qX2_readFactor_1 rfl (rc_75) rfl rfl rfl rfl (by omega) (c_nx hT hr (by omega)) ?_
        refine ok_step (ps := []) (L' := [some (.ref 75), some (.int (nI 5)), some (.int (nxb (α 27) n a)), none]) (st' := [.int (nI 33), .int (nxb (α 27) n a)]) (σ' := (β, δ)) (pc' := 8) kX2_readFactor_4 rfl rfl rf_a0 ?_
        refine ok_icmp_eq bX2_readFactor_8 (fun h8 => absurd h8 ((by rw [hc]; decide))) (fun _ => ?_)
        refine ok_step (ps := []) (L' := [some (.ref 75), some (.int (nI 5)), some (.int (nxb (α 27) n a)), none]) (st' := [.int (nI 40), .int (nxb (α 27) n a)]) (σ' := (β, δ)) (pc' := 14) kX2_readFactor_11 rfl rfl rf_a0 ?_
        refine ok_icmp_ne bX2_readFactor_14 (fun h14 => absurd (hc) h14) (fun _ => ?_)
        refine ok_step (ps := []) (L' := [some (.ref 75), some (.int (nI 5)), some (.int (nxb (α 27) n a)), none]) (st' := [.int (nI 5), .int (nI 5)]) (σ' := (β, δ)) (pc' := 19) kX2_readFactor_17 rfl rfl rf_a0 ?_
        refine ok_icmp_ge bX2_readFactor_19 (fun _ => ?_) (fun h19 => absurd ((by decide)) h19)
        refine ok_step (ps := []) (L' := [some (.ref 75), some (.int (nI 5)), some (.int (nxb (α 27) n a)), none]) (st' := [.int (nI 0)]) (σ' := (β, δ)) (pc' := 38) kX2_readFactor_37 rfl rfl rf_a0 ?_
        refine ok_retz eX2_readFactor_38 rfl (Or.inl rfl) ?_
        exact ⟨rfl, β, c, rfl, hr, fun h => Bool.noConfusion h⟩
  · rw [if_neg hb]
    have n33 : ¬ (nxb (α 27) n) a = nI 33 := fun e => hb (Or.inl e)
    have n40 : ¬ (nxb (α 27) n) a = nI 40 := fun e => hb (Or.inr e)
    by_cases hd : dgt ((nxb (α 27) n) a) = true
    · rw [if_pos hd]
      refine ok_step (ps := []) (L' := [some (.ref 75), some (.int (nI op)), none, none]) (st' := [.ref 75]) (σ' := (β, δ)) (pc' := 1) kX2_readFactor_0 rfl rfl rf_a0 ?_
      refine ok_V (As := []) (b := 75) (st := []) mkX2_next qX2_readFactor_1 rfl (rc_75) rfl rfl rfl rfl (by omega) (c_nx hT hr (by omega)) ?_
      refine ok_step (ps := []) (L' := [some (.ref 75), some (.int (nI op)), some (.int (nxb (α 27) n a)), none]) (st' := [.int (nI 33), .int (nxb (α 27) n a)]) (σ' := (β, δ)) (pc' := 8) kX2_readFactor_4 rfl rfl rf_a0 ?_
      refine ok_icmp_eq bX2_readFactor_8 (fun h8 => absurd h8 (n33)) (fun _ => ?_)
      refine ok_step (ps := []) (L' := [some (.ref 75), some (.int (nI op)), some (.int (nxb (α 27) n a)), none]) (st' := [.int (nI 40), .int (nxb (α 27) n a)]) (σ' := (β, δ)) (pc' := 14) kX2_readFactor_11 rfl rfl rf_a0 ?_
      refine ok_icmp_ne bX2_readFactor_14 (fun _ => ?_) (fun h14 => absurd h14 (n40))
      refine ok_step (ps := []) (L' := [some (.ref 75), some (.int (nI op)), some (.int (nxb (α 27) n a)), none]) (st' := [.int (nxb (α 27) n a)]) (σ' := (β, δ)) (pc' := 40) kX2_readFactor_39 rfl rfl rf_a0 ?_
      refine ok_S (As := [.int (nxb (α 27) n a)]) (st := []) mkX2_isDigit qX2_readFactor_40 rfl rfl rfl rfl rfl (by omega) (c_dg) ?_
      refine ok_if_eq bX2_readFactor_43 (fun h43 => absurd h43 (bI_n0.mpr hd)) (fun _ => ?_)
      refine ok_step (ps := []) (L' := [some (.ref 75), some (.int (nI op)), some (.int (nxb (α 27) n a)), none]) (st' := [.ref 75]) (σ' := (β, δ)) (pc' := 47) kX2_readFactor_46 rfl rfl rf_a0 ?_
      refine ok_Vx (As := []) (b := 75) (st := []) mkX2_readNumber qX2_readFactor_47 rfl (rc_75) rfl rfl rfl rfl (by omega) (c_rnum hT hr ha hd) (fun r1 σ1 hq => ?_)
      obtain ⟨rfl, β2, rfl, hr2⟩ := hq
      refine ok_step (ps := []) (L' := [some (.ref 75), some (.int (nI op)), some (.int (nxb (α 27) n a)), none]) (st' := [.int (nI 1)]) (σ' := (β2, δ)) (pc' := 51) kX2_readFactor_50 rfl rfl rf_a0 ?_
      refine ok_retz eX2_readFactor_51 rfl (Or.inr rfl) ?_
      exact ⟨rfl, β2, _, rfl, hr2, fun _ => rfl⟩
    · rw [if_neg hd]
      refine ok_step (ps := []) (L' := [some (.ref 75), some (.int (nI op)), none, none]) (st' := [.ref 75]) (σ' := (β, δ)) (pc' := 1) kX2_readFactor_0 rfl rfl rf_a0 ?_
      refine ok_V (As := []) (b := 75) (st := []) mkX2_next qX2_readFactor_1 rfl (rc_75) rfl rfl rfl rfl (by omega) (c_nx hT hr (by omega)) ?_
      refine ok_step (ps := []) (L' := [some (.ref 75), some (.int (nI op)), some (.int (nxb (α 27) n a)), none]) (st' := [.int (nI 33), .int (nxb (α 27) n a)]) (σ' := (β, δ)) (pc' := 8) kX2_readFactor_4 rfl rfl rf_a0 ?_
      refine ok_icmp_eq bX2_readFactor_8 (fun h8 => absurd h8 (n33)) (fun _ => ?_)
      refine ok_step (ps := []) (L' := [some (.ref 75), some (.int (nI op)), some (.int (nxb (α 27) n a)), none]) (st' := [.int (nI 40), .int (nxb (α 27) n a)]) (σ' := (β, δ)) (pc' := 14) kX2_readFactor_11 rfl rfl rf_a0 ?_
      refine ok_icmp_ne bX2_readFactor_14 (fun _ => ?_) (fun h14 => absurd h14 (n40))
      refine ok_step (ps := []) (L' := [some (.ref 75), some (.int (nI op)), some (.int (nxb (α 27) n a)), none]) (st' := [.int (nxb (α 27) n a)]) (σ' := (β, δ)) (pc' := 40) kX2_readFactor_39 rfl rfl rf_a0 ?_
      refine ok_S (As := [.int (nxb (α 27) n a)]) (st := []) mkX2_isDigit qX2_readFactor_40 rfl rfl rfl rfl rfl (by omega) (c_dg) ?_
      refine ok_if_eq bX2_readFactor_43 (fun _ => ?_) (fun h43 => absurd (bI_0.mpr (show dgt ((nxb (α 27) n) a) = false by simpa using hd)) h43)
      exact c_nam hu hT hr ha
theorem c_lev5 {op a F : Nat} {c : List Int32} {Pp : PR} (ho : op ≤ 5) (hfac : rf_Ok (rf_T Ln xs) MX2_readFactor (F + 4) 0 [some (.ref 75), some (.int (nI op)), none, none] [] (β, δ) (RQ α δ u n c Pp)) : rf_Ok (rf_T Ln xs) MX2_readLevel (F + 5) 0 [some (.ref 75), some (.int (nI 5)), some (.int (nI op)), none, none, none] [] (β, δ) (RQ α δ u n c Pp) := by
  obtain ⟨bb, a2, c2⟩ := Pp
  cases bb
  · refine ok_step (ps := []) (L' := [some (.ref 75), some (.int (nI 5)), some (.int (nI op)), none, none, none]) (st' := [.int (nI 4), .int (nI 5)]) (σ' := (β, δ)) (pc' := 2) kX2_readLevel_0 rfl rfl rf_a0 ?_
    refine ok_icmp_le bX2_readLevel_2 (fun h2 => absurd h2 ((by decide))) (fun _ => ?_)
    refine ok_step (ps := []) (L' := [some (.ref 75), some (.int (nI 5)), some (.int (nI op)), none, none, none]) (st' := [.int (nI op), .ref 75]) (σ' := (β, δ)) (pc' := 7) kX2_readLevel_5 rfl rfl rf_a0 ?_
    refine ok_Vx (As := [.int (nI op)]) (b := 75) (st := []) mkX2_readFactor qX2_readLevel_7 rfl (rc_75) rfl rfl rfl rfl (by omega) (RQ_f hfac rfl) (fun r1 σ1 hq => ?_)
    obtain ⟨rfl, β2, c3, rfl, hr2⟩ := hq
    refine ok_retz eX2_readLevel_10 rfl (Or.inl rfl) ?_
    exact ⟨rfl, β2, _, rfl, hr2, fun h => Bool.noConfusion h⟩
  · refine ok_step (ps := []) (L' := [some (.ref 75), some (.int (nI 5)), some (.int (nI op)), none, none, none]) (st' := [.int (nI 4), .int (nI 5)]) (σ' := (β, δ)) (pc' := 2) kX2_readLevel_0 rfl rfl rf_a0 ?_
    refine ok_icmp_le bX2_readLevel_2 (fun h2 => absurd h2 ((by decide))) (fun _ => ?_)
    refine ok_step (ps := []) (L' := [some (.ref 75), some (.int (nI 5)), some (.int (nI op)), none, none, none]) (st' := [.int (nI op), .ref 75]) (σ' := (β, δ)) (pc' := 7) kX2_readLevel_5 rfl rfl rf_a0 ?_
    refine ok_Vx (As := [.int (nI op)]) (b := 75) (st := []) mkX2_readFactor qX2_readLevel_7 rfl (rc_75) rfl rfl rfl rfl (by omega) (RQ_t hfac rfl) (fun r1 σ1 hq => ?_)
    obtain ⟨rfl, β2, rfl, hr2⟩ := hq
    refine ok_retz eX2_readLevel_10 rfl (Or.inr rfl) ?_
    exact ⟨rfl, β2, _, rfl, hr2, fun _ => rfl⟩
theorem c_rd (hu : u ≤ 1) (hT : Tp α n) : ∀ f : Nat, (∀ (lev a op : Nat) (β : Nat → Nat → Int32) (c : List Int32), lev ≤ 5 → a ≤ n → op ≤ 5 → 6 * (5 - op) + (5 - lev) < f → Rd α β u n a c → rf_Ok (rf_T Ln xs) MX2_readLevel (8 * (5 - op) + (5 - lev) + 8) 0 [some (.ref 75), some (.int (nI lev)), some (.int (nI op)), none, none, none] [] (β, δ) (RQ α δ u n c (pr u (nxb (α 27) n) f lev a op))) ∧ (∀ (a op : Nat) (β : Nat → Nat → Int32) (c : List Int32), a ≤ n → op ≤ 5 → 6 * (5 - op) < f → Rd α β u n a c → rf_Ok (rf_T Ln xs) MX2_readFactor (8 * (5 - op) + 7) 0 [some (.ref 75), some (.int (nI op)), none, none] [] (β, δ) (RQ α δ u n c (pr u (nxb (α 27) n) f 5 a op)))
  | 0 => ⟨fun _ _ _ _ _ _ _ _ h => absurd h (Nat.not_lt_zero _), fun _ _ _ _ _ _ h => absurd h (Nat.not_lt_zero _)⟩
  | f + 1 => by
    have ih := c_rd hu hT f
    have hk := fun l o2 a ha => pr_ok (u := u) (n := n) (x := (nxb (α 27) n)) hu nxb_x f l a o2 ha
    have hfac : ∀ (a op : Nat) (β : Nat → Nat → Int32) (c : List Int32), a ≤ n → op ≤ 5 → 6 * (5 - op) < f + 1 → Rd α β u n a c → rf_Ok (rf_T Ln xs) MX2_readFactor (8 * (5 - op) + 7) 0 [some (.ref 75), some (.int (nI op)), none, none] [] (β, δ) (RQ α δ u n c (pr u (nxb (α 27) n) (f + 1) 5 a op)) := by
      intro a op β c ha ho hf hr
      unfold pr
      rw [if_neg (by decide)]
      refine c_fac (g0 := fun a => pr u (nxb (α 27) n) f 0 a (op + 1)) (g5 := fun a => pr u (nxb (α 27) n) f 5 a (op + 1)) hu hT ho (fun a β c ha h5 hr => ?_) (hk 0 (op + 1)) (fun a β c ha h5 hr => ?_) (hk 5 (op + 1)) hr ha
      · rw [Nat.add_comm 1 op]
        exact (ih.1 0 a (op + 1) β c (by omega) ha (by omega) (by omega) hr).more (by omega)
      · rw [Nat.add_comm 1 op]
        exact (ih.2 a (op + 1) β c ha (by omega) (by omega) hr).more (by omega)
    refine ⟨fun lev a op β c hl ha ho hf hr => ?_, hfac⟩
    by_cases h5 : lev < 5
    · unfold pr
      rw [if_pos h5, show 8 * (5 - op) + (5 - lev) + 8 = (8 * (5 - op) + (4 - lev) + 4) + 5 by omega]
      refine c_lev (g := fun a => pr u (nxb (α 27) n) f (lev + 1) a op) hT h5 ho (fun a β c ha hr => ?_) (hk (lev + 1) op) ha hr
      rw [Nat.add_comm 1 lev]
      exact (ih.1 (lev + 1) a op β c (by omega) ha ho (by omega) hr).more (by omega)
    · obtain rfl : lev = 5 := by omega
      exact (c_lev5 (F := 8 * (5 - op) + 3) (a := a) ho (hfac a op β c ha ho (by omega) hr)).more (by omega)
theorem c_read0 (hT : Tp α n) : rf_Ok (rf_T Ln xs) MX2_read 56 0 [some (.ref 75), some (.ref 26), some (.int (nI 0))] [] (α, δ) (fun r s => r = some (.int (if (prt 0 (α 27) n).1 = true ∧ (prt 0 (α 27) n).2.1 = n then (-1) else nI (prt 0 (α 27) n).2.1)) ∧ ∃ (β : Nat → Nat → Int32) (c : List Int32), s = (β, δ) ∧ Rd α β 0 n (prt 0 (α 27) n).2.1 c ∧ ((prt 0 (α 27) n).1 = true → c = (prt 0 (α 27) n).2.2)) := by
  have hn := hT.1
  have hk := pr_ok (u := 0) (n := n) (x := (nxb (α 27) n)) (by decide) nxb_x 60 0 0 0 (by omega)
  have hr0 : Rd α (rf_w (rf_w (rf_w (rf_w α 75 1 (nI 27)) 75 2 (nI 1006)) 75 3 (nI 0)) 76 0 (nI 0)) 0 n 0 [] := ⟨fun k k1 k2 k3 => by rw [rf_w_row k2, rf_w_row k1, rf_w_row k1, rf_w_row k1], by simp [rf_w_at], by simp [rf_w_at], by simp [rf_w_at], by simp [rf_w_at], fun i hi => absurd hi (Nat.not_lt_zero i), Nat.le_refl _⟩
  have hrd := (c_rd (Ln := Ln) (xs := xs) (α := α) (δ := δ) (u := 0) (n := n) (by decide) hT 60).1 0 0 0 _ [] (by omega) (by omega) (by omega) (by omega) hr0
  change PK 0 n 0 (prt 0 (α 27) n) at hk
  change rf_Ok _ _ 53 _ _ _ _ (RQ α δ 0 n [] (prt 0 (α 27) n)) at hrd
  generalize (prt 0 (α 27) n) = Pp at hrd hk ⊢
  obtain ⟨bb, a2, c2⟩ := Pp
  obtain ⟨k1, k2, -⟩ := hk
  simp only at k1 k2
  cases bb
  · refine ok_step (ps := []) (L' := [some (.ref 75), some (.ref 26), some (.int (nI 0))]) (st' := [.int (nI 0), .ref 75]) (σ' := (rf_w α 75 1 (nI 27), δ)) (pc' := 7) kX2_read_0 rfl rfl rf_a0 ?_
    refine ok_if_ne bX2_read_7 (fun h7 => absurd ((by decide)) h7) (fun _ => ?_)
    refine ok_step (ps := []) (L' := [some (.ref 75), some (.ref 26), some (.int (nI 0))]) (st' := [.ref 1005, .ref 75]) (σ' := (rf_w α 75 1 (nI 27), δ)) (pc' := 12) kX2_read_10 rfl rfl rf_a0 ?_
    refine ok_goto bX2_read_12 ?_
    refine ok_step (ps := []) (L' := [some (.ref 75), some (.ref 26), some (.int (nI 0))]) (st' := [.int (nI 0), .int (nI 0), .ref 75]) (σ' := (rf_w (rf_w (rf_w (rf_w α 75 1 (nI 27)) 75 2 (nI 1006)) 75 3 (nI 0)) 76 0 (nI 0), δ)) (pc' := 36) kX2_read_17 rfl rfl rf_a0 ?_
    refine ok_Vx (As := [.int (nI 0), .int (nI 0)]) (b := 75) (st := []) mkX2_readLevel qX2_read_36 rfl (rc_75) rfl rfl rfl rfl (Nat.le_of_ble_eq_true rfl) (RQ_f hrd rfl) (fun r1 σ1 hq => ?_)
    obtain ⟨rfl, β, c3, rfl, hr⟩ := hq
    refine ok_if_eq bX2_read_39 (fun _ => ?_) (fun h39 => absurd ((by decide)) h39)
    refine ok_step (ps := []) (L' := [some (.ref 75), some (.ref 26), some (.int (nI 0))]) (st' := [.int (β 75 3)]) (σ' := (β, δ)) (pc' := 61) kX2_read_57 rfl rfl rf_a0 ?_
    try rw [(show β 75 3 = nI a2 from hr.2.2.2.1)]
    refine ok_reti eX2_read_61 rfl ?_
    exact ⟨by rw [if_neg (fun h => Bool.noConfusion h.1)], β, c3, rfl, hr, fun h => Bool.noConfusion h⟩
  · refine ok_step (ps := []) (L' := [some (.ref 75), some (.ref 26), some (.int (nI 0))]) (st' := [.int (nI 0), .ref 75]) (σ' := (rf_w α 75 1 (nI 27), δ)) (pc' := 7) kX2_read_0 rfl rfl rf_a0 ?_
    refine ok_if_ne bX2_read_7 (fun h7 => absurd ((by decide)) h7) (fun _ => ?_)
    refine ok_step (ps := []) (L' := [some (.ref 75), some (.ref 26), some (.int (nI 0))]) (st' := [.ref 1005, .ref 75]) (σ' := (rf_w α 75 1 (nI 27), δ)) (pc' := 12) kX2_read_10 rfl rfl rf_a0 ?_
    refine ok_goto bX2_read_12 ?_
    refine ok_step (ps := []) (L' := [some (.ref 75), some (.ref 26), some (.int (nI 0))]) (st' := [.int (nI 0), .int (nI 0), .ref 75]) (σ' := (rf_w (rf_w (rf_w (rf_w α 75 1 (nI 27)) 75 2 (nI 1006)) 75 3 (nI 0)) 76 0 (nI 0), δ)) (pc' := 36) kX2_read_17 rfl rfl rf_a0 ?_
    refine ok_Vx (As := [.int (nI 0), .int (nI 0)]) (b := 75) (st := []) mkX2_readLevel qX2_read_36 rfl (rc_75) rfl rfl rfl rfl (Nat.le_of_ble_eq_true rfl) (RQ_t hrd rfl) (fun r1 σ1 hq => ?_)
    obtain ⟨rfl, β, rfl, hr⟩ := hq
    refine ok_if_eq bX2_read_39 (fun h39 => absurd h39 ((by decide))) (fun _ => ?_)
    refine ok_step (ps := []) (L' := [some (.ref 75), some (.ref 26), some (.int (nI 0))]) (st' := [.int (β 26 0), .int (β 75 3)]) (σ' := (β, δ)) (pc' := 50) kX2_read_42 rfl rfl rf_a0 ?_
    try rw [(show β 75 3 = nI a2 from hr.2.2.2.1)]
    try rw [(show β 26 0 = nI n from (congrFun (hr.1 26 (by decide) (by decide) (by decide)) 0).trans hT.2.1)]
    refine ok_icmp_ne bX2_read_50 (fun h50 => ?_) (fun h50 => ?_)
    · refine ok_step (ps := []) (L' := [some (.ref 75), some (.ref 26), some (.int (nI 0))]) (st' := [.int (β 75 3)]) (σ' := (β, δ)) (pc' := 61) kX2_read_57 rfl rfl rf_a0 ?_
      try rw [(show β 75 3 = nI a2 from hr.2.2.2.1)]
      refine ok_reti eX2_read_61 rfl ?_
      exact ⟨by rw [if_neg (fun h => h50 (congrArg nI h.2))], β, _, rfl, hr, fun _ => rfl⟩
    · refine ok_step (ps := []) (L' := [some (.ref 75), some (.ref 26), some (.int (nI 0))]) (st' := [.int (-1)]) (σ' := (β, δ)) (pc' := 54) kX2_read_53 rfl rfl rf_a0 ?_
      refine ok_goto bX2_read_54 ?_
      refine ok_reti eX2_read_61 rfl ?_
      exact ⟨by rw [if_pos ⟨rfl, show a2 = n from nI_inj h50 (by omega) (by omega)⟩], β, _, rfl, hr, fun _ => rfl⟩
theorem c_read1 (hT : Tp α n) : rf_Ok (rf_T Ln xs) MX2_read 56 0 [some (.ref 75), some (.ref 26), some (.int (nI 1))] [] (α, δ) (fun r s => r = some (.int (if (prt 1 (α 27) n).1 = true ∧ (prt 1 (α 27) n).2.1 = n then (-1) else nI (prt 1 (α 27) n).2.1)) ∧ ∃ (β : Nat → Nat → Int32) (c : List Int32), s = (β, δ) ∧ Rd α β 1 n (prt 1 (α 27) n).2.1 c ∧ ((prt 1 (α 27) n).1 = true → c = (prt 1 (α 27) n).2.2)) := by
  have hn := hT.1
  have hk := pr_ok (u := 1) (n := n) (x := (nxb (α 27) n)) (by decide) nxb_x 60 0 0 0 (by omega)
  have hr0 : Rd α (rf_w (rf_w (rf_w (rf_w α 75 1 (nI 27)) 75 2 (nI 1007)) 75 3 (nI 0)) 76 0 (nI 0)) 1 n 0 [] := ⟨fun k k1 k2 k3 => by rw [rf_w_row k2, rf_w_row k1, rf_w_row k1, rf_w_row k1], by simp [rf_w_at], by simp [rf_w_at], by simp [rf_w_at], by simp [rf_w_at], fun i hi => absurd hi (Nat.not_lt_zero i), Nat.le_refl _⟩
  have hrd := (c_rd (Ln := Ln) (xs := xs) (α := α) (δ := δ) (u := 1) (n := n) (by decide) hT 60).1 0 0 0 _ [] (by omega) (by omega) (by omega) (by omega) hr0
  change PK 1 n 0 (prt 1 (α 27) n) at hk
  change rf_Ok _ _ 53 _ _ _ _ (RQ α δ 1 n [] (prt 1 (α 27) n)) at hrd
  generalize (prt 1 (α 27) n) = Pp at hrd hk ⊢
  obtain ⟨bb, a2, c2⟩ := Pp
  obtain ⟨k1, k2, -⟩ := hk
  simp only at k1 k2
  cases bb
  · refine ok_step (ps := []) (L' := [some (.ref 75), some (.ref 26), some (.int (nI 1))]) (st' := [.int (nI 1), .ref 75]) (σ' := (rf_w α 75 1 (nI 27), δ)) (pc' := 7) kX2_read_0 rfl rfl rf_a0 ?_
    refine ok_if_ne bX2_read_7 (fun _ => ?_) (fun h7 => absurd h7 ((by decide)))
    refine ok_step (ps := []) (L' := [some (.ref 75), some (.ref 26), some (.int (nI 1))]) (st' := [.ref 1006, .ref 75]) (σ' := (rf_w α 75 1 (nI 27), δ)) (pc' := 17) kX2_read_15 rfl rfl rf_a0 ?_
    refine ok_step (ps := []) (L' := [some (.ref 75), some (.ref 26), some (.int (nI 1))]) (st' := [.int (nI 0), .int (nI 0), .ref 75]) (σ' := (rf_w (rf_w (rf_w (rf_w α 75 1 (nI 27)) 75 2 (nI 1007)) 75 3 (nI 0)) 76 0 (nI 0), δ)) (pc' := 36) kX2_read_17 rfl rfl rf_a0 ?_
    refine ok_Vx (As := [.int (nI 0), .int (nI 0)]) (b := 75) (st := []) mkX2_readLevel qX2_read_36 rfl (rc_75) rfl rfl rfl rfl (Nat.le_of_ble_eq_true rfl) (RQ_f hrd rfl) (fun r1 σ1 hq => ?_)
    obtain ⟨rfl, β, c3, rfl, hr⟩ := hq
    refine ok_if_eq bX2_read_39 (fun _ => ?_) (fun h39 => absurd ((by decide)) h39)
    refine ok_step (ps := []) (L' := [some (.ref 75), some (.ref 26), some (.int (nI 1))]) (st' := [.int (β 75 3)]) (σ' := (β, δ)) (pc' := 61) kX2_read_57 rfl rfl rf_a0 ?_
    try rw [(show β 75 3 = nI a2 from hr.2.2.2.1)]
    refine ok_reti eX2_read_61 rfl ?_
    exact ⟨by rw [if_neg (fun h => Bool.noConfusion h.1)], β, c3, rfl, hr, fun h => Bool.noConfusion h⟩
  · refine ok_step (ps := []) (L' := [some (.ref 75), some (.ref 26), some (.int (nI 1))]) (st' := [.int (nI 1), .ref 75]) (σ' := (rf_w α 75 1 (nI 27), δ)) (pc' := 7) kX2_read_0 rfl rfl rf_a0 ?_
    refine ok_if_ne bX2_read_7 (fun _ => ?_) (fun h7 => absurd h7 ((by decide)))
    refine ok_step (ps := []) (L' := [some (.ref 75), some (.ref 26), some (.int (nI 1))]) (st' := [.ref 1006, .ref 75]) (σ' := (rf_w α 75 1 (nI 27), δ)) (pc' := 17) kX2_read_15 rfl rfl rf_a0 ?_
    refine ok_step (ps := []) (L' := [some (.ref 75), some (.ref 26), some (.int (nI 1))]) (st' := [.int (nI 0), .int (nI 0), .ref 75]) (σ' := (rf_w (rf_w (rf_w (rf_w α 75 1 (nI 27)) 75 2 (nI 1007)) 75 3 (nI 0)) 76 0 (nI 0), δ)) (pc' := 36) kX2_read_17 rfl rfl rf_a0 ?_
    refine ok_Vx (As := [.int (nI 0), .int (nI 0)]) (b := 75) (st := []) mkX2_readLevel qX2_read_36 rfl (rc_75) rfl rfl rfl rfl (Nat.le_of_ble_eq_true rfl) (RQ_t hrd rfl) (fun r1 σ1 hq => ?_)
    obtain ⟨rfl, β, rfl, hr⟩ := hq
    refine ok_if_eq bX2_read_39 (fun h39 => absurd h39 ((by decide))) (fun _ => ?_)
    refine ok_step (ps := []) (L' := [some (.ref 75), some (.ref 26), some (.int (nI 1))]) (st' := [.int (β 26 0), .int (β 75 3)]) (σ' := (β, δ)) (pc' := 50) kX2_read_42 rfl rfl rf_a0 ?_
    try rw [(show β 75 3 = nI a2 from hr.2.2.2.1)]
    try rw [(show β 26 0 = nI n from (congrFun (hr.1 26 (by decide) (by decide) (by decide)) 0).trans hT.2.1)]
    refine ok_icmp_ne bX2_read_50 (fun h50 => ?_) (fun h50 => ?_)
    · refine ok_step (ps := []) (L' := [some (.ref 75), some (.ref 26), some (.int (nI 1))]) (st' := [.int (β 75 3)]) (σ' := (β, δ)) (pc' := 61) kX2_read_57 rfl rfl rf_a0 ?_
      try rw [(show β 75 3 = nI a2 from hr.2.2.2.1)]
      refine ok_reti eX2_read_61 rfl ?_
      exact ⟨by rw [if_neg (fun h => h50 (congrArg nI h.2))], β, _, rfl, hr, fun _ => rfl⟩
    · refine ok_step (ps := []) (L' := [some (.ref 75), some (.ref 26), some (.int (nI 1))]) (st' := [.int (-1)]) (σ' := (β, δ)) (pc' := 54) kX2_read_53 rfl rfl rf_a0 ?_
      refine ok_goto bX2_read_54 ?_
      refine ok_reti eX2_read_61 rfl ?_
      exact ⟨by rw [if_pos ⟨rfl, show a2 = n from nI_inj h50 (by omega) (by omega)⟩], β, _, rfl, hr, fun _ => rfl⟩
end H57
