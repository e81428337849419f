/-- both objects' methods: like answers, and J again -/
def Op (T : rf_Tb) (Mc Mm : rf_M) (Lc Lm : List (Option Value)) (α μ : Nat → Nat → Int32) : Prop :=
  rf_Ok T Mc 60 0 Lc [] (α, μ) (fun r s => ∃ α' : Nat → Nat → Int32, s = (α', μ) ∧ rf_Ok T Mm 60 0 Lm [] (α', μ) (fun r2 s2 => r2 = r ∧ ∃ μ' : Nat → Nat → Int32, s2 = (α', μ') ∧ J α' μ'))
theorem J0.err {α μ : Nat → Nat → Int32} (h : J0 α μ) {k : Nat} (hk : k < 6) : J0 (rf_w α 93 k (α 93 k + nI 1)) (rf_w μ 97 k (μ 97 k + nI 1)) := by
  have a : ∀ k', k' ≠ 93 → rf_w α 93 k (α 93 k + nI 1) k' = α k' := fun k' hk' => rf_w_row hk'
  have m : ∀ k', k' ≠ 97 → rf_w μ 97 k (μ 97 k + nI 1) k' = μ k' := fun k' hk' => rf_w_row hk'
  obtain ⟨⟨r1, t1, t2⟩, h2, h3, h4, ⟨v1, v2, v3⟩, h6⟩ := h
  refine ⟨⟨?_, ?_, ?_⟩, fun h0 => ?_, ?_, fun k' hk' => ?_, ⟨?_, ?_, fun i hi => ?_⟩, fun s hs => ?_⟩
  · rw [m 95 (by omega)]; exact r1.same (fun c hc i => by rw [a _ (by omega)]) (fun _ _ => rfl)
  · rw [m 95 (by omega), a 29 (by omega), a 30 (by omega)]; exact t1
  · rw [m 95 (by omega), a 32 (by omega), a 33 (by omega)]; exact t2
  · rw [m 94 (by omega)] at h0
    obtain ⟨q1, q2, q3, q4⟩ := h2 h0
    rw [m 96 (by omega)]
    exact ⟨q1.same (fun c hc i => by rw [a _ (by omega)]) (fun _ _ => rfl), q2, by rw [a _ (by omega), a _ (by omega)]; exact q3, by rw [a _ (by omega), a _ (by omega)]; exact q4⟩
  · rw [a 0 (by omega), m 94 (by omega)]; exact h3
  · rw [rf_w_at, rf_w_at]
    by_cases e : k' = k
    · simp only [e, and_self, if_true]
      rw [h4 k hk]
    · simp only [e, and_false, if_false]
      exact h4 k' hk'
  · rw [a 83 (by omega), m 94 (by omega)]; exact v1
  · rw [m 94 (by omega)]; exact v2
  · rw [a 84 (by omega), m 103 (by omega)]; exact v3 i hi
  · rw [a 86 (by omega), a 87 (by omega), m 104 (by omega), m 105 (by omega), m 106 (by omega), a (89 + s) (by omega)]; exact h6 s hs
theorem J.err {α μ : Nat → Nat → Int32} (h : J α μ) {k : Nat} (hk : k < 6) : J (rf_w α 93 k (α 93 k + nI 1)) (rf_w μ 97 k (μ 97 k + nI 1)) := ⟨h.1.err hk, by rw [rf_w_row (by decide)]; exact h.2⟩
section H26
variable {Ln : Nat} {xs : Nat → Int32} {α μ : Nat → Nat → Int32}
theorem lt_ne {x y : Int32} (h : x < y) : ¬ x = y := fun e => by
  subst e
  exact absurd h Int32.lt_irrefl
theorem full_eq {x : Int32} {a n : Nat} (h : x = nI a) (ha : a ≤ n ∧ n < 2147483648) (hn : ¬ x < nI n) : x = nI n := by
  subst h
  rcases Nat.lt_or_ge a n with h1 | h1
  · exact absurd (nI_lt h1 (by omega)) hn
  · rw [show a = n by omega]
theorem cn_upd {d : Nat → Int32} {j k : Nat} {v : Int32} (h : k ≠ j) : cn (upd d j v) k = cn d k := by
  unfold cn
  rw [pk_un h]
theorem cn_self {d : Nat → Int32} {j : Nat} {v : Int32} : cn (upd d j v) j = v.toNatClampNeg := by
  unfold cn
  rw [pk_us]
theorem c_addStation  (hR : Rl 1 α (μ 95)) (hI : Iv (μ 95)) : rf_At (rf_T Ln xs) MX4_addStation 1 0 ([some (.ref 2)], [], 108, (α, μ)) (some (.int (nI (1 + cn (μ 95) 1) - nI 1))) 108 (rf_w α 2 0 (nI (1 + cn (μ 95) 1)), μ) := by
  refine rf_pa ?_
  have b1 := hI.le1
  refine ok_step (ps := []) (L' := [some (.ref 2)]) (st' := [.int (((rf_w α 2 0 ((α 2 0) + (nI 1))) 2 0) - (nI 1))]) (σ' := (rf_w α 2 0 ((α 2 0) + (nI 1)), μ)) (pc' := 16) kX4_addStation_0 rfl rfl rf_a0 ?_
  try rw [(show α 2 0 = μ 95 1 from hR 1 0 1 rfl)]
  try rw [(show ((μ 95 1) + (nI 1)) = nI (1 + cn (μ 95) 1) from rf_eq (rf_nadd (x := μ 95 1) (y := nI 1) (hI.at1) rfl) (by omega))]
  try rw [(show (rf_w α 2 0 (nI (1 + cn (μ 95) 1))) 2 0 = (nI (1 + cn (μ 95) 1)) from by rw [rf_w_at, if_pos ⟨rfl, rfl⟩])]
  refine ok_reti eX4_addStation_16 rfl ?_
  exact ⟨rfl, rfl⟩
theorem iv_z {d : Nat → Int32} (h : Iv d) (v : Int32) : Iv (upd d 10 v) := by
  obtain ⟨h1, h2, h3, h4, h5⟩ := h
  refine ⟨h1.put (fun b hb => ?_), fun l hl => ?_, fun t ht => ?_, fun g hg => ?_, fun s hs => ?_⟩
  · cases hb
  · rw [cn_upd (by omega)] at hl ⊢
    exact h2 l hl
  · rw [cn_upd (by omega)] at ht ⊢
    rw [cn_upd (by omega)]
    exact h3 t ht
  · rw [cn_upd (by omega)] at hg ⊢
    rw [cn_upd (by omega)]
    exact h4 g hg
  · rw [cn_upd (by omega)] at hs ⊢
    rw [cn_upd (by omega)]
    exact h5 s hs
theorem iv_cnt1 {d : Nat → Int32} (h : Iv d) (hn : cn d 1 < 8) : Iv (upd d 1 (nI (1 + cn d 1))) := by
  obtain ⟨h1, h2, h3, h4, h5⟩ := h
  refine ⟨h1.put (fun b hb => ?_), fun l hl => ?_, fun t ht => ?_, fun g hg => ?_, fun s hs => ?_⟩
  · cases hb
    exact ⟨1 + cn d 1, by omega, rfl⟩
  · rw [cn_upd (by omega)] at hl ⊢
    exact h2 l hl
  · rw [cn_upd (by omega)] at ht ⊢
    rw [cn_upd (by omega)]
    exact h3 t ht
  · rw [cn_upd (by omega)] at hg ⊢
    rw [cn_upd (by omega)]
    exact h4 g hg
  · rw [cn_upd (by omega)] at hs ⊢
    rw [cn_upd (by omega)]
    exact h5 s hs
theorem op_seed {v : Int32} (hJ : J α μ)  : Op (rf_T Ln xs) MX11_seed MX12_seed [some (.ref 0), some (.int v), none] [some (.ref 94), some (.int v), none] α μ := by
  have hR := hJ.1.1.1
  have hI := hJ.2
  have b0 := hI.le0
  have b1 := hI.le1
  have b2 := hI.le2
  have b3 := hI.le3
  have b4 := hI.le4
  have b5 := hI.le5
  have b6 := hI.le6
  have b8 := hI.le8
  have b9 := hI.le9
  have b11 := hI.le11
  have b12 := hI.le12
  refine ok_step (ps := []) (L' := [some (.ref 0), some (.int v), some (.int (α 22 2))]) (st' := [.int (α 22 2)]) (σ' := (rf_w α 22 2 v, μ)) (pc' := 23) kX11_seed_0 rfl rfl rf_a0 ?_
  try rw [(show α 22 2 = μ 95 10 from hR 21 2 10 rfl)]
  refine ok_reti eX11_seed_23 rfl ?_
  refine ⟨_, rfl, ?_⟩
  refine ok_step (ps := [rf_in (nI 10) 700, rf_in (nI 10) 700]) (L' := [some (.ref 94), some (.int v), some (.int (μ 95 ((nI 10).toNatClampNeg)))]) (st' := [.int (μ 95 ((nI 10).toNatClampNeg))]) (σ' := (rf_w α 22 2 v, rf_w μ 95 ((nI 10).toNatClampNeg) v)) (pc' := 17) kX12_seed_0 rfl rfl (rf_a1 (rf_in_n (a := 10) rfl (by omega)) (rf_a1 (rf_in_n (a := 10) rfl (by omega)) rf_a0)) ?_
  try rw [(show (nI 10).toNatClampNeg = 10 from rf_cl_n rfl (by omega))]
  refine ok_reti eX12_seed_17 rfl ?_
  refine ⟨rfl, _, rfl, hJ.1.put (c := 21) (i := 2) rfl v, ?_⟩
  rw [rf_w_self]
  exact iv_z hI v
theorem op_station (hJ : J α μ)  : Op (rf_T Ln xs) MX11_station MX12_station [some (.ref 0)] [some (.ref 94)] α μ := by
  have hR := hJ.1.1.1
  have hI := hJ.2
  have b0 := hI.le0
  have b1 := hI.le1
  have b2 := hI.le2
  have b3 := hI.le3
  have b4 := hI.le4
  have b5 := hI.le5
  have b6 := hI.le6
  have b8 := hI.le8
  have b9 := hI.le9
  have b11 := hI.le11
  have b12 := hI.le12
  refine ok_step (ps := []) (L' := [some (.ref 0)]) (st' := [.int (nI 8), .int (α 2 0)]) (σ' := (α, μ)) (pc' := 12) kX11_station_0 rfl rfl rf_a0 ?_
  try rw [(show α 2 0 = μ 95 1 from hR 1 0 1 rfl)]
  refine ok_icmp_lt bX11_station_12 (fun h12 => ?_) (fun h12 => ?_)
  · refine ok_step (ps := []) (L' := [some (.ref 0)]) (st' := [.ref 2]) (σ' := (α, μ)) (pc' := 29) kX11_station_22 rfl rfl rf_a0 ?_
    refine ok_V (As := []) (b := 2) (st := []) mkX4_addStation qX11_station_29 rfl (rc_2) rfl rfl rfl rfl (Nat.le_of_ble_eq_true rfl) (c_addStation hR hI) ?_
    refine ok_reti eX11_station_32 rfl ?_
    refine ⟨_, rfl, ?_⟩
    refine ok_step (ps := [rf_in (nI 1) 700]) (L' := [some (.ref 94)]) (st' := [.int (nI 8), .int (μ 95 ((nI 1).toNatClampNeg))]) (σ' := (rf_w α 2 0 (nI (1 + cn (μ 95) 1)), μ)) (pc' := 8) kX12_station_0 rfl rfl (rf_a1 (rf_in_n (a := 1) rfl (by omega)) rf_a0) ?_
    try rw [(show (nI 1).toNatClampNeg = 1 from rf_cl_n rfl (by omega))]
    refine ok_icmp_ne bX12_station_8 (fun _ => ?_) (fun g8 => absurd g8 ((lt_ne h12)))
    refine ok_step (ps := [rf_in (nI 1) 700, rf_in (nI 1) 700, rf_in (nI 1) 700]) (L' := [some (.ref 94)]) (st' := [.int (((rf_w μ 95 ((nI 1).toNatClampNeg) ((μ 95 ((nI 1).toNatClampNeg)) + (nI 1))) 95 ((nI 1).toNatClampNeg)) - (nI 1))]) (σ' := (rf_w α 2 0 (nI (1 + cn (μ 95) 1)), rf_w μ 95 ((nI 1).toNatClampNeg) ((μ 95 ((nI 1).toNatClampNeg)) + (nI 1)))) (pc' := 35) kX12_station_17 rfl rfl (rf_a1 (rf_in_n (a := 1) rfl (by omega)) (rf_a1 (rf_in_n (a := 1) rfl (by omega)) (rf_a1 (rf_in_n (a := 1) rfl (by omega)) rf_a0))) ?_
    try rw [(show (nI 1).toNatClampNeg = 1 from rf_cl_n rfl (by omega))]
    try rw [(show ((μ 95 1) + (nI 1)) = nI (1 + cn (μ 95) 1) from rf_eq (rf_nadd (x := μ 95 1) (y := nI 1) (hI.at1) rfl) (by omega))]
    try rw [(show (rf_w μ 95 1 (nI (1 + cn (μ 95) 1))) 95 1 = (nI (1 + cn (μ 95) 1)) from by rw [rf_w_at, if_pos ⟨rfl, rfl⟩])]
    refine ok_reti eX12_station_35 rfl ?_
    refine ⟨rfl, _, rfl, hJ.1.put (c := 1) (i := 0) rfl _, ?_⟩
    rw [rf_w_self]
    exact iv_cnt1 hI (by have := Int32.lt_iff_toInt_lt.mp h12; rw [hI.at1, nI_toInt (by omega)] at this; have e : (nI 8).toInt = 8 := rfl; omega)
  · refine ok_step (ps := []) (L' := [some (.ref 0)]) (st' := [.int (-1000000004), .ref 0]) (σ' := (α, μ)) (pc' := 18) kX11_station_15 rfl rfl rf_a0 ?_
    refine ok_V (As := [.int (-1000000004)]) (b := 0) (st := []) mkX11_error qX11_station_18 rfl (rc_0) rfl rfl rfl rfl (Nat.le_of_ble_eq_true rfl) (c_error (k := 4) (by decide) (by decide) (by decide)) ?_
    refine ok_reti eX11_station_21 rfl ?_
    refine ⟨_, rfl, ?_⟩
    refine ok_step (ps := [rf_in (nI 1) 700]) (L' := [some (.ref 94)]) (st' := [.int (nI 8), .int (μ 95 ((nI 1).toNatClampNeg))]) (σ' := (rf_w α 93 4 (α 93 4 + nI 1), μ)) (pc' := 8) kX12_station_0 rfl rfl (rf_a1 (rf_in_n (a := 1) rfl (by omega)) rf_a0) ?_
    try rw [(show (nI 1).toNatClampNeg = 1 from rf_cl_n rfl (by omega))]
    refine ok_icmp_ne bX12_station_8 (fun g8 => absurd ((full_eq (hI.at1) (by omega) h12)) g8) (fun _ => ?_)
    refine ok_step (ps := []) (L' := [some (.ref 94)]) (st' := [.int (nI 4), .ref 94]) (σ' := (rf_w α 93 4 (α 93 4 + nI 1), μ)) (pc' := 13) kX12_station_11 rfl rfl rf_a0 ?_
    refine ok_V (As := [.int (nI 4)]) (b := 94) (st := []) mkX12_finds qX12_station_13 rfl (rc_94) rfl rfl rfl rfl (Nat.le_of_ble_eq_true rfl) (m_finds (k := 4) (by decide)) ?_
    refine ok_reti eX12_station_16 rfl ?_
    exact ⟨rfl, _, rfl, hJ.err (k := 4) (by decide)⟩
end H26
