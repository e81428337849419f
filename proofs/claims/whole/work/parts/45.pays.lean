theorem sw_cn {d : Nat → Int32} {k n : Nat} (h : (d k).toInt = (n : Int)) (hn : n < 2147483648) : cn d k = n := by
  unfold cn
  rw [sw_eq h hn, nI_clamp (by omega)]
theorem le0_nat {x : Int32} {a : Nat} (h : x = nI a) (h0 : x ≤ 0) (ha : a < 2147483648 := by omega) : x = 0 := by
  subst h
  have : a ≤ 0 := (nI_leI (b := 0) (by omega) (by omega)).mp h0
  rw [show a = 0 by omega]
  rfl
theorem gv_congr {u : Nat} {steps : Int32} {code d nm nm' : Nat → Int32} (hu : u ≤ 1) (hT : Tx u steps code (d (520 + u)) (fun i => d (530 + 50 * u + i))) (h : ∀ i, i + u < 5 → nm' i = nm i) : gv u d nm' = gv u d nm := by
  unfold gv
  by_cases h0 : d (520 + u) = 0
  · rw [if_pos h0, if_pos h0]
    by_cases h1 : u = 0
    · subst h1
      rw [if_pos rfl, if_pos rfl, h 0 (by omega), h 1 (by omega), h 2 (by omega), h 3 (by omega)]
    · rw [if_neg h1, if_neg h1]
  · rw [if_neg h0, if_neg h0]
    obtain ⟨m, c, h1, -, h2, h3, -, h4, -⟩ := tx_use hu hT (fun e => h0 ((tx_0 hT).mp e)) nm
    rw [show cn d (520 + u) = m from by unfold cn; rw [h1, nI_clamp (by omega)], h3]
    show (c.foldl (ev1 nm') []).headD 0 = (c.foldl (ev1 nm) []).headD 0
    rw [ev_congr hu h c [] h4]
section SP45
variable (d : Nat → Int32)
def s_go (g : Nat) : Int32 := d (193 + 8 * g) - d (192 + 8 * g)
def s_fare (g : Nat) : Int32 := if d (190 + 8 * g) = nI 4 then (if s_go d g ≤ nI 3 then d 8 / nI 2 else d 8) else d 8
def s_wei (g : Nat) (fine p q : Int32) : Bool := decide (¬ gv 0 d (nm5 (s_fare d g) fine p q (s_go d g)) = 0)
/-- whether a GROUP pays, with a FINE, and p of q as ODDS -/
def s_pays (g : Nat) (fine p q : Int32) : Bool := match cn d (190 + 8 * g) with
  | 1 => true
  | 2 => s_wei d g fine (d (195 + 8 * g)) (d (196 + 8 * g))
  | 3 => s_wei d g fine p q
  | 4 => s_wei d g fine (d (195 + 8 * g)) (d (196 + 8 * g))
  | 5 => decide (d 0 < d (197 + 8 * g))
  | 6 => decide (d (151 + 3 * cn d (191 + 8 * g)) < nI 1100)
  | 7 => decide (nI (10 + cn d 0) < d (197 + 8 * g))
  | _ => false
def s_now (g : Nat) : Bool := s_pays d g (d 9) (s_with d (d (191 + 8 * g))) (rf_max (s_all d) (nI 1))
end SP45
section SP45b
variable {d : Nat → Int32} {g : Nat} {fine p q : Int32}
theorem sp_1 (h : cn d (190 + 8 * g) = 1) : s_pays d g fine p q = true := by
  unfold s_pays
  rw [h]
  rfl
theorem sp_2 (h : cn d (190 + 8 * g) = 2) : s_pays d g fine p q = s_wei d g fine (d (195 + 8 * g)) (d (196 + 8 * g)) := by
  unfold s_pays
  rw [h]
  rfl
theorem sp_3 (h : cn d (190 + 8 * g) = 3) : s_pays d g fine p q = s_wei d g fine p q := by
  unfold s_pays
  rw [h]
  rfl
theorem sp_4 (h : cn d (190 + 8 * g) = 4) : s_pays d g fine p q = s_wei d g fine (d (195 + 8 * g)) (d (196 + 8 * g)) := by
  unfold s_pays
  rw [h]
  rfl
theorem sp_5 (h : cn d (190 + 8 * g) = 5) : s_pays d g fine p q = decide (d 0 < d (197 + 8 * g)) := by
  unfold s_pays
  rw [h]
  rfl
theorem sp_6 (h : cn d (190 + 8 * g) = 6) : s_pays d g fine p q = decide (d (151 + 3 * cn d (191 + 8 * g)) < nI 1100) := by
  unfold s_pays
  rw [h]
  rfl
theorem sp_7 (h : cn d (190 + 8 * g) = 7) : s_pays d g fine p q = decide (nI (10 + cn d 0) < d (197 + 8 * g)) := by
  unfold s_pays
  rw [h]
  rfl
theorem sp_0 (h : cn d (190 + 8 * g) = 0) : s_pays d g fine p q = false := by
  unfold s_pays
  rw [h]
  rfl
theorem k_0 (hI : Iv d) (hg : g < 16) (h : (d (190 + 8 * g)).toInt < 1 ∨ 7 < (d (190 + 8 * g)).toInt) : cn d (190 + 8 * g) = 0 := by
  have h1 := hI.leb (b := 7) (bd_190 (i := g) hg rfl) (by decide)
  have h2 := hI.atb (b := 7) (bd_190 (i := g) hg rfl) (by decide)
  rw [h2, nI_toInt (by omega)] at h
  omega
end SP45b
section H45
variable {Ln : Nat} {xs : Nat → Int32} {α μ δ : Nat → Nat → Int32}
theorem c_go {g : Nat} (hR : Rl 1 α (μ 95)) (hI : Iv (μ 95)) (hg : g < 16) : rf_At (rf_T Ln xs) MX3_stopsGone 1 0 ([some (.ref 10), some (.int (nI g))], [], 108, (α, δ)) (some (.int (s_go (μ 95) g))) 108 (α, δ) := by
  refine rf_pa ?_
  refine ok_step (ps := [rf_in (nI g) 16, rf_in (nI g) 16]) (L' := [some (.ref 10), some (.int (nI g))]) (st' := [.int ((α 14 ((nI g).toNatClampNeg)) - (α 13 ((nI g).toNatClampNeg)))]) (σ' := (α, δ)) (pc' := 13) kX3_stopsGone_0 rfl rfl (rf_a1 (rf_in_n (a := g) rfl (by omega)) (rf_a1 (rf_in_n (a := g) rfl (by omega)) rf_a0)) ?_
  try rw [(show (nI g).toNatClampNeg = g from rf_cl_n rfl (by omega))]
  try rw [(show α 14 g = μ 95 (193 + 8 * g) from rl_13 hR (i := g) (by omega) (by omega))]
  try rw [(show (nI g).toNatClampNeg = g from rf_cl_n rfl (by omega))]
  try rw [(show α 13 g = μ 95 (192 + 8 * g) from rl_12 hR (i := g) (by omega) (by omega))]
  refine ok_reti eX3_stopsGone_13 rfl ?_
  exact ⟨rfl, rfl⟩
theorem c_fare {g : Nat} (hR : Rl 1 α (μ 95)) (hI : Iv (μ 95)) (hg : g < 16) : rf_At (rf_T Ln xs) MX3_fareWeighed 2 0 ([some (.ref 10), some (.int (nI g))], [], 108, (α, δ)) (some (.int (s_fare (μ 95) g))) 108 (α, δ) := by
  refine rf_pa ?_
  refine ok_step (ps := [rf_in (nI g) 16]) (L' := [some (.ref 10), some (.int (nI g))]) (st' := [.int (nI 4), .int (α 11 ((nI g).toNatClampNeg))]) (σ' := (α, δ)) (pc' := 7) kX3_fareWeighed_0 rfl rfl (rf_a1 (rf_in_n (a := g) rfl (by omega)) rf_a0) ?_
  try rw [(show (nI g).toNatClampNeg = g from rf_cl_n rfl (by omega))]
  try rw [(show α 11 g = μ 95 (190 + 8 * g) from rl_10 hR (i := g) (by omega) (by omega))]
  refine ok_icmp_ne bX3_fareWeighed_7 (fun h7 => ?_) (fun h7 => ?_)
  · refine ok_step (ps := []) (L' := [some (.ref 10), some (.int (nI g))]) (st' := [.int (α 10 1)]) (σ' := (α, δ)) (pc' := 32) kX3_fareWeighed_28 rfl rfl rf_a0 ?_
    try rw [(show α 10 1 = μ 95 8 from hR 9 1 8 rfl)]
    refine ok_reti eX3_fareWeighed_32 rfl ?_
    exact ⟨by unfold s_fare; first | rw [if_neg h7] | rw [if_pos h7, if_neg (Int32.not_le.mpr h16)], rfl⟩
  · refine ok_step (ps := []) (L' := [some (.ref 10), some (.int (nI g))]) (st' := [.int (nI g), .ref 10]) (σ' := (α, δ)) (pc' := 12) kX3_fareWeighed_10 rfl rfl rf_a0 ?_
    refine ok_V (As := [.int (nI g)]) (b := 10) (st := []) mkX3_stopsGone qX3_fareWeighed_12 rfl (rc_10) rfl rfl rfl rfl (Nat.le_of_ble_eq_true rfl) (c_go hR hI (by omega)) ?_
    refine ok_step (ps := []) (L' := [some (.ref 10), some (.int (nI g))]) (st' := [.int (nI 3), .int (s_go (μ 95) g)]) (σ' := (α, δ)) (pc' := 16) kX3_fareWeighed_15 rfl rfl rf_a0 ?_
    refine ok_icmp_gt bX3_fareWeighed_16 (fun h16 => ?_) (fun h16 => ?_)
    · refine ok_step (ps := []) (L' := [some (.ref 10), some (.int (nI g))]) (st' := [.int (α 10 1)]) (σ' := (α, δ)) (pc' := 32) kX3_fareWeighed_28 rfl rfl rf_a0 ?_
      try rw [(show α 10 1 = μ 95 8 from hR 9 1 8 rfl)]
      refine ok_reti eX3_fareWeighed_32 rfl ?_
      exact ⟨by unfold s_fare; first | rw [if_neg h7] | rw [if_pos h7, if_neg (Int32.not_le.mpr h16)], rfl⟩
    · refine ok_step (ps := [rf_nz (nI 2)]) (L' := [some (.ref 10), some (.int (nI g))]) (st' := [.int ((α 10 1) / (nI 2))]) (σ' := (α, δ)) (pc' := 25) kX3_fareWeighed_19 rfl rfl (rf_a1 (by decide) rf_a0) ?_
      try rw [(show α 10 1 = μ 95 8 from hR 9 1 8 rfl)]
      refine ok_goto bX3_fareWeighed_25 ?_
      refine ok_reti eX3_fareWeighed_32 rfl ?_
      exact ⟨by unfold s_fare; rw [if_pos h7, if_pos (Int32.not_lt.mp h16)], rfl⟩
theorem c_pays {g : Nat} {fine p q : Int32} (hJ : J α μ) (hg : g < cn (μ 95) 4) : rf_Ok (rf_T Ln xs) MX10_pays 5 0 [some (.ref 1), some (.int (nI g)), some (.int fine), some (.int p), some (.int q), none, none] [] (α, δ) (fun r s => r = some (.int (bI (s_pays (μ 95) g fine p q))) ∧ ∃ α' : Nat → Nat → Int32, s = (α', δ) ∧ sA α α') := by
  have hR := hJ.1.1.1
  have hI := hJ.2
  have b4 := hI.le4
  have b11 := hI.leb (b := 11) (bd_191 (i := g) (by omega) rfl) (by decide)
  refine ok_step (ps := []) (L' := [some (.ref 1), some (.int (nI g)), some (.int fine), some (.int p), some (.int q), none, none]) (st' := [.int (nI g), .ref 10]) (σ' := (α, δ)) (pc' := 5) kX10_pays_0 rfl rfl rf_a0 ?_
  refine ok_V (As := [.int (nI g)]) (b := 10) (st := []) mkX3_fareWeighed qX10_pays_5 rfl (rc_10) rfl rfl rfl rfl (Nat.le_of_ble_eq_true rfl) (c_fare hR hI (by omega)) ?_
  refine ok_step (ps := []) (L' := [some (.ref 1), some (.int (nI g)), some (.int fine), some (.int p), some (.int q), some (.int (s_fare (μ 95) g)), none]) (st' := [.int (nI g), .ref 10]) (σ' := (α, δ)) (pc' := 15) kX10_pays_8 rfl rfl rf_a0 ?_
  refine ok_V (As := [.int (nI g)]) (b := 10) (st := []) mkX3_stopsGone qX10_pays_15 rfl (rc_10) rfl rfl rfl rfl (Nat.le_of_ble_eq_true rfl) (c_go hR hI (by omega)) ?_
  refine ok_step (ps := [rf_in (nI g) 16]) (L' := [some (.ref 1), some (.int (nI g)), some (.int fine), some (.int p), some (.int q), some (.int (s_fare (μ 95) g)), some (.int (s_go (μ 95) g))]) (st' := [.int (α 11 ((nI g).toNatClampNeg))]) (σ' := (α, δ)) (pc' := 29) kX10_pays_18 rfl rfl (rf_a1 (rf_in_n (a := g) rfl (by omega)) rf_a0) ?_
  try rw [(show (nI g).toNatClampNeg = g from rf_cl_n rfl (by omega))]
  try rw [(show α 11 g = μ 95 (190 + 8 * g) from rl_10 hR (i := g) (by omega) (by omega))]
  refine ok_table bX10_pays_29 (fun h29 => ?_) (fun i t ht h29 => ?_)
  · refine ok_step (ps := []) (L' := [some (.ref 1), some (.int (nI g)), some (.int fine), some (.int p), some (.int q), some (.int (s_fare (μ 95) g)), some (.int (s_go (μ 95) g))]) (st' := [.int (nI 0)]) (σ' := (α, δ)) (pc' := 214) kX10_pays_213 rfl rfl rf_a0 ?_
    refine ok_retz eX10_pays_214 rfl (Or.inl rfl) ?_
    exact ⟨by rw [sp_0 (k_0 hI (by omega) h29)]; rfl, _, rfl, sA.rfl α⟩
  · match i, ht, h29 with
    | 0, ht, h29 =>
      cases ht
      refine ok_step (ps := []) (L' := [some (.ref 1), some (.int (nI g)), some (.int fine), some (.int p), some (.int q), some (.int (s_fare (μ 95) g)), some (.int (s_go (μ 95) g))]) (st' := [.int (nI 1)]) (σ' := (α, δ)) (pc' := 73) kX10_pays_72 rfl rfl rf_a0 ?_
      refine ok_retz eX10_pays_73 rfl (Or.inr rfl) ?_
      exact ⟨by rw [sp_1 (sw_cn (n := 1) (by omega) (by decide))]; rfl, _, rfl, sA.rfl α⟩
    | 1, ht, h29 =>
      cases ht
      refine ok_step (ps := [rf_in (nI g) 16, rf_in (nI g) 16]) (L' := [some (.ref 1), some (.int (nI g)), some (.int fine), some (.int p), some (.int q), some (.int (s_fare (μ 95) g)), some (.int (s_go (μ 95) g))]) (st' := [.int (s_go (μ 95) g), .int (α 17 ((nI g).toNatClampNeg)), .int (α 16 ((nI g).toNatClampNeg)), .int fine, .int (s_fare (μ 95) g), .ref 1]) (σ' := (α, δ)) (pc' := 98) kX10_pays_74 rfl rfl (rf_a1 (rf_in_n (a := g) rfl (by omega)) (rf_a1 (rf_in_n (a := g) rfl (by omega)) rf_a0)) ?_
      try rw [(show (nI g).toNatClampNeg = g from rf_cl_n rfl (by omega))]
      try rw [(show α 16 g = μ 95 (195 + 8 * g) from rl_15 hR (i := g) (by omega) (by omega))]
      try rw [(show (nI g).toNatClampNeg = g from rf_cl_n rfl (by omega))]
      try rw [(show α 17 g = μ 95 (196 + 8 * g) from rl_16 hR (i := g) (by omega) (by omega))]
      refine ok_Vx (As := [.int (s_fare (μ 95) g), .int fine, .int (μ 95 (195 + 8 * g)), .int (μ 95 (196 + 8 * g)), .int (s_go (μ 95) g)]) (b := 1) (st := []) mkX10_weigh qX10_pays_98 rfl (rc_1) rfl rfl rfl rfl (Nat.le_of_ble_eq_true rfl) (c_weigh hJ) (fun r1 σ1 hq => ?_)
      obtain ⟨rfl, α1, rfl, ha⟩ := hq
      refine ok_if_eq bX10_pays_101 (fun h101 => ?_) (fun h101 => ?_)
      · refine ok_step (ps := []) (L' := [some (.ref 1), some (.int (nI g)), some (.int fine), some (.int p), some (.int q), some (.int (s_fare (μ 95) g)), some (.int (s_go (μ 95) g))]) (st' := [.int (nI 0)]) (σ' := (α1, δ)) (pc' := 109) kX10_pays_108 rfl rfl rf_a0 ?_
        refine ok_retz eX10_pays_109 rfl (Or.inl rfl) ?_
        exact ⟨by rw [sp_2 (sw_cn (n := 2) (by omega) (by decide))]; exact rz (decide_eq_false (fun e => e h101)), _, rfl, ha⟩
      · refine ok_step (ps := []) (L' := [some (.ref 1), some (.int (nI g)), some (.int fine), some (.int p), some (.int q), some (.int (s_fare (μ 95) g)), some (.int (s_go (μ 95) g))]) (st' := [.int (nI 1)]) (σ' := (α1, δ)) (pc' := 105) kX10_pays_104 rfl rfl rf_a0 ?_
        refine ok_goto bX10_pays_105 ?_
        refine ok_retz eX10_pays_109 rfl (Or.inr rfl) ?_
        exact ⟨by rw [sp_2 (sw_cn (n := 2) (by omega) (by decide))]; exact ro (decide_eq_true h101), _, rfl, ha⟩
    | 2, ht, h29 =>
      cases ht
      refine ok_step (ps := []) (L' := [some (.ref 1), some (.int (nI g)), some (.int fine), some (.int p), some (.int q), some (.int (s_fare (μ 95) g)), some (.int (s_go (μ 95) g))]) (st' := [.int (s_go (μ 95) g), .int q, .int p, .int fine, .int (s_fare (μ 95) g), .ref 1]) (σ' := (α, δ)) (pc' := 119) kX10_pays_110 rfl rfl rf_a0 ?_
      refine ok_Vx (As := [.int (s_fare (μ 95) g), .int fine, .int p, .int q, .int (s_go (μ 95) g)]) (b := 1) (st := []) mkX10_weigh qX10_pays_119 rfl (rc_1) rfl rfl rfl rfl (Nat.le_of_ble_eq_true rfl) (c_weigh hJ) (fun r1 σ1 hq => ?_)
      obtain ⟨rfl, α1, rfl, ha⟩ := hq
      refine ok_if_eq bX10_pays_122 (fun h122 => ?_) (fun h122 => ?_)
      · refine ok_step (ps := []) (L' := [some (.ref 1), some (.int (nI g)), some (.int fine), some (.int p), some (.int q), some (.int (s_fare (μ 95) g)), some (.int (s_go (μ 95) g))]) (st' := [.int (nI 0)]) (σ' := (α1, δ)) (pc' := 130) kX10_pays_129 rfl rfl rf_a0 ?_
        refine ok_retz eX10_pays_130 rfl (Or.inl rfl) ?_
        exact ⟨by rw [sp_3 (sw_cn (n := 3) (by omega) (by decide))]; exact rz (decide_eq_false (fun e => e h122)), _, rfl, ha⟩
      · refine ok_step (ps := []) (L' := [some (.ref 1), some (.int (nI g)), some (.int fine), some (.int p), some (.int q), some (.int (s_fare (μ 95) g)), some (.int (s_go (μ 95) g))]) (st' := [.int (nI 1)]) (σ' := (α1, δ)) (pc' := 126) kX10_pays_125 rfl rfl rf_a0 ?_
        refine ok_goto bX10_pays_126 ?_
        refine ok_retz eX10_pays_130 rfl (Or.inr rfl) ?_
        exact ⟨by rw [sp_3 (sw_cn (n := 3) (by omega) (by decide))]; exact ro (decide_eq_true h122), _, rfl, ha⟩
    | 3, ht, h29 =>
      cases ht
      refine ok_step (ps := [rf_in (nI g) 16, rf_in (nI g) 16]) (L' := [some (.ref 1), some (.int (nI g)), some (.int fine), some (.int p), some (.int q), some (.int (s_fare (μ 95) g)), some (.int (s_go (μ 95) g))]) (st' := [.int (s_go (μ 95) g), .int (α 17 ((nI g).toNatClampNeg)), .int (α 16 ((nI g).toNatClampNeg)), .int fine, .int (s_fare (μ 95) g), .ref 1]) (σ' := (α, δ)) (pc' := 98) kX10_pays_74 rfl rfl (rf_a1 (rf_in_n (a := g) rfl (by omega)) (rf_a1 (rf_in_n (a := g) rfl (by omega)) rf_a0)) ?_
      try rw [(show (nI g).toNatClampNeg = g from rf_cl_n rfl (by omega))]
      try rw [(show α 16 g = μ 95 (195 + 8 * g) from rl_15 hR (i := g) (by omega) (by omega))]
      try rw [(show (nI g).toNatClampNeg = g from rf_cl_n rfl (by omega))]
      try rw [(show α 17 g = μ 95 (196 + 8 * g) from rl_16 hR (i := g) (by omega) (by omega))]
      refine ok_Vx (As := [.int (s_fare (μ 95) g), .int fine, .int (μ 95 (195 + 8 * g)), .int (μ 95 (196 + 8 * g)), .int (s_go (μ 95) g)]) (b := 1) (st := []) mkX10_weigh qX10_pays_98 rfl (rc_1) rfl rfl rfl rfl (Nat.le_of_ble_eq_true rfl) (c_weigh hJ) (fun r1 σ1 hq => ?_)
      obtain ⟨rfl, α1, rfl, ha⟩ := hq
      refine ok_if_eq bX10_pays_101 (fun h101 => ?_) (fun h101 => ?_)
      · refine ok_step (ps := []) (L' := [some (.ref 1), some (.int (nI g)), some (.int fine), some (.int p), some (.int q), some (.int (s_fare (μ 95) g)), some (.int (s_go (μ 95) g))]) (st' := [.int (nI 0)]) (σ' := (α1, δ)) (pc' := 109) kX10_pays_108 rfl rfl rf_a0 ?_
        refine ok_retz eX10_pays_109 rfl (Or.inl rfl) ?_
        exact ⟨by rw [sp_4 (sw_cn (n := 4) (by omega) (by decide))]; exact rz (decide_eq_false (fun e => e h101)), _, rfl, ha⟩
      · refine ok_step (ps := []) (L' := [some (.ref 1), some (.int (nI g)), some (.int fine), some (.int p), some (.int q), some (.int (s_fare (μ 95) g)), some (.int (s_go (μ 95) g))]) (st' := [.int (nI 1)]) (σ' := (α1, δ)) (pc' := 105) kX10_pays_104 rfl rfl rf_a0 ?_
        refine ok_goto bX10_pays_105 ?_
        refine ok_retz eX10_pays_109 rfl (Or.inr rfl) ?_
        exact ⟨by rw [sp_4 (sw_cn (n := 4) (by omega) (by decide))]; exact ro (decide_eq_true h101), _, rfl, ha⟩
    | 4, ht, h29 =>
      cases ht
      refine ok_step (ps := [rf_in (nI g) 16]) (L' := [some (.ref 1), some (.int (nI g)), some (.int fine), some (.int p), some (.int q), some (.int (s_fare (μ 95) g)), some (.int (s_go (μ 95) g))]) (st' := [.int (α 18 ((nI g).toNatClampNeg)), .int (α 22 0)]) (σ' := (α, δ)) (pc' := 147) kX10_pays_131 rfl rfl (rf_a1 (rf_in_n (a := g) rfl (by omega)) rf_a0) ?_
      try rw [(show α 22 0 = μ 95 0 from hR 21 0 0 rfl)]
      try rw [(show (nI g).toNatClampNeg = g from rf_cl_n rfl (by omega))]
      try rw [(show α 18 g = μ 95 (197 + 8 * g) from rl_17 hR (i := g) (by omega) (by omega))]
      refine ok_icmp_ge bX10_pays_147 (fun h147 => ?_) (fun h147 => ?_)
      · refine ok_step (ps := []) (L' := [some (.ref 1), some (.int (nI g)), some (.int fine), some (.int p), some (.int q), some (.int (s_fare (μ 95) g)), some (.int (s_go (μ 95) g))]) (st' := [.int (nI 0)]) (σ' := (α, δ)) (pc' := 155) kX10_pays_154 rfl rfl rf_a0 ?_
        refine ok_retz eX10_pays_155 rfl (Or.inl rfl) ?_
        exact ⟨by rw [sp_5 (sw_cn (n := 5) (by omega) (by decide))]; exact rz (decide_eq_false (Int32.not_lt.mpr h147)), _, rfl, sA.rfl α⟩
      · refine ok_step (ps := []) (L' := [some (.ref 1), some (.int (nI g)), some (.int fine), some (.int p), some (.int q), some (.int (s_fare (μ 95) g)), some (.int (s_go (μ 95) g))]) (st' := [.int (nI 1)]) (σ' := (α, δ)) (pc' := 151) kX10_pays_150 rfl rfl rf_a0 ?_
        refine ok_goto bX10_pays_151 ?_
        refine ok_retz eX10_pays_155 rfl (Or.inr rfl) ?_
        exact ⟨by rw [sp_5 (sw_cn (n := 5) (by omega) (by decide))]; exact ro (decide_eq_true (Int32.not_le.mp h147)), _, rfl, sA.rfl α⟩
    | 5, ht, h29 =>
      cases ht
      refine ok_step (ps := [rf_in (nI g) 16, rf_in (α 12 ((nI g).toNatClampNeg)) 12]) (L' := [some (.ref 1), some (.int (nI g)), some (.int fine), some (.int p), some (.int q), some (.int (s_fare (μ 95) g)), some (.int (s_go (μ 95) g))]) (st' := [.int (nI 1100), .int (α 8 ((α 12 ((nI g).toNatClampNeg)).toNatClampNeg))]) (σ' := (α, δ)) (pc' := 176) kX10_pays_156 rfl rfl (rf_a1 (rf_in_n (a := g) rfl (by omega)) (rf_a1 (rf_in_n (a := (cn (μ 95) (191 + 8 * g))) (by (try rw [(show (nI g).toNatClampNeg = g from rf_cl_n rfl (by omega))]); (try rw [(show α 12 g = μ 95 (191 + 8 * g) from rl_11 hR (i := g) (by omega) (by omega))]); all_goals exact (hI.atb (k := (191 + 8 * g)) (bd_191 (i := g) (by omega) (by omega)) (by decide))) (by omega)) rf_a0)) ?_
      try rw [(show (nI g).toNatClampNeg = g from rf_cl_n rfl (by omega))]
      try rw [(show α 12 g = μ 95 (191 + 8 * g) from rl_11 hR (i := g) (by omega) (by omega))]
      try rw [(show (μ 95 (191 + 8 * g)).toNatClampNeg = (cn (μ 95) (191 + 8 * g)) from rf_cl_n (hI.atb (k := (191 + 8 * g)) (bd_191 (i := g) (by omega) (by omega)) (by decide)) (by omega))]
      try rw [(show α 8 (cn (μ 95) (191 + 8 * g)) = μ 95 (151 + 3 * cn (μ 95) (191 + 8 * g)) from rl_7 hR (i := (cn (μ 95) (191 + 8 * g))) (by omega) (by omega))]
      refine ok_icmp_ge bX10_pays_176 (fun h176 => ?_) (fun h176 => ?_)
      · refine ok_step (ps := []) (L' := [some (.ref 1), some (.int (nI g)), some (.int fine), some (.int p), some (.int q), some (.int (s_fare (μ 95) g)), some (.int (s_go (μ 95) g))]) (st' := [.int (nI 0)]) (σ' := (α, δ)) (pc' := 184) kX10_pays_183 rfl rfl rf_a0 ?_
        refine ok_retz eX10_pays_184 rfl (Or.inl rfl) ?_
        exact ⟨by rw [sp_6 (sw_cn (n := 6) (by omega) (by decide))]; exact rz (decide_eq_false (Int32.not_lt.mpr h176)), _, rfl, sA.rfl α⟩
      · refine ok_step (ps := []) (L' := [some (.ref 1), some (.int (nI g)), some (.int fine), some (.int p), some (.int q), some (.int (s_fare (μ 95) g)), some (.int (s_go (μ 95) g))]) (st' := [.int (nI 1)]) (σ' := (α, δ)) (pc' := 180) kX10_pays_179 rfl rfl rf_a0 ?_
        refine ok_goto bX10_pays_180 ?_
        refine ok_retz eX10_pays_184 rfl (Or.inr rfl) ?_
        exact ⟨by rw [sp_6 (sw_cn (n := 6) (by omega) (by decide))]; exact ro (decide_eq_true (Int32.not_le.mp h176)), _, rfl, sA.rfl α⟩
    | 6, ht, h29 =>
      cases ht
      refine ok_step (ps := [rf_in (nI g) 16]) (L' := [some (.ref 1), some (.int (nI g)), some (.int fine), some (.int p), some (.int q), some (.int (s_fare (μ 95) g)), some (.int (s_go (μ 95) g))]) (st' := [.int (α 18 ((nI g).toNatClampNeg)), .int ((α 22 0) + (nI 10))]) (σ' := (α, δ)) (pc' := 204) kX10_pays_185 rfl rfl (rf_a1 (rf_in_n (a := g) rfl (by omega)) rf_a0) ?_
      try rw [(show α 22 0 = μ 95 0 from hR 21 0 0 rfl)]
      try rw [(show ((μ 95 0) + (nI 10)) = nI (10 + cn (μ 95) 0) from rf_eq (rf_nadd (x := μ 95 0) (y := nI 10) (hI.at0) rfl) (by omega))]
      try rw [(show (nI g).toNatClampNeg = g from rf_cl_n rfl (by omega))]
      try rw [(show α 18 g = μ 95 (197 + 8 * g) from rl_17 hR (i := g) (by omega) (by omega))]
      refine ok_icmp_ge bX10_pays_204 (fun h204 => ?_) (fun h204 => ?_)
      · refine ok_step (ps := []) (L' := [some (.ref 1), some (.int (nI g)), some (.int fine), some (.int p), some (.int q), some (.int (s_fare (μ 95) g)), some (.int (s_go (μ 95) g))]) (st' := [.int (nI 0)]) (σ' := (α, δ)) (pc' := 212) kX10_pays_211 rfl rfl rf_a0 ?_
        refine ok_retz eX10_pays_212 rfl (Or.inl rfl) ?_
        exact ⟨by rw [sp_7 (sw_cn (n := 7) (by omega) (by decide))]; exact rz (decide_eq_false (Int32.not_lt.mpr h204)), _, rfl, sA.rfl α⟩
      · refine ok_step (ps := []) (L' := [some (.ref 1), some (.int (nI g)), some (.int fine), some (.int p), some (.int q), some (.int (s_fare (μ 95) g)), some (.int (s_go (μ 95) g))]) (st' := [.int (nI 1)]) (σ' := (α, δ)) (pc' := 208) kX10_pays_207 rfl rfl rf_a0 ?_
        refine ok_goto bX10_pays_208 ?_
        refine ok_retz eX10_pays_212 rfl (Or.inr rfl) ?_
        exact ⟨by rw [sp_7 (sw_cn (n := 7) (by omega) (by decide))]; exact ro (decide_eq_true (Int32.not_le.mp h204)), _, rfl, sA.rfl α⟩
    | i + 7, ht, _ => simp at ht
theorem c_now {g : Nat} (hJ : J α μ) (hg : g < cn (μ 95) 4) : rf_Ok (rf_T Ln xs) MX10_paysNow 6 0 [some (.ref 1), some (.int (nI g))] [] (α, δ) (fun r s => r = some (.int (bI (s_now (μ 95) g))) ∧ ∃ α' : Nat → Nat → Int32, s = (α', δ) ∧ sA α α') := by
  have hR := hJ.1.1.1
  have hI := hJ.2
  have b4 := hI.le4
  refine ok_step (ps := [rf_in (nI g) 16]) (L' := [some (.ref 1), some (.int (nI g))]) (st' := [.int (α 12 ((nI g).toNatClampNeg)), .ref 19, .int (α 10 2), .int (nI g), .ref 1]) (σ' := (α, δ)) (pc' := 22) kX10_paysNow_0 rfl rfl (rf_a1 (rf_in_n (a := g) rfl (by omega)) rf_a0) ?_
  try rw [(show α 10 2 = μ 95 9 from hR 9 2 9 rfl)]
  try rw [(show (nI g).toNatClampNeg = g from rf_cl_n rfl (by omega))]
  try rw [(show α 12 g = μ 95 (191 + 8 * g) from rl_11 hR (i := g) (by omega) (by omega))]
  refine ok_V (As := [.int (μ 95 (191 + 8 * g))]) (b := 19) (st := [.int (μ 95 9), .int (nI g), .ref 1]) mkX7_lotsWith qX10_paysNow_22 rfl (rc_19) rfl rfl rfl rfl (Nat.le_of_ble_eq_true rfl) (c_with_x hR hI) ?_
  refine ok_step (ps := []) (L' := [some (.ref 1), some (.int (nI g))]) (st' := [.ref 19, .int (s_with (μ 95) (μ 95 (191 + 8 * g))), .int (μ 95 9), .int (nI g), .ref 1]) (σ' := (α, δ)) (pc' := 29) kX10_paysNow_25 rfl rfl rf_a0 ?_
  refine ok_V (As := []) (b := 19) (st := [.int (s_with (μ 95) (μ 95 (191 + 8 * g))), .int (μ 95 9), .int (nI g), .ref 1]) mkX7_below qX10_paysNow_29 rfl (rc_19) rfl rfl rfl rfl (Nat.le_of_ble_eq_true rfl) (c_below_x hR hI) ?_
  refine ok_Vx (As := [.int (nI g), .int (μ 95 9), .int (s_with (μ 95) (μ 95 (191 + 8 * g))), .int (rf_max (s_all (μ 95)) (nI 1))]) (b := 1) (st := []) mkX10_pays qX10_paysNow_32 rfl (rc_1) rfl rfl rfl rfl (Nat.le_of_ble_eq_true rfl) (c_pays hJ hg) (fun r1 σ1 hq => ?_)
  obtain ⟨rfl, α1, rfl, ha⟩ := hq
  refine ok_retz eX10_paysNow_35 rfl (bI_or) ?_
  exact ⟨rfl, _, rfl, ha⟩
end H45
section H45m
variable {Ln : Nat} {xs : Nat → Int32} {α ν γ : Nat → Nat → Int32} {d : Nat → Int32}
theorem m_gives_0 (hJ : J α ν) : rf_Ok (rf_T Ln xs) MX12_gives 46 0 [some (.ref 94), some (.int (nI 0))] [] (γ, ν) (fun r s => r = some (.int (gv 0 (ν 95) (ν 98))) ∧ ∃ ν' : Nat → Nat → Int32, s = (γ, ν') ∧ sB ν ν') := by
  have hT := hJ.1.1.2.1
  have hI := hJ.2
  have b52 := hI.le520
  refine ok_step (ps := [rf_in ((nI 520) + (nI 0)) 700]) (L' := [some (.ref 94), some (.int (nI 0))]) (st' := [.int (ν 95 (((nI 520) + (nI 0)).toNatClampNeg))]) (σ' := (γ, ν)) (pc' := 10) kX12_gives_0 rfl rfl (rf_a1 (rf_in_n (a := 520) (by (try rw [(show ((nI 520) + (nI 0)) = nI 520 from rf_eq (rf_nadd (x := nI 520) (y := nI 0) rfl rfl) (by omega))]); all_goals exact rfl) (by omega)) rf_a0) ?_
  try rw [(show ((nI 520) + (nI 0)) = nI 520 from rf_eq (rf_nadd (x := nI 520) (y := nI 0) rfl rfl) (by omega))]
  try rw [(show (nI 520).toNatClampNeg = 520 from rf_cl_n rfl (by omega))]
  refine ok_if_le bX12_gives_10 (fun h10 => ?_) (fun h10 => ?_)
  · refine ok_step (ps := []) (L' := [some (.ref 94), some (.int (nI 0))]) (st' := [.int (nI 1), .int (nI 0)]) (σ' := (γ, ν)) (pc' := 39) kX12_gives_37 rfl rfl rf_a0 ?_
    refine ok_icmp_eq bX12_gives_39 (fun h39 => absurd h39 ((by decide))) (fun _ => ?_)
    refine ok_step (ps := [rf_in (nI 0) 5, rf_in (nI 3) 5, rf_in (nI 1) 5, rf_in (nI 2) 5]) (L' := [some (.ref 94), some (.int (nI 0))]) (st' := [.int ((ν 98 ((nI 1).toNatClampNeg)) * (ν 98 ((nI 2).toNatClampNeg))), .int ((ν 98 ((nI 0).toNatClampNeg)) * (ν 98 ((nI 3).toNatClampNeg)))]) (σ' := (γ, ν)) (pc' := 68) kX12_gives_42 rfl rfl (rf_a1 (rf_in_n (a := 0) rfl (by omega)) (rf_a1 (rf_in_n (a := 3) rfl (by omega)) (rf_a1 (rf_in_n (a := 1) rfl (by omega)) (rf_a1 (rf_in_n (a := 2) rfl (by omega)) rf_a0)))) ?_
    try rw [(show (nI 0).toNatClampNeg = 0 from rf_cl_n rfl (by omega))]
    try rw [(show (nI 3).toNatClampNeg = 3 from rf_cl_n rfl (by omega))]
    try rw [(show (nI 1).toNatClampNeg = 1 from rf_cl_n rfl (by omega))]
    try rw [(show (nI 2).toNatClampNeg = 2 from rf_cl_n rfl (by omega))]
    refine ok_icmp_gt bX12_gives_68 (fun h68 => ?_) (fun h68 => ?_)
    · refine ok_step (ps := []) (L' := [some (.ref 94), some (.int (nI 0))]) (st' := [.int (nI 0)]) (σ' := (γ, ν)) (pc' := 76) kX12_gives_75 rfl rfl rf_a0 ?_
      refine ok_reti eX12_gives_76 rfl ?_
      refine ⟨?_, _, rfl, sB.rfl ν⟩
      rw [gv_0 (le0_nat (hI.at520) h10)]
      exact rz (decide_eq_false (Int32.not_le.mpr h68))
    · refine ok_step (ps := []) (L' := [some (.ref 94), some (.int (nI 0))]) (st' := [.int (nI 1)]) (σ' := (γ, ν)) (pc' := 72) kX12_gives_71 rfl rfl rf_a0 ?_
      refine ok_goto bX12_gives_72 ?_
      refine ok_reti eX12_gives_76 rfl ?_
      refine ⟨?_, _, rfl, sB.rfl ν⟩
      rw [gv_0 (le0_nat (hI.at520) h10)]
      exact ro (decide_eq_true (Int32.not_lt.mp h68))
  · refine ok_step (ps := [rf_in ((nI 520) + (nI 0)) 700]) (L' := [some (.ref 94), some (.int (nI 0))]) (st' := [.int (nI 0), .int (ν 95 (((nI 520) + (nI 0)).toNatClampNeg)), .int ((nI 530) + ((nI 50) * (nI 0))), .ref 94]) (σ' := (γ, ν)) (pc' := 33) kX12_gives_13 rfl rfl (rf_a1 (rf_in_n (a := 520) (by (try rw [(show ((nI 50) * (nI 0)) = nI 0 from rf_eq (rf_nmul (x := nI 50) (y := nI 0) rfl rfl) (by omega))]); (try rw [(show ((nI 530) + (nI 0)) = nI 530 from rf_eq (rf_nadd (x := nI 530) (y := nI 0) rfl rfl) (by omega))]); (try rw [(show ((nI 520) + (nI 0)) = nI 520 from rf_eq (rf_nadd (x := nI 520) (y := nI 0) rfl rfl) (by omega))]); all_goals exact rfl) (by omega)) rf_a0) ?_
    try rw [(show ((nI 50) * (nI 0)) = nI 0 from rf_eq (rf_nmul (x := nI 50) (y := nI 0) rfl rfl) (by omega))]
    try rw [(show ((nI 530) + (nI 0)) = nI 530 from rf_eq (rf_nadd (x := nI 530) (y := nI 0) rfl rfl) (by omega))]
    try rw [(show ((nI 520) + (nI 0)) = nI 520 from rf_eq (rf_nadd (x := nI 520) (y := nI 0) rfl rfl) (by omega))]
    try rw [(show (nI 520).toNatClampNeg = 520 from rf_cl_n rfl (by omega))]
    have h0 : ¬ ν 95 520 = 0 := fun e => h10 (by rw [e]; exact Int32.le_refl _)
    obtain ⟨m, c, t1, t2, t3, t4, -⟩ := tx_use (by decide) hT (fun e => h0 ((tx_0 hT).mp e)) (ν 98)
    rw [t1]
    refine ok_Vx (As := [.int (nI 530), .int (nI m), .int (nI 0)]) (b := 94) (st := []) mkX12_worked qX12_gives_33 rfl (rc_94) rfl rfl rfl rfl (Nat.le_of_ble_eq_true rfl) (m_worked (u := 0) (b := 530) (n := m) (by decide) (by omega) t3) (fun r1 σ1 hq => ?_)
    obtain ⟨ν1, rfl, hB, -, hq⟩ := hq
    replace t4 : prt 0 (fun i => ν 95 (530 + i)) m = (true, m, c) := t4
    rw [t4] at hq
    obtain rfl : r1 = some (.int (gv 0 (ν 95) (ν 98))) := by
      rcases hq with ⟨-, -, h3, -⟩ | ⟨h3, -⟩
      · rw [h3, gv_t (u := 0) t1 t2 t3 t4]
      · exact absurd ⟨rfl, rfl⟩ h3
    refine ok_reti eX12_gives_36 rfl ?_
    exact ⟨rfl, _, rfl, hB⟩
theorem m_gives_1 (hJ : J α ν) : rf_Ok (rf_T Ln xs) MX12_gives 46 0 [some (.ref 94), some (.int (nI 1))] [] (γ, ν) (fun r s => r = some (.int (gv 1 (ν 95) (ν 98))) ∧ ∃ ν' : Nat → Nat → Int32, s = (γ, ν') ∧ sB ν ν') := by
  have hT := hJ.1.1.2.2
  have hI := hJ.2
  have b52 := hI.le521
  refine ok_step (ps := [rf_in ((nI 520) + (nI 1)) 700]) (L' := [some (.ref 94), some (.int (nI 1))]) (st' := [.int (ν 95 (((nI 520) + (nI 1)).toNatClampNeg))]) (σ' := (γ, ν)) (pc' := 10) kX12_gives_0 rfl rfl (rf_a1 (rf_in_n (a := 521) (by (try rw [(show ((nI 520) + (nI 1)) = nI 521 from rf_eq (rf_nadd (x := nI 520) (y := nI 1) rfl rfl) (by omega))]); all_goals exact rfl) (by omega)) rf_a0) ?_
  try rw [(show ((nI 520) + (nI 1)) = nI 521 from rf_eq (rf_nadd (x := nI 520) (y := nI 1) rfl rfl) (by omega))]
  try rw [(show (nI 521).toNatClampNeg = 521 from rf_cl_n rfl (by omega))]
  refine ok_if_le bX12_gives_10 (fun h10 => ?_) (fun h10 => ?_)
  · refine ok_step (ps := []) (L' := [some (.ref 94), some (.int (nI 1))]) (st' := [.int (nI 1), .int (nI 1)]) (σ' := (γ, ν)) (pc' := 39) kX12_gives_37 rfl rfl rf_a0 ?_
    refine ok_icmp_eq bX12_gives_39 (fun _ => ?_) (fun h39 => absurd ((by decide)) h39)
    refine ok_step (ps := []) (L' := [some (.ref 94), some (.int (nI 1))]) (st' := [.int (nI 1)]) (σ' := (γ, ν)) (pc' := 72) kX12_gives_71 rfl rfl rf_a0 ?_
    refine ok_goto bX12_gives_72 ?_
    refine ok_reti eX12_gives_76 rfl ?_
    exact ⟨by rw [gv_1 (le0_nat (hI.at521) h10)], _, rfl, sB.rfl ν⟩
  · refine ok_step (ps := [rf_in ((nI 520) + (nI 1)) 700]) (L' := [some (.ref 94), some (.int (nI 1))]) (st' := [.int (nI 1), .int (ν 95 (((nI 520) + (nI 1)).toNatClampNeg)), .int ((nI 530) + ((nI 50) * (nI 1))), .ref 94]) (σ' := (γ, ν)) (pc' := 33) kX12_gives_13 rfl rfl (rf_a1 (rf_in_n (a := 521) (by (try rw [(show ((nI 50) * (nI 1)) = nI 50 from rf_eq (rf_nmul (x := nI 50) (y := nI 1) rfl rfl) (by omega))]); (try rw [(show ((nI 530) + (nI 50)) = nI 580 from rf_eq (rf_nadd (x := nI 530) (y := nI 50) rfl rfl) (by omega))]); (try rw [(show ((nI 520) + (nI 1)) = nI 521 from rf_eq (rf_nadd (x := nI 520) (y := nI 1) rfl rfl) (by omega))]); all_goals exact rfl) (by omega)) rf_a0) ?_
    try rw [(show ((nI 50) * (nI 1)) = nI 50 from rf_eq (rf_nmul (x := nI 50) (y := nI 1) rfl rfl) (by omega))]
    try rw [(show ((nI 530) + (nI 50)) = nI 580 from rf_eq (rf_nadd (x := nI 530) (y := nI 50) rfl rfl) (by omega))]
    try rw [(show ((nI 520) + (nI 1)) = nI 521 from rf_eq (rf_nadd (x := nI 520) (y := nI 1) rfl rfl) (by omega))]
    try rw [(show (nI 521).toNatClampNeg = 521 from rf_cl_n rfl (by omega))]
    have h0 : ¬ ν 95 521 = 0 := fun e => h10 (by rw [e]; exact Int32.le_refl _)
    obtain ⟨m, c, t1, t2, t3, t4, -⟩ := tx_use (by decide) hT (fun e => h0 ((tx_0 hT).mp e)) (ν 98)
    rw [t1]
    refine ok_Vx (As := [.int (nI 580), .int (nI m), .int (nI 1)]) (b := 94) (st := []) mkX12_worked qX12_gives_33 rfl (rc_94) rfl rfl rfl rfl (Nat.le_of_ble_eq_true rfl) (m_worked (u := 1) (b := 580) (n := m) (by decide) (by omega) t3) (fun r1 σ1 hq => ?_)
    obtain ⟨ν1, rfl, hB, -, hq⟩ := hq
    replace t4 : prt 1 (fun i => ν 95 (580 + i)) m = (true, m, c) := t4
    rw [t4] at hq
    obtain rfl : r1 = some (.int (gv 1 (ν 95) (ν 98))) := by
      rcases hq with ⟨-, -, h3, -⟩ | ⟨h3, -⟩
      · rw [h3, gv_t (u := 1) t1 t2 t3 t4]
      · exact absurd ⟨rfl, rfl⟩ h3
    refine ok_reti eX12_gives_36 rfl ?_
    exact ⟨rfl, _, rfl, hB⟩
theorem m_gr {g k : Nat} (hg : g < 16) (hk : k < 8) : rf_At (rf_T Ln xs) MX12_gr 1 0 ([some (.ref 94), some (.int (nI g)), some (.int (nI k))], [], 108, (γ, ν)) (some (.int (ν 95 (190 + 8 * g + k)))) 108 (γ, ν) := by
  refine rf_pa ?_
  refine ok_step (ps := [rf_in (((nI 190) + ((nI 8) * (nI g))) + (nI k)) 700]) (L' := [some (.ref 94), some (.int (nI g)), some (.int (nI k))]) (st' := [.int (ν 95 ((((nI 190) + ((nI 8) * (nI g))) + (nI k)).toNatClampNeg))]) (σ' := (γ, ν)) (pc' := 15) kX12_gr_0 rfl rfl (rf_a1 (rf_in_n (a := (190 + 8 * g + k)) (by (try rw [(show ((nI 8) * (nI g)) = nI (8 * g) from rf_eq (rf_nmul (x := nI 8) (y := nI g) rfl rfl) (by omega))]); (try rw [(show ((nI 190) + (nI (8 * g))) = nI (190 + 8 * g) from rf_eq (rf_nadd (x := nI 190) (y := nI (8 * g)) rfl rfl) (by omega))]); (try rw [(show ((nI (190 + 8 * g)) + (nI k)) = nI (190 + 8 * g + k) from rf_eq (rf_nadd (x := nI (190 + 8 * g)) (y := nI k) rfl rfl) (by omega))]); all_goals exact rfl) (by omega)) rf_a0) ?_
  try rw [(show ((nI 8) * (nI g)) = nI (8 * g) from rf_eq (rf_nmul (x := nI 8) (y := nI g) rfl rfl) (by omega))]
  try rw [(show ((nI 190) + (nI (8 * g))) = nI (190 + 8 * g) from rf_eq (rf_nadd (x := nI 190) (y := nI (8 * g)) rfl rfl) (by omega))]
  try rw [(show ((nI (190 + 8 * g)) + (nI k)) = nI (190 + 8 * g + k) from rf_eq (rf_nadd (x := nI (190 + 8 * g)) (y := nI k) rfl rfl) (by omega))]
  try rw [(show (nI (190 + 8 * g + k)).toNatClampNeg = (190 + 8 * g + k) from rf_cl_n rfl (by omega))]
  refine ok_reti eX12_gr_15 rfl ?_
  exact ⟨rfl, rfl⟩
theorem m_gr_d {g k j : Nat} (hd : ν 95 = d) (hg : g < 16) (hk : k < 8) (hj : 190 + 8 * g + k = j) : rf_At (rf_T Ln xs) MX12_gr 1 0 ([some (.ref 94), some (.int (nI g)), some (.int (nI k))], [], 108, (γ, ν)) (some (.int (d j))) 108 (γ, ν) := by
  subst hd
  subst hj
  exact m_gr hg hk
theorem m_all_d  (hI : Iv d) (hd : ν 95 = d)  : rf_At (rf_T Ln xs) MX12_allLots 1 0 ([some (.ref 94), none, none], [], 108, (γ, ν)) (some (.int (s_all d))) 108 (γ, ν) := by
  subst hd
  exact m_all hI
theorem m_with_d {t : Int32} (hI : Iv d) (hd : ν 95 = d)  : rf_At (rf_T Ln xs) MX12_lotsWith 1 0 ([some (.ref 94), some (.int t), none, none], [], 108, (γ, ν)) (some (.int (s_with d t))) 108 (γ, ν) := by
  subst hd
  exact m_with hI
theorem m_startOf_d {t : Nat} (hI : Iv d) (hd : ν 95 = d) (ht : t < 12) : rf_At (rf_T Ln xs) MX12_startOf 1 0 ([some (.ref 94), some (.int (nI t))], [], 108, (γ, ν)) (some (.int (d (151 + 3 * t)))) 108 (γ, ν) := by
  subst hd
  exact m_startOf ht
theorem qB {r v : Option Value} {s : rf_Mem} (hJ : J α ν) (hd : ν 95 = d) (hq : r = v ∧ ∃ ν' : Nat → Nat → Int32, s = (γ, ν') ∧ sB ν ν') : r = v ∧ ∃ ν' : Nat → Nat → Int32, s = (γ, ν') ∧ J α ν' ∧ ν' 95 = d ∧ sB ν ν' := by
  obtain ⟨h1, ν', h2, h3⟩ := hq
  exact ⟨h1, ν', h2, hJ.sB h3, (h3.1 95 (by decide) (by decide)).trans hd, h3⟩
theorem w5_sB {ρ : Nat → Nat → Int32} {a b c e f : Int32} (h : sB (rf_w (rf_w (rf_w (rf_w (rf_w ν 98 0 a) 98 1 b) 98 2 c) 98 3 e) 98 4 f) ρ) : sB ν ρ := ⟨fun k h1 h2 => by rw [h.1 k h1 h2, wr5_o h2], fun i hi => by rw [h.2 i hi, wr5_o (by decide)]⟩
theorem w5_sB0 {a b c e f : Int32} : sB ν (rf_w (rf_w (rf_w (rf_w (rf_w ν 98 0 a) 98 1 b) 98 2 c) 98 3 e) 98 4 f) := w5_sB (sB.rfl _)
theorem m_weighs {g : Nat} {fine p q : Int32} (hJ : J α ν) (hd : ν 95 = d) (hg : g < 16) : rf_Ok (rf_T Ln xs) MX12_weighs 47 0 [some (.ref 94), some (.int (nI g)), some (.int p), some (.int q), some (.int fine), none] [] (γ, ν) (fun r s => r = some (.int (bI (s_wei d g fine p q))) ∧ ∃ ν' : Nat → Nat → Int32, s = (γ, ν') ∧ J α ν' ∧ ν' 95 = d ∧ sB ν ν') := by
  have hI : Iv d := by rw [← hd]; exact hJ.2
  have hJ0 := hJ
  refine ok_step (ps := []) (L' := [some (.ref 94), some (.int (nI g)), some (.int p), some (.int q), some (.int fine), none]) (st' := [.int (nI 3), .int (nI g), .ref 94]) (σ' := (γ, ν)) (pc' := 3) kX12_weighs_0 rfl rfl rf_a0 ?_
  refine ok_V (As := [.int (nI g), .int (nI 3)]) (b := 94) (st := []) mkX12_gr qX12_weighs_3 rfl (rc_94) rfl rfl rfl rfl (Nat.le_of_ble_eq_true rfl) (m_gr_d (j := (193 + 8 * g)) hd (by omega) (by omega) (by omega)) ?_
  refine ok_step (ps := []) (L' := [some (.ref 94), some (.int (nI g)), some (.int p), some (.int q), some (.int fine), none]) (st' := [.int (nI 2), .int (nI g), .ref 94, .int (d (193 + 8 * g))]) (σ' := (γ, ν)) (pc' := 9) kX12_weighs_6 rfl rfl rf_a0 ?_
  refine ok_V (As := [.int (nI g), .int (nI 2)]) (b := 94) (st := [.int (d (193 + 8 * g))]) mkX12_gr qX12_weighs_9 rfl (rc_94) rfl rfl rfl rfl (Nat.le_of_ble_eq_true rfl) (m_gr_d (j := (192 + 8 * g)) hd (by omega) (by omega) (by omega)) ?_
  refine ok_step (ps := []) (L' := [some (.ref 94), some (.int (nI g)), some (.int p), some (.int q), some (.int fine), some (.int ((d (193 + 8 * g)) - (d (192 + 8 * g))))]) (st' := [.int (nI 0), .int (nI g), .ref 94, .int (nI 0), .ref 98]) (σ' := (γ, ν)) (pc' := 23) kX12_weighs_12 rfl rfl rf_a0 ?_
  refine ok_V (As := [.int (nI g), .int (nI 0)]) (b := 94) (st := [.int (nI 0), .ref 98]) mkX12_gr qX12_weighs_23 rfl (rc_94) rfl rfl rfl rfl (Nat.le_of_ble_eq_true rfl) (m_gr_d (j := (190 + 8 * g)) hd (by omega) (by omega) (by omega)) ?_
  refine ok_step (ps := []) (L' := [some (.ref 94), some (.int (nI g)), some (.int p), some (.int q), some (.int fine), some (.int ((d (193 + 8 * g)) - (d (192 + 8 * g))))]) (st' := [.int (nI 4), .int (d (190 + 8 * g)), .int (nI 0), .ref 98]) (σ' := (γ, ν)) (pc' := 27) kX12_weighs_26 rfl rfl rf_a0 ?_
  refine ok_icmp_ne bX12_weighs_27 (fun h27 => ?_) (fun h27 => ?_)
  · refine ok_step (ps := [rf_in (nI 8) 700]) (L' := [some (.ref 94), some (.int (nI g)), some (.int p), some (.int q), some (.int fine), some (.int ((d (193 + 8 * g)) - (d (192 + 8 * g))))]) (st' := [.int (ν 95 ((nI 8).toNatClampNeg)), .int (nI 0), .ref 98]) (σ' := (γ, ν)) (pc' := 55) kX12_weighs_48 rfl rfl (rf_a1 (rf_in_n (a := 8) rfl (by omega)) rf_a0) ?_
    try rw [(show (nI 8).toNatClampNeg = 8 from rf_cl_n rfl (by omega))]
    try rw [(show ν 95 8 = d 8 from congrFun hd _)]
    refine ok_step (ps := [rf_in (nI 0) 5, rf_in (nI 1) 5, rf_in (nI 2) 5, rf_in (nI 3) 5, rf_in (nI 4) 5]) (L' := [some (.ref 94), some (.int (nI g)), some (.int p), some (.int q), some (.int fine), some (.int ((d (193 + 8 * g)) - (d (192 + 8 * g))))]) (st' := [.int (nI 0), .ref 94]) (σ' := (γ, rf_w (rf_w (rf_w (rf_w (rf_w ν 98 ((nI 0).toNatClampNeg) (d 8)) 98 ((nI 1).toNatClampNeg) fine) 98 ((nI 2).toNatClampNeg) p) 98 ((nI 3).toNatClampNeg) q) 98 ((nI 4).toNatClampNeg) ((d (193 + 8 * g)) - (d (192 + 8 * g))))) (pc' := 88) kX12_weighs_55 rfl rfl (rf_a1 (rf_in_n (a := 0) rfl (by omega)) (rf_a1 (rf_in_n (a := 1) rfl (by omega)) (rf_a1 (rf_in_n (a := 2) rfl (by omega)) (rf_a1 (rf_in_n (a := 3) rfl (by omega)) (rf_a1 (rf_in_n (a := 4) rfl (by omega)) rf_a0))))) ?_
    try rw [(show (nI 0).toNatClampNeg = 0 from rf_cl_n rfl (by omega))]
    try rw [(show (nI 1).toNatClampNeg = 1 from rf_cl_n rfl (by omega))]
    try rw [(show (nI 2).toNatClampNeg = 2 from rf_cl_n rfl (by omega))]
    try rw [(show (nI 3).toNatClampNeg = 3 from rf_cl_n rfl (by omega))]
    try rw [(show (nI 4).toNatClampNeg = 4 from rf_cl_n rfl (by omega))]
    have ef : d 8 = s_fare d g := by unfold s_fare; rw [if_neg h27]
    rw [ef, show (d (193 + 8 * g) - d (192 + 8 * g) : Int32) = s_go d g from rfl]
    replace hJ := hJ.sB (w5_sB0 (a := s_fare d g) (b := fine) (c := p) (e := q) (f := s_go d g))
    refine ok_Vx (As := [.int (nI 0)]) (b := 94) (st := []) mkX12_gives qX12_weighs_88 rfl (rc_94) rfl rfl rfl rfl (Nat.le_of_ble_eq_true rfl) (m_gives_0 hJ) (fun r1 σ1 hq => ?_)
    obtain ⟨rfl, ν1, rfl, hB⟩ := hq
    have h95 : (rf_w (rf_w (rf_w (rf_w (rf_w ν 98 0 (s_fare d g)) 98 1 fine) 98 2 p) 98 3 q) 98 4 (s_go d g)) 95 = d := by rw [wr5_o (by decide)]; exact hd
    have eg := gv_congr (u := 0) (by decide) hJ.1.1.2.1 (nm' := (rf_w (rf_w (rf_w (rf_w (rf_w ν 98 0 (s_fare d g)) 98 1 fine) 98 2 p) 98 3 q) 98 4 (s_go d g)) 98) (nm := (nm5 (s_fare d g) fine p q (s_go d g))) (fun i hi => wr5 i (by omega))
    rw [eg, h95]
    refine ok_if_eq bX12_weighs_91 (fun h91 => ?_) (fun h91 => ?_)
    · refine ok_step (ps := []) (L' := [some (.ref 94), some (.int (nI g)), some (.int p), some (.int q), some (.int fine), some (.int (s_go d g))]) (st' := [.int (nI 0)]) (σ' := (γ, ν1)) (pc' := 99) kX12_weighs_98 rfl rfl rf_a0 ?_
      refine ok_retz eX12_weighs_99 rfl (Or.inl rfl) ?_
      exact qB hJ0 hd ⟨rz (decide_eq_false (fun e => e h91)), _, rfl, w5_sB hB⟩
    · refine ok_step (ps := []) (L' := [some (.ref 94), some (.int (nI g)), some (.int p), some (.int q), some (.int fine), some (.int (s_go d g))]) (st' := [.int (nI 1)]) (σ' := (γ, ν1)) (pc' := 95) kX12_weighs_94 rfl rfl rf_a0 ?_
      refine ok_goto bX12_weighs_95 ?_
      refine ok_retz eX12_weighs_99 rfl (Or.inr rfl) ?_
      exact qB hJ0 hd ⟨ro (decide_eq_true h91), _, rfl, w5_sB hB⟩
  · refine ok_step (ps := []) (L' := [some (.ref 94), some (.int (nI g)), some (.int p), some (.int q), some (.int fine), some (.int ((d (193 + 8 * g)) - (d (192 + 8 * g))))]) (st' := [.int (nI 3), .int ((d (193 + 8 * g)) - (d (192 + 8 * g))), .int (nI 0), .ref 98]) (σ' := (γ, ν)) (pc' := 33) kX12_weighs_30 rfl rfl rf_a0 ?_
    refine ok_icmp_gt bX12_weighs_33 (fun h33 => ?_) (fun h33 => ?_)
    · refine ok_step (ps := [rf_in (nI 8) 700]) (L' := [some (.ref 94), some (.int (nI g)), some (.int p), some (.int q), some (.int fine), some (.int ((d (193 + 8 * g)) - (d (192 + 8 * g))))]) (st' := [.int (ν 95 ((nI 8).toNatClampNeg)), .int (nI 0), .ref 98]) (σ' := (γ, ν)) (pc' := 55) kX12_weighs_48 rfl rfl (rf_a1 (rf_in_n (a := 8) rfl (by omega)) rf_a0) ?_
      try rw [(show (nI 8).toNatClampNeg = 8 from rf_cl_n rfl (by omega))]
      try rw [(show ν 95 8 = d 8 from congrFun hd _)]
      refine ok_step (ps := [rf_in (nI 0) 5, rf_in (nI 1) 5, rf_in (nI 2) 5, rf_in (nI 3) 5, rf_in (nI 4) 5]) (L' := [some (.ref 94), some (.int (nI g)), some (.int p), some (.int q), some (.int fine), some (.int ((d (193 + 8 * g)) - (d (192 + 8 * g))))]) (st' := [.int (nI 0), .ref 94]) (σ' := (γ, rf_w (rf_w (rf_w (rf_w (rf_w ν 98 ((nI 0).toNatClampNeg) (d 8)) 98 ((nI 1).toNatClampNeg) fine) 98 ((nI 2).toNatClampNeg) p) 98 ((nI 3).toNatClampNeg) q) 98 ((nI 4).toNatClampNeg) ((d (193 + 8 * g)) - (d (192 + 8 * g))))) (pc' := 88) kX12_weighs_55 rfl rfl (rf_a1 (rf_in_n (a := 0) rfl (by omega)) (rf_a1 (rf_in_n (a := 1) rfl (by omega)) (rf_a1 (rf_in_n (a := 2) rfl (by omega)) (rf_a1 (rf_in_n (a := 3) rfl (by omega)) (rf_a1 (rf_in_n (a := 4) rfl (by omega)) rf_a0))))) ?_
      try rw [(show (nI 0).toNatClampNeg = 0 from rf_cl_n rfl (by omega))]
      try rw [(show (nI 1).toNatClampNeg = 1 from rf_cl_n rfl (by omega))]
      try rw [(show (nI 2).toNatClampNeg = 2 from rf_cl_n rfl (by omega))]
      try rw [(show (nI 3).toNatClampNeg = 3 from rf_cl_n rfl (by omega))]
      try rw [(show (nI 4).toNatClampNeg = 4 from rf_cl_n rfl (by omega))]
      have ef : d 8 = s_fare d g := by unfold s_fare; rw [if_pos h27, if_neg (show ¬ s_go d g ≤ nI 3 from Int32.not_le.mpr h33)]
      rw [ef, show (d (193 + 8 * g) - d (192 + 8 * g) : Int32) = s_go d g from rfl]
      replace hJ := hJ.sB (w5_sB0 (a := s_fare d g) (b := fine) (c := p) (e := q) (f := s_go d g))
      refine ok_Vx (As := [.int (nI 0)]) (b := 94) (st := []) mkX12_gives qX12_weighs_88 rfl (rc_94) rfl rfl rfl rfl (Nat.le_of_ble_eq_true rfl) (m_gives_0 hJ) (fun r1 σ1 hq => ?_)
      obtain ⟨rfl, ν1, rfl, hB⟩ := hq
      have h95 : (rf_w (rf_w (rf_w (rf_w (rf_w ν 98 0 (s_fare d g)) 98 1 fine) 98 2 p) 98 3 q) 98 4 (s_go d g)) 95 = d := by rw [wr5_o (by decide)]; exact hd
      have eg := gv_congr (u := 0) (by decide) hJ.1.1.2.1 (nm' := (rf_w (rf_w (rf_w (rf_w (rf_w ν 98 0 (s_fare d g)) 98 1 fine) 98 2 p) 98 3 q) 98 4 (s_go d g)) 98) (nm := (nm5 (s_fare d g) fine p q (s_go d g))) (fun i hi => wr5 i (by omega))
      rw [eg, h95]
      refine ok_if_eq bX12_weighs_91 (fun h91 => ?_) (fun h91 => ?_)
      · refine ok_step (ps := []) (L' := [some (.ref 94), some (.int (nI g)), some (.int p), some (.int q), some (.int fine), some (.int (s_go d g))]) (st' := [.int (nI 0)]) (σ' := (γ, ν1)) (pc' := 99) kX12_weighs_98 rfl rfl rf_a0 ?_
        refine ok_retz eX12_weighs_99 rfl (Or.inl rfl) ?_
        exact qB hJ0 hd ⟨rz (decide_eq_false (fun e => e h91)), _, rfl, w5_sB hB⟩
      · refine ok_step (ps := []) (L' := [some (.ref 94), some (.int (nI g)), some (.int p), some (.int q), some (.int fine), some (.int (s_go d g))]) (st' := [.int (nI 1)]) (σ' := (γ, ν1)) (pc' := 95) kX12_weighs_94 rfl rfl rf_a0 ?_
        refine ok_goto bX12_weighs_95 ?_
        refine ok_retz eX12_weighs_99 rfl (Or.inr rfl) ?_
        exact qB hJ0 hd ⟨ro (decide_eq_true h91), _, rfl, w5_sB hB⟩
    · refine ok_step (ps := [rf_in (nI 8) 700, rf_nz (nI 2)]) (L' := [some (.ref 94), some (.int (nI g)), some (.int p), some (.int q), some (.int fine), some (.int ((d (193 + 8 * g)) - (d (192 + 8 * g))))]) (st' := [.int ((ν 95 ((nI 8).toNatClampNeg)) / (nI 2)), .int (nI 0), .ref 98]) (σ' := (γ, ν)) (pc' := 45) kX12_weighs_36 rfl rfl (rf_a1 (rf_in_n (a := 8) rfl (by omega)) (rf_a1 (by decide) rf_a0)) ?_
      try rw [(show (nI 8).toNatClampNeg = 8 from rf_cl_n rfl (by omega))]
      try rw [(show ν 95 8 = d 8 from congrFun hd _)]
      refine ok_goto bX12_weighs_45 ?_
      refine ok_step (ps := [rf_in (nI 0) 5, rf_in (nI 1) 5, rf_in (nI 2) 5, rf_in (nI 3) 5, rf_in (nI 4) 5]) (L' := [some (.ref 94), some (.int (nI g)), some (.int p), some (.int q), some (.int fine), some (.int ((d (193 + 8 * g)) - (d (192 + 8 * g))))]) (st' := [.int (nI 0), .ref 94]) (σ' := (γ, rf_w (rf_w (rf_w (rf_w (rf_w ν 98 ((nI 0).toNatClampNeg) ((d 8) / (nI 2))) 98 ((nI 1).toNatClampNeg) fine) 98 ((nI 2).toNatClampNeg) p) 98 ((nI 3).toNatClampNeg) q) 98 ((nI 4).toNatClampNeg) ((d (193 + 8 * g)) - (d (192 + 8 * g))))) (pc' := 88) kX12_weighs_55 rfl rfl (rf_a1 (rf_in_n (a := 0) rfl (by omega)) (rf_a1 (rf_in_n (a := 1) rfl (by omega)) (rf_a1 (rf_in_n (a := 2) rfl (by omega)) (rf_a1 (rf_in_n (a := 3) rfl (by omega)) (rf_a1 (rf_in_n (a := 4) rfl (by omega)) rf_a0))))) ?_
      try rw [(show (nI 0).toNatClampNeg = 0 from rf_cl_n rfl (by omega))]
      try rw [(show (nI 1).toNatClampNeg = 1 from rf_cl_n rfl (by omega))]
      try rw [(show (nI 2).toNatClampNeg = 2 from rf_cl_n rfl (by omega))]
      try rw [(show (nI 3).toNatClampNeg = 3 from rf_cl_n rfl (by omega))]
      try rw [(show (nI 4).toNatClampNeg = 4 from rf_cl_n rfl (by omega))]
      have ef : (d 8) / (nI 2) = s_fare d g := by unfold s_fare; rw [if_pos h27, if_pos (show s_go d g ≤ nI 3 from Int32.not_lt.mp h33)]
      rw [ef, show (d (193 + 8 * g) - d (192 + 8 * g) : Int32) = s_go d g from rfl]
      replace hJ := hJ.sB (w5_sB0 (a := s_fare d g) (b := fine) (c := p) (e := q) (f := s_go d g))
      refine ok_Vx (As := [.int (nI 0)]) (b := 94) (st := []) mkX12_gives qX12_weighs_88 rfl (rc_94) rfl rfl rfl rfl (Nat.le_of_ble_eq_true rfl) (m_gives_0 hJ) (fun r1 σ1 hq => ?_)
      obtain ⟨rfl, ν1, rfl, hB⟩ := hq
      have h95 : (rf_w (rf_w (rf_w (rf_w (rf_w ν 98 0 (s_fare d g)) 98 1 fine) 98 2 p) 98 3 q) 98 4 (s_go d g)) 95 = d := by rw [wr5_o (by decide)]; exact hd
      have eg := gv_congr (u := 0) (by decide) hJ.1.1.2.1 (nm' := (rf_w (rf_w (rf_w (rf_w (rf_w ν 98 0 (s_fare d g)) 98 1 fine) 98 2 p) 98 3 q) 98 4 (s_go d g)) 98) (nm := (nm5 (s_fare d g) fine p q (s_go d g))) (fun i hi => wr5 i (by omega))
      rw [eg, h95]
      refine ok_if_eq bX12_weighs_91 (fun h91 => ?_) (fun h91 => ?_)
      · refine ok_step (ps := []) (L' := [some (.ref 94), some (.int (nI g)), some (.int p), some (.int q), some (.int fine), some (.int (s_go d g))]) (st' := [.int (nI 0)]) (σ' := (γ, ν1)) (pc' := 99) kX12_weighs_98 rfl rfl rf_a0 ?_
        refine ok_retz eX12_weighs_99 rfl (Or.inl rfl) ?_
        exact qB hJ0 hd ⟨rz (decide_eq_false (fun e => e h91)), _, rfl, w5_sB hB⟩
      · refine ok_step (ps := []) (L' := [some (.ref 94), some (.int (nI g)), some (.int p), some (.int q), some (.int fine), some (.int (s_go d g))]) (st' := [.int (nI 1)]) (σ' := (γ, ν1)) (pc' := 95) kX12_weighs_94 rfl rfl rf_a0 ?_
        refine ok_goto bX12_weighs_95 ?_
        refine ok_retz eX12_weighs_99 rfl (Or.inr rfl) ?_
        exact qB hJ0 hd ⟨ro (decide_eq_true h91), _, rfl, w5_sB hB⟩
theorem m_paysBy {g : Nat} {lots all fine : Int32} (hJ : J α ν) (hd : ν 95 = d) (hg : g < 16) : rf_Ok (rf_T Ln xs) MX12_paysBy 48 0 [some (.ref 94), some (.int (nI g)), some (.int lots), some (.int all), some (.int fine)] [] (γ, ν) (fun r s => r = some (.int (bI (s_pays d g fine (if all = 0 then nI 0 else lots) (if all = 0 then nI 1 else all)))) ∧ ∃ ν' : Nat → Nat → Int32, s = (γ, ν') ∧ J α ν' ∧ ν' 95 = d ∧ sB ν ν') := by
  have hI : Iv d := by rw [← hd]; exact hJ.2
  have b11 := hI.leb (b := 11) (bd_191 (i := g) (by omega) rfl) (by decide)
  refine ok_step (ps := []) (L' := [some (.ref 94), some (.int (nI g)), some (.int lots), some (.int all), some (.int fine)]) (st' := [.int (nI 0), .int (nI g), .ref 94]) (σ' := (γ, ν)) (pc' := 3) kX12_paysBy_0 rfl rfl rf_a0 ?_
  refine ok_V (As := [.int (nI g), .int (nI 0)]) (b := 94) (st := []) mkX12_gr qX12_paysBy_3 rfl (rc_94) rfl rfl rfl rfl (Nat.le_of_ble_eq_true rfl) (m_gr_d (j := (190 + 8 * g)) hd (by omega) (by omega) (by omega)) ?_
  refine ok_table bX12_paysBy_6 (fun h6 => ?_) (fun i t ht h6 => ?_)
  · refine ok_step (ps := []) (L' := [some (.ref 94), some (.int (nI g)), some (.int lots), some (.int all), some (.int fine)]) (st' := [.int (nI 0)]) (σ' := (γ, ν)) (pc' := 167) kX12_paysBy_166 rfl rfl rf_a0 ?_
    refine ok_retz eX12_paysBy_167 rfl (Or.inl rfl) ?_
    exact ⟨by rw [sp_0 (k_0 hI (by omega) h6)]; rfl, _, rfl, hJ, hd, sB.rfl ν⟩
  · match i, ht, h6 with
    | 0, ht, h6 =>
      cases ht
      refine ok_step (ps := []) (L' := [some (.ref 94), some (.int (nI g)), some (.int lots), some (.int all), some (.int fine)]) (st' := [.int (nI 1)]) (σ' := (γ, ν)) (pc' := 49) kX12_paysBy_48 rfl rfl rf_a0 ?_
      refine ok_retz eX12_paysBy_49 rfl (Or.inr rfl) ?_
      exact ⟨by rw [sp_1 (sw_cn (n := 1) (by omega) (by decide))]; rfl, _, rfl, hJ, hd, sB.rfl ν⟩
    | 1, ht, h6 =>
      cases ht
      refine ok_step (ps := []) (L' := [some (.ref 94), some (.int (nI g)), some (.int lots), some (.int all), some (.int fine)]) (st' := [.int (nI 5), .int (nI g), .ref 94, .int (nI g), .ref 94]) (σ' := (γ, ν)) (pc' := 55) kX12_paysBy_50 rfl rfl rf_a0 ?_
      refine ok_V (As := [.int (nI g), .int (nI 5)]) (b := 94) (st := [.int (nI g), .ref 94]) mkX12_gr qX12_paysBy_55 rfl (rc_94) rfl rfl rfl rfl (Nat.le_of_ble_eq_true rfl) (m_gr_d (j := (195 + 8 * g)) hd (by omega) (by omega) (by omega)) ?_
      refine ok_step (ps := []) (L' := [some (.ref 94), some (.int (nI g)), some (.int lots), some (.int all), some (.int fine)]) (st' := [.int (nI 6), .int (nI g), .ref 94, .int (d (195 + 8 * g)), .int (nI g), .ref 94]) (σ' := (γ, ν)) (pc' := 62) kX12_paysBy_58 rfl rfl rf_a0 ?_
      refine ok_V (As := [.int (nI g), .int (nI 6)]) (b := 94) (st := [.int (d (195 + 8 * g)), .int (nI g), .ref 94]) mkX12_gr qX12_paysBy_62 rfl (rc_94) rfl rfl rfl rfl (Nat.le_of_ble_eq_true rfl) (m_gr_d (j := (196 + 8 * g)) hd (by omega) (by omega) (by omega)) ?_
      refine ok_step (ps := []) (L' := [some (.ref 94), some (.int (nI g)), some (.int lots), some (.int all), some (.int fine)]) (st' := [.int fine, .int (d (196 + 8 * g)), .int (d (195 + 8 * g)), .int (nI g), .ref 94]) (σ' := (γ, ν)) (pc' := 67) kX12_paysBy_65 rfl rfl rf_a0 ?_
      refine ok_Vx (As := [.int (nI g), .int (d (195 + 8 * g)), .int (d (196 + 8 * g)), .int fine]) (b := 94) (st := []) mkX12_weighs qX12_paysBy_67 rfl (rc_94) rfl rfl rfl rfl (Nat.le_of_ble_eq_true rfl) (m_weighs hJ hd (by omega)) (fun r1 σ1 hq => ?_)
      obtain ⟨rfl, ν1, rfl, hB⟩ := hq
      refine ok_retz eX12_paysBy_70 rfl (bI_or) ?_
      exact ⟨by rw [sp_2 (sw_cn (n := 2) (by omega) (by decide))], _, rfl, hB⟩
    | 2, ht, h6 =>
      cases ht
      refine ok_step (ps := []) (L' := [some (.ref 94), some (.int (nI g)), some (.int lots), some (.int all), some (.int fine)]) (st' := [.int all, .int (nI g), .ref 94]) (σ' := (γ, ν)) (pc' := 74) kX12_paysBy_71 rfl rfl rf_a0 ?_
      refine ok_if_ne bX12_paysBy_74 (fun h74 => ?_) (fun h74 => ?_)
      · refine ok_step (ps := []) (L' := [some (.ref 94), some (.int (nI g)), some (.int lots), some (.int all), some (.int fine)]) (st' := [.int lots, .int (nI g), .ref 94]) (σ' := (γ, ν)) (pc' := 82) kX12_paysBy_81 rfl rfl rf_a0 ?_
        refine ok_step (ps := []) (L' := [some (.ref 94), some (.int (nI g)), some (.int lots), some (.int all), some (.int fine)]) (st' := [.int all, .int lots, .int (nI g), .ref 94]) (σ' := (γ, ν)) (pc' := 83) kX12_paysBy_82 rfl rfl rf_a0 ?_
        refine ok_if_ne bX12_paysBy_83 (fun _ => ?_) (fun h83 => absurd h83 (h74))
        refine ok_step (ps := []) (L' := [some (.ref 94), some (.int (nI g)), some (.int lots), some (.int all), some (.int fine)]) (st' := [.int all, .int lots, .int (nI g), .ref 94]) (σ' := (γ, ν)) (pc' := 91) kX12_paysBy_90 rfl rfl rf_a0 ?_
        refine ok_step (ps := []) (L' := [some (.ref 94), some (.int (nI g)), some (.int lots), some (.int all), some (.int fine)]) (st' := [.int fine, .int all, .int lots, .int (nI g), .ref 94]) (σ' := (γ, ν)) (pc' := 93) kX12_paysBy_91 rfl rfl rf_a0 ?_
        refine ok_Vx (As := [.int (nI g), .int lots, .int all, .int fine]) (b := 94) (st := []) mkX12_weighs qX12_paysBy_93 rfl (rc_94) rfl rfl rfl rfl (Nat.le_of_ble_eq_true rfl) (m_weighs hJ hd (by omega)) (fun r1 σ1 hq => ?_)
        obtain ⟨rfl, ν1, rfl, hB⟩ := hq
        refine ok_retz eX12_paysBy_96 rfl (bI_or) ?_
        exact ⟨by rw [sp_3 (sw_cn (n := 3) (by omega) (by decide)), if_neg h74, if_neg h74], _, rfl, hB⟩
      · refine ok_step (ps := []) (L' := [some (.ref 94), some (.int (nI g)), some (.int lots), some (.int all), some (.int fine)]) (st' := [.int (nI 0), .int (nI g), .ref 94]) (σ' := (γ, ν)) (pc' := 78) kX12_paysBy_77 rfl rfl rf_a0 ?_
        refine ok_goto bX12_paysBy_78 ?_
        refine ok_step (ps := []) (L' := [some (.ref 94), some (.int (nI g)), some (.int lots), some (.int all), some (.int fine)]) (st' := [.int all, .int (nI 0), .int (nI g), .ref 94]) (σ' := (γ, ν)) (pc' := 83) kX12_paysBy_82 rfl rfl rf_a0 ?_
        refine ok_if_ne bX12_paysBy_83 (fun h83 => absurd (h74) h83) (fun _ => ?_)
        refine ok_step (ps := []) (L' := [some (.ref 94), some (.int (nI g)), some (.int lots), some (.int all), some (.int fine)]) (st' := [.int (nI 1), .int (nI 0), .int (nI g), .ref 94]) (σ' := (γ, ν)) (pc' := 87) kX12_paysBy_86 rfl rfl rf_a0 ?_
        refine ok_goto bX12_paysBy_87 ?_
        refine ok_step (ps := []) (L' := [some (.ref 94), some (.int (nI g)), some (.int lots), some (.int all), some (.int fine)]) (st' := [.int fine, .int (nI 1), .int (nI 0), .int (nI g), .ref 94]) (σ' := (γ, ν)) (pc' := 93) kX12_paysBy_91 rfl rfl rf_a0 ?_
        refine ok_Vx (As := [.int (nI g), .int (nI 0), .int (nI 1), .int fine]) (b := 94) (st := []) mkX12_weighs qX12_paysBy_93 rfl (rc_94) rfl rfl rfl rfl (Nat.le_of_ble_eq_true rfl) (m_weighs hJ hd (by omega)) (fun r1 σ1 hq => ?_)
        obtain ⟨rfl, ν1, rfl, hB⟩ := hq
        refine ok_retz eX12_paysBy_96 rfl (bI_or) ?_
        exact ⟨by rw [sp_3 (sw_cn (n := 3) (by omega) (by decide)), if_pos h74, if_pos h74], _, rfl, hB⟩
    | 3, ht, h6 =>
      cases ht
      refine ok_step (ps := []) (L' := [some (.ref 94), some (.int (nI g)), some (.int lots), some (.int all), some (.int fine)]) (st' := [.int (nI 5), .int (nI g), .ref 94, .int (nI g), .ref 94]) (σ' := (γ, ν)) (pc' := 55) kX12_paysBy_50 rfl rfl rf_a0 ?_
      refine ok_V (As := [.int (nI g), .int (nI 5)]) (b := 94) (st := [.int (nI g), .ref 94]) mkX12_gr qX12_paysBy_55 rfl (rc_94) rfl rfl rfl rfl (Nat.le_of_ble_eq_true rfl) (m_gr_d (j := (195 + 8 * g)) hd (by omega) (by omega) (by omega)) ?_
      refine ok_step (ps := []) (L' := [some (.ref 94), some (.int (nI g)), some (.int lots), some (.int all), some (.int fine)]) (st' := [.int (nI 6), .int (nI g), .ref 94, .int (d (195 + 8 * g)), .int (nI g), .ref 94]) (σ' := (γ, ν)) (pc' := 62) kX12_paysBy_58 rfl rfl rf_a0 ?_
      refine ok_V (As := [.int (nI g), .int (nI 6)]) (b := 94) (st := [.int (d (195 + 8 * g)), .int (nI g), .ref 94]) mkX12_gr qX12_paysBy_62 rfl (rc_94) rfl rfl rfl rfl (Nat.le_of_ble_eq_true rfl) (m_gr_d (j := (196 + 8 * g)) hd (by omega) (by omega) (by omega)) ?_
      refine ok_step (ps := []) (L' := [some (.ref 94), some (.int (nI g)), some (.int lots), some (.int all), some (.int fine)]) (st' := [.int fine, .int (d (196 + 8 * g)), .int (d (195 + 8 * g)), .int (nI g), .ref 94]) (σ' := (γ, ν)) (pc' := 67) kX12_paysBy_65 rfl rfl rf_a0 ?_
      refine ok_Vx (As := [.int (nI g), .int (d (195 + 8 * g)), .int (d (196 + 8 * g)), .int fine]) (b := 94) (st := []) mkX12_weighs qX12_paysBy_67 rfl (rc_94) rfl rfl rfl rfl (Nat.le_of_ble_eq_true rfl) (m_weighs hJ hd (by omega)) (fun r1 σ1 hq => ?_)
      obtain ⟨rfl, ν1, rfl, hB⟩ := hq
      refine ok_retz eX12_paysBy_70 rfl (bI_or) ?_
      exact ⟨by rw [sp_4 (sw_cn (n := 4) (by omega) (by decide))], _, rfl, hB⟩
    | 4, ht, h6 =>
      cases ht
      refine ok_step (ps := [rf_in (nI 0) 700]) (L' := [some (.ref 94), some (.int (nI g)), some (.int lots), some (.int all), some (.int fine)]) (st' := [.int (nI 7), .int (nI g), .ref 94, .int (ν 95 ((nI 0).toNatClampNeg))]) (σ' := (γ, ν)) (pc' := 107) kX12_paysBy_97 rfl rfl (rf_a1 (rf_in_n (a := 0) rfl (by omega)) rf_a0) ?_
      try rw [(show (nI 0).toNatClampNeg = 0 from rf_cl_n rfl (by omega))]
      try rw [(show ν 95 0 = d 0 from congrFun hd _)]
      refine ok_V (As := [.int (nI g), .int (nI 7)]) (b := 94) (st := [.int (d 0)]) mkX12_gr qX12_paysBy_107 rfl (rc_94) rfl rfl rfl rfl (Nat.le_of_ble_eq_true rfl) (m_gr_d (j := (197 + 8 * g)) hd (by omega) (by omega) (by omega)) ?_
      refine ok_icmp_ge bX12_paysBy_110 (fun h110 => ?_) (fun h110 => ?_)
      · refine ok_step (ps := []) (L' := [some (.ref 94), some (.int (nI g)), some (.int lots), some (.int all), some (.int fine)]) (st' := [.int (nI 0)]) (σ' := (γ, ν)) (pc' := 118) kX12_paysBy_117 rfl rfl rf_a0 ?_
        refine ok_retz eX12_paysBy_118 rfl (Or.inl rfl) ?_
        exact ⟨by rw [sp_5 (sw_cn (n := 5) (by omega) (by decide))]; exact rz (decide_eq_false (Int32.not_lt.mpr h110)), _, rfl, hJ, hd, sB.rfl ν⟩
      · refine ok_step (ps := []) (L' := [some (.ref 94), some (.int (nI g)), some (.int lots), some (.int all), some (.int fine)]) (st' := [.int (nI 1)]) (σ' := (γ, ν)) (pc' := 114) kX12_paysBy_113 rfl rfl rf_a0 ?_
        refine ok_goto bX12_paysBy_114 ?_
        refine ok_retz eX12_paysBy_118 rfl (Or.inr rfl) ?_
        exact ⟨by rw [sp_5 (sw_cn (n := 5) (by omega) (by decide))]; exact ro (decide_eq_true (Int32.not_le.mp h110)), _, rfl, hJ, hd, sB.rfl ν⟩
    | 5, ht, h6 =>
      cases ht
      refine ok_step (ps := []) (L' := [some (.ref 94), some (.int (nI g)), some (.int lots), some (.int all), some (.int fine)]) (st' := [.int (nI 1), .int (nI g), .ref 94, .ref 94]) (σ' := (γ, ν)) (pc' := 123) kX12_paysBy_119 rfl rfl rf_a0 ?_
      refine ok_V (As := [.int (nI g), .int (nI 1)]) (b := 94) (st := [.ref 94]) mkX12_gr qX12_paysBy_123 rfl (rc_94) rfl rfl rfl rfl (Nat.le_of_ble_eq_true rfl) (m_gr_d (j := (191 + 8 * g)) hd (by omega) (by omega) (by omega)) ?_
      rw [show d (191 + 8 * g) = nI (cn (d) (191 + 8 * g)) from (hI.atb (k := (191 + 8 * g)) (bd_191 (i := g) (by omega) (by omega)) (by decide))]
      refine ok_V (As := [.int (nI (cn (d) (191 + 8 * g)))]) (b := 94) (st := []) mkX12_startOf qX12_paysBy_126 rfl (rc_94) rfl rfl rfl rfl (Nat.le_of_ble_eq_true rfl) (m_startOf_d hI hd (by omega)) ?_
      refine ok_step (ps := []) (L' := [some (.ref 94), some (.int (nI g)), some (.int lots), some (.int all), some (.int fine)]) (st' := [.int (nI 1100), .int (d (151 + 3 * cn (d) (191 + 8 * g)))]) (σ' := (γ, ν)) (pc' := 132) kX12_paysBy_129 rfl rfl rf_a0 ?_
      refine ok_icmp_ge bX12_paysBy_132 (fun h132 => ?_) (fun h132 => ?_)
      · refine ok_step (ps := []) (L' := [some (.ref 94), some (.int (nI g)), some (.int lots), some (.int all), some (.int fine)]) (st' := [.int (nI 0)]) (σ' := (γ, ν)) (pc' := 140) kX12_paysBy_139 rfl rfl rf_a0 ?_
        refine ok_retz eX12_paysBy_140 rfl (Or.inl rfl) ?_
        exact ⟨by rw [sp_6 (sw_cn (n := 6) (by omega) (by decide))]; exact rz (decide_eq_false (Int32.not_lt.mpr h132)), _, rfl, hJ, hd, sB.rfl ν⟩
      · refine ok_step (ps := []) (L' := [some (.ref 94), some (.int (nI g)), some (.int lots), some (.int all), some (.int fine)]) (st' := [.int (nI 1)]) (σ' := (γ, ν)) (pc' := 136) kX12_paysBy_135 rfl rfl rf_a0 ?_
        refine ok_goto bX12_paysBy_136 ?_
        refine ok_retz eX12_paysBy_140 rfl (Or.inr rfl) ?_
        exact ⟨by rw [sp_6 (sw_cn (n := 6) (by omega) (by decide))]; exact ro (decide_eq_true (Int32.not_le.mp h132)), _, rfl, hJ, hd, sB.rfl ν⟩
    | 6, ht, h6 =>
      cases ht
      refine ok_step (ps := [rf_in (nI 0) 700]) (L' := [some (.ref 94), some (.int (nI g)), some (.int lots), some (.int all), some (.int fine)]) (st' := [.int (nI 7), .int (nI g), .ref 94, .int ((ν 95 ((nI 0).toNatClampNeg)) + (nI 10))]) (σ' := (γ, ν)) (pc' := 154) kX12_paysBy_141 rfl rfl (rf_a1 (rf_in_n (a := 0) rfl (by omega)) rf_a0) ?_
      try rw [(show (nI 0).toNatClampNeg = 0 from rf_cl_n rfl (by omega))]
      try rw [(show ν 95 0 = d 0 from congrFun hd _)]
      try rw [(show ((d 0) + (nI 10)) = nI (10 + cn (d) 0) from rf_eq (rf_nadd (x := d 0) (y := nI 10) (hI.at0) rfl) (by omega))]
      refine ok_V (As := [.int (nI g), .int (nI 7)]) (b := 94) (st := [.int (nI (10 + cn (d) 0))]) mkX12_gr qX12_paysBy_154 rfl (rc_94) rfl rfl rfl rfl (Nat.le_of_ble_eq_true rfl) (m_gr_d (j := (197 + 8 * g)) hd (by omega) (by omega) (by omega)) ?_
      refine ok_icmp_ge bX12_paysBy_157 (fun h157 => ?_) (fun h157 => ?_)
      · refine ok_step (ps := []) (L' := [some (.ref 94), some (.int (nI g)), some (.int lots), some (.int all), some (.int fine)]) (st' := [.int (nI 0)]) (σ' := (γ, ν)) (pc' := 165) kX12_paysBy_164 rfl rfl rf_a0 ?_
        refine ok_retz eX12_paysBy_165 rfl (Or.inl rfl) ?_
        exact ⟨by rw [sp_7 (sw_cn (n := 7) (by omega) (by decide))]; exact rz (decide_eq_false (Int32.not_lt.mpr h157)), _, rfl, hJ, hd, sB.rfl ν⟩
      · refine ok_step (ps := []) (L' := [some (.ref 94), some (.int (nI g)), some (.int lots), some (.int all), some (.int fine)]) (st' := [.int (nI 1)]) (σ' := (γ, ν)) (pc' := 161) kX12_paysBy_160 rfl rfl rf_a0 ?_
        refine ok_goto bX12_paysBy_161 ?_
        refine ok_retz eX12_paysBy_165 rfl (Or.inr rfl) ?_
        exact ⟨by rw [sp_7 (sw_cn (n := 7) (by omega) (by decide))]; exact ro (decide_eq_true (Int32.not_le.mp h157)), _, rfl, hJ, hd, sB.rfl ν⟩
    | i + 7, ht, _ => simp at ht
/-- the odds of a train as both have them -/
theorem odd_0 (hI : Iv d) {t : Nat} : (if s_all d = 0 then nI 0 else s_with d (nI t)) = s_with d (nI t) ∧ (if s_all d = 0 then nI 1 else s_all d) = rf_max (s_all d) (nI 1) := by
  by_cases h : s_all d = 0
  · have h0 := (all_0 hI).mp h
    have h1 := nW_le (d := d) t
    rw [if_pos h, if_pos h]
    exact ⟨by rw [with_n hI, show nW d t = 0 by omega], by rw [below_n hI, show nB d = 1 from if_pos h0]⟩
  · rw [if_neg h, if_neg h]
    exact ⟨rfl, by rw [below_n hI, show nB d = nA d from if_neg (fun e => h ((all_0 hI).mpr e)), all_n hI]⟩
theorem m_payB {g : Nat} {fine : Int32} (hJ : J α ν) (hd : ν 95 = d) (hg : g < 16) : rf_Ok (rf_T Ln xs) MX12_paysBy 48 0 [some (.ref 94), some (.int (nI g)), some (.int (s_with d (d (191 + 8 * g)))), some (.int (s_all d)), some (.int fine)] [] (γ, ν) (fun r s => r = some (.int (bI (s_pays d g fine (s_with d (d (191 + 8 * g))) (rf_max (s_all d) (nI 1))))) ∧ ∃ ν' : Nat → Nat → Int32, s = (γ, ν') ∧ J α ν' ∧ ν' 95 = d ∧ sB ν ν') := by
  have hI : Iv d := by rw [← hd]; exact hJ.2
  have e := odd_0 hI (t := cn d (191 + 8 * g))
  rw [← hI.atb (b := 11) (bd_191 (i := g) (by omega) rfl) (by decide)] at e
  have h := m_paysBy (Ln := Ln) (xs := xs) (γ := γ) (lots := s_with d (d (191 + 8 * g))) (all := s_all d) (fine := fine) hJ hd hg
  rw [e.1, e.2] at h
  exact h
theorem m_pays {g : Nat} (hJ : J α ν) (hd : ν 95 = d) (hg : g < 16) : rf_Ok (rf_T Ln xs) MX12_pays 49 0 [some (.ref 94), some (.int (nI g))] [] (γ, ν) (fun r s => r = some (.int (bI (s_now d g))) ∧ ∃ ν' : Nat → Nat → Int32, s = (γ, ν') ∧ J α ν' ∧ ν' 95 = d ∧ sB ν ν') := by
  have hI : Iv d := by rw [← hd]; exact hJ.2
  refine ok_step (ps := []) (L' := [some (.ref 94), some (.int (nI g))]) (st' := [.int (nI 1), .int (nI g), .ref 94, .ref 94, .int (nI g), .ref 94]) (σ' := (γ, ν)) (pc' := 6) kX12_pays_0 rfl rfl rf_a0 ?_
  refine ok_V (As := [.int (nI g), .int (nI 1)]) (b := 94) (st := [.ref 94, .int (nI g), .ref 94]) mkX12_gr qX12_pays_6 rfl (rc_94) rfl rfl rfl rfl (Nat.le_of_ble_eq_true rfl) (m_gr_d (j := (191 + 8 * g)) hd (by omega) (by omega) (by omega)) ?_
  refine ok_V (As := [.int (d (191 + 8 * g))]) (b := 94) (st := [.int (nI g), .ref 94]) mkX12_lotsWith qX12_pays_9 rfl (rc_94) rfl rfl rfl rfl (Nat.le_of_ble_eq_true rfl) (m_with_d hI hd) ?_
  refine ok_step (ps := []) (L' := [some (.ref 94), some (.int (nI g))]) (st' := [.ref 94, .int (s_with d (d (191 + 8 * g))), .int (nI g), .ref 94]) (σ' := (γ, ν)) (pc' := 13) kX12_pays_12 rfl rfl rf_a0 ?_
  refine ok_V (As := []) (b := 94) (st := [.int (s_with d (d (191 + 8 * g))), .int (nI g), .ref 94]) mkX12_allLots qX12_pays_13 rfl (rc_94) rfl rfl rfl rfl (Nat.le_of_ble_eq_true rfl) (m_all_d hI hd) ?_
  refine ok_step (ps := [rf_in (nI 9) 700]) (L' := [some (.ref 94), some (.int (nI g))]) (st' := [.int (ν 95 ((nI 9).toNatClampNeg)), .int (s_all d), .int (s_with d (d (191 + 8 * g))), .int (nI g), .ref 94]) (σ' := (γ, ν)) (pc' := 23) kX12_pays_16 rfl rfl (rf_a1 (rf_in_n (a := 9) rfl (by omega)) rf_a0) ?_
  try rw [(show (nI 9).toNatClampNeg = 9 from rf_cl_n rfl (by omega))]
  try rw [(show ν 95 9 = d 9 from congrFun hd _)]
  refine ok_Vx (As := [.int (nI g), .int (s_with d (d (191 + 8 * g))), .int (s_all d), .int (d 9)]) (b := 94) (st := []) mkX12_paysBy qX12_pays_23 rfl (rc_94) rfl rfl rfl rfl (Nat.le_of_ble_eq_true rfl) (m_payB hJ hd (by omega)) (fun r1 σ1 hq => ?_)
  obtain ⟨rfl, ν1, rfl, hB⟩ := hq
  refine ok_retz eX12_pays_26 rfl (bI_or) ?_
  exact ⟨rfl, _, rfl, hB⟩
end H45m
