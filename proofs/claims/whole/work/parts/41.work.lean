theorem rf_ndec {x : Int32} {a : Nat} (h : x = nI a) (ha : 1 ≤ a) : x + (-1) = nI (a - 1) := by
  subst h
  rw [← pk_sub ha]
  exact (Int32.sub_eq_add_neg _ _).symm
theorem nz_of {b : Int32} (h : ¬ b = 0) : rf_nz b = true := by simpa [rf_nz] using h
theorem gD {c : List Int32} {i : Nat} (h : i < c.length) : c.getD i 0 = c[i] := by simp [List.getD, List.getElem?_eq_getElem h]
theorem take_f {f : List Int32 → Int32 → List Int32} {c : List Int32} {i : Nat} (hi : i < c.length) : (c.take (i + 1)).foldl f [] = f ((c.take i).foldl f []) (c.getD i 0) := by
  rw [List.take_succ_eq_append_getElem hi, List.foldl_append, gD hi]
  rfl
theorem Sk.push {s : Nat → Int32} {S : List Int32} {h : Nat} {v : Int32} (k : Sk s S) (hh : S.length = h) : Sk (upd s h v) (v :: S) := by
  subst hh
  exact ⟨pk_us .., k.same (fun i hi => pk_un (by omega))⟩
section H41
variable {Ln : Nat} {xs : Nat → Int32} {α μ : Nat → Nat → Int32}
theorem c_join {s a b : Int32} : rf_At (rf_T Ln xs) MX8_join 1 0 ([some (.int s), some (.int a), some (.int b)], [], 108, (α, μ)) (some (.int (jn2 s a b))) 108 (α, μ) := by
  refine rf_pa ?_
  refine ok_step (ps := []) (L' := [some (.int s), some (.int a), some (.int b)]) (st' := [.int s]) (σ' := (α, μ)) (pc' := 1) kX8_join_0 rfl rfl rf_a0 ?_
  refine ok_lookup bX8_join_1 (fun h1 => ?_) (fun q t hm h1 ht => ?_) (by decide)
  · refine ok_step (ps := []) (L' := [some (.int s), some (.int a), some (.int b)]) (st' := [.int b]) (σ' := (α, μ)) (pc' := 170) kX8_join_169 rfl rfl rf_a0 ?_
    refine ok_if_ne bX8_join_170 (fun h170 => ?_) (fun h170 => ?_)
    · refine ok_step (ps := [rf_nz b]) (L' := [some (.int s), some (.int a), some (.int b)]) (st' := [.int (a - a / b * b)]) (σ' := (α, μ)) (pc' := 180) kX8_join_177 rfl rfl (rf_a1 (by first | exact nz_of h158 | exact nz_of h170) rf_a0) ?_
      refine ok_reti eX8_join_180 rfl ?_
      have n124 : ¬ s = 124 := fun e => h1 (124, 83) (by decide) (by rw [e]; rfl)
      have n38 : ¬ s = 38 := fun e => h1 (38, 97) (by decide) (by rw [e]; rfl)
      have n60 : ¬ s = 60 := fun e => h1 (60, 111) (by decide) (by rw [e]; rfl)
      have n61 : ¬ s = 61 := fun e => h1 (61, 122) (by decide) (by rw [e]; rfl)
      have n62 : ¬ s = 62 := fun e => h1 (62, 133) (by decide) (by rw [e]; rfl)
      have n43 : ¬ s = 43 := fun e => h1 (43, 144) (by decide) (by rw [e]; rfl)
      have n45 : ¬ s = 45 := fun e => h1 (45, 148) (by decide) (by rw [e]; rfl)
      have n42 : ¬ s = 42 := fun e => h1 (42, 152) (by decide) (by rw [e]; rfl)
      have n47 : ¬ s = 47 := fun e => h1 (47, 156) (by decide) (by rw [e]; rfl)
      refine ⟨?_, rfl⟩
      unfold jn2
      rw [if_neg n124, if_neg n38, if_neg n60, if_neg n61, if_neg n62, if_neg n43, if_neg n45, if_neg n42, if_neg n47]
      first | rw [if_pos h170]; rfl | rw [if_neg h170]
    · refine ok_step (ps := []) (L' := [some (.int s), some (.int a), some (.int b)]) (st' := [.int (nI 0)]) (σ' := (α, μ)) (pc' := 174) kX8_join_173 rfl rfl rf_a0 ?_
      refine ok_goto bX8_join_174 ?_
      refine ok_reti eX8_join_180 rfl ?_
      have n124 : ¬ s = 124 := fun e => h1 (124, 83) (by decide) (by rw [e]; rfl)
      have n38 : ¬ s = 38 := fun e => h1 (38, 97) (by decide) (by rw [e]; rfl)
      have n60 : ¬ s = 60 := fun e => h1 (60, 111) (by decide) (by rw [e]; rfl)
      have n61 : ¬ s = 61 := fun e => h1 (61, 122) (by decide) (by rw [e]; rfl)
      have n62 : ¬ s = 62 := fun e => h1 (62, 133) (by decide) (by rw [e]; rfl)
      have n43 : ¬ s = 43 := fun e => h1 (43, 144) (by decide) (by rw [e]; rfl)
      have n45 : ¬ s = 45 := fun e => h1 (45, 148) (by decide) (by rw [e]; rfl)
      have n42 : ¬ s = 42 := fun e => h1 (42, 152) (by decide) (by rw [e]; rfl)
      have n47 : ¬ s = 47 := fun e => h1 (47, 156) (by decide) (by rw [e]; rfl)
      refine ⟨?_, rfl⟩
      unfold jn2
      rw [if_neg n124, if_neg n38, if_neg n60, if_neg n61, if_neg n62, if_neg n43, if_neg n45, if_neg n42, if_neg n47]
      first | rw [if_pos h170]; rfl | rw [if_neg h170]
  · simp only [List.mem_cons, List.not_mem_nil, or_false] at hm
    rcases hm with rfl | rfl | rfl | rfl | rfl | rfl | rfl | rfl | rfl
    · obtain rfl : t = 98 := by simp at ht; omega
      obtain rfl : s = nI 38 := sw_eq (n := 38) h1.symm (by decide)
      refine ok_step (ps := []) (L' := [some (.int (nI 38)), some (.int a), some (.int b)]) (st' := [.int a]) (σ' := (α, μ)) (pc' := 99) kX8_join_98 rfl rfl rf_a0 ?_
      refine ok_if_eq bX8_join_99 (fun h99 => ?_) (fun h99 => ?_)
      · refine ok_step (ps := []) (L' := [some (.int (nI 38)), some (.int a), some (.int b)]) (st' := [.int (nI 0)]) (σ' := (α, μ)) (pc' := 111) kX8_join_110 rfl rfl rf_a0 ?_
        refine ok_reti eX8_join_111 rfl ?_
        refine ⟨?_, rfl⟩
        unfold jn2
        rw [if_neg (show ¬ nI 38 = 124 by decide), if_pos (show nI 38 = 38 from rfl)]
        exact rz (by simp_all)
      · refine ok_step (ps := []) (L' := [some (.int (nI 38)), some (.int a), some (.int b)]) (st' := [.int b]) (σ' := (α, μ)) (pc' := 103) kX8_join_102 rfl rfl rf_a0 ?_
        refine ok_if_eq bX8_join_103 (fun h103 => ?_) (fun h103 => ?_)
        · refine ok_step (ps := []) (L' := [some (.int (nI 38)), some (.int a), some (.int b)]) (st' := [.int (nI 0)]) (σ' := (α, μ)) (pc' := 111) kX8_join_110 rfl rfl rf_a0 ?_
          refine ok_reti eX8_join_111 rfl ?_
          refine ⟨?_, rfl⟩
          unfold jn2
          rw [if_neg (show ¬ nI 38 = 124 by decide), if_pos (show nI 38 = 38 from rfl)]
          exact rz (by simp_all)
        · refine ok_step (ps := []) (L' := [some (.int (nI 38)), some (.int a), some (.int b)]) (st' := [.int (nI 1)]) (σ' := (α, μ)) (pc' := 107) kX8_join_106 rfl rfl rf_a0 ?_
          refine ok_goto bX8_join_107 ?_
          refine ok_reti eX8_join_111 rfl ?_
          refine ⟨?_, rfl⟩
          unfold jn2
          rw [if_neg (show ¬ nI 38 = 124 by decide), if_pos (show nI 38 = 38 from rfl)]
          exact ro (by simp_all)
    · obtain rfl : t = 153 := by simp at ht; omega
      obtain rfl : s = nI 42 := sw_eq (n := 42) h1.symm (by decide)
      refine ok_step (ps := []) (L' := [some (.int (nI 42)), some (.int a), some (.int b)]) (st' := [.int (a * b)]) (σ' := (α, μ)) (pc' := 156) kX8_join_153 rfl rfl rf_a0 ?_
      refine ok_reti eX8_join_156 rfl ?_
      exact ⟨rfl, rfl⟩
    · obtain rfl : t = 145 := by simp at ht; omega
      obtain rfl : s = nI 43 := sw_eq (n := 43) h1.symm (by decide)
      refine ok_step (ps := []) (L' := [some (.int (nI 43)), some (.int a), some (.int b)]) (st' := [.int (a + b)]) (σ' := (α, μ)) (pc' := 148) kX8_join_145 rfl rfl rf_a0 ?_
      refine ok_reti eX8_join_148 rfl ?_
      exact ⟨rfl, rfl⟩
    · obtain rfl : t = 149 := by simp at ht; omega
      obtain rfl : s = nI 45 := sw_eq (n := 45) h1.symm (by decide)
      refine ok_step (ps := []) (L' := [some (.int (nI 45)), some (.int a), some (.int b)]) (st' := [.int (a - b)]) (σ' := (α, μ)) (pc' := 152) kX8_join_149 rfl rfl rf_a0 ?_
      refine ok_reti eX8_join_152 rfl ?_
      exact ⟨rfl, rfl⟩
    · obtain rfl : t = 157 := by simp at ht; omega
      obtain rfl : s = nI 47 := sw_eq (n := 47) h1.symm (by decide)
      refine ok_step (ps := []) (L' := [some (.int (nI 47)), some (.int a), some (.int b)]) (st' := [.int b]) (σ' := (α, μ)) (pc' := 158) kX8_join_157 rfl rfl rf_a0 ?_
      refine ok_if_ne bX8_join_158 (fun h158 => ?_) (fun h158 => ?_)
      · refine ok_step (ps := [rf_nz b]) (L' := [some (.int (nI 47)), some (.int a), some (.int b)]) (st' := [.int (a / b)]) (σ' := (α, μ)) (pc' := 168) kX8_join_165 rfl rfl (rf_a1 (by first | exact nz_of h158 | exact nz_of h170) rf_a0) ?_
        refine ok_reti eX8_join_168 rfl ?_
        refine ⟨?_, rfl⟩
        unfold jn2
        rw [if_neg (show ¬ nI 47 = 124 by decide), if_neg (show ¬ nI 47 = 38 by decide), if_neg (show ¬ nI 47 = 60 by decide), if_neg (show ¬ nI 47 = 61 by decide), if_neg (show ¬ nI 47 = 62 by decide), if_neg (show ¬ nI 47 = 43 by decide), if_neg (show ¬ nI 47 = 45 by decide), if_neg (show ¬ nI 47 = 42 by decide), if_pos (show nI 47 = 47 from rfl)]
        first | rw [if_pos h158]; rfl | rw [if_neg h158]
      · refine ok_step (ps := []) (L' := [some (.int (nI 47)), some (.int a), some (.int b)]) (st' := [.int (nI 0)]) (σ' := (α, μ)) (pc' := 162) kX8_join_161 rfl rfl rf_a0 ?_
        refine ok_goto bX8_join_162 ?_
        refine ok_reti eX8_join_168 rfl ?_
        refine ⟨?_, rfl⟩
        unfold jn2
        rw [if_neg (show ¬ nI 47 = 124 by decide), if_neg (show ¬ nI 47 = 38 by decide), if_neg (show ¬ nI 47 = 60 by decide), if_neg (show ¬ nI 47 = 61 by decide), if_neg (show ¬ nI 47 = 62 by decide), if_neg (show ¬ nI 47 = 43 by decide), if_neg (show ¬ nI 47 = 45 by decide), if_neg (show ¬ nI 47 = 42 by decide), if_pos (show nI 47 = 47 from rfl)]
        first | rw [if_pos h158]; rfl | rw [if_neg h158]
    · obtain rfl : t = 112 := by simp at ht; omega
      obtain rfl : s = nI 60 := sw_eq (n := 60) h1.symm (by decide)
      refine ok_step (ps := []) (L' := [some (.int (nI 60)), some (.int a), some (.int b)]) (st' := [.int b, .int a]) (σ' := (α, μ)) (pc' := 114) kX8_join_112 rfl rfl rf_a0 ?_
      refine ok_icmp_ge bX8_join_114 (fun h114 => ?_) (fun h114 => ?_)
      · refine ok_step (ps := []) (L' := [some (.int (nI 60)), some (.int a), some (.int b)]) (st' := [.int (nI 0)]) (σ' := (α, μ)) (pc' := 122) kX8_join_121 rfl rfl rf_a0 ?_
        refine ok_reti eX8_join_122 rfl ?_
        refine ⟨?_, rfl⟩
        unfold jn2
        rw [if_neg (show ¬ nI 60 = 124 by decide), if_neg (show ¬ nI 60 = 38 by decide), if_pos (show nI 60 = 60 from rfl)]
        exact rz (decide_eq_false (Int32.not_lt.mpr h114))
      · refine ok_step (ps := []) (L' := [some (.int (nI 60)), some (.int a), some (.int b)]) (st' := [.int (nI 1)]) (σ' := (α, μ)) (pc' := 118) kX8_join_117 rfl rfl rf_a0 ?_
        refine ok_goto bX8_join_118 ?_
        refine ok_reti eX8_join_122 rfl ?_
        refine ⟨?_, rfl⟩
        unfold jn2
        rw [if_neg (show ¬ nI 60 = 124 by decide), if_neg (show ¬ nI 60 = 38 by decide), if_pos (show nI 60 = 60 from rfl)]
        exact ro (decide_eq_true (Int32.not_le.mp h114))
    · obtain rfl : t = 123 := by simp at ht; omega
      obtain rfl : s = nI 61 := sw_eq (n := 61) h1.symm (by decide)
      refine ok_step (ps := []) (L' := [some (.int (nI 61)), some (.int a), some (.int b)]) (st' := [.int b, .int a]) (σ' := (α, μ)) (pc' := 125) kX8_join_123 rfl rfl rf_a0 ?_
      refine ok_icmp_ne bX8_join_125 (fun h125 => ?_) (fun h125 => ?_)
      · refine ok_step (ps := []) (L' := [some (.int (nI 61)), some (.int a), some (.int b)]) (st' := [.int (nI 0)]) (σ' := (α, μ)) (pc' := 133) kX8_join_132 rfl rfl rf_a0 ?_
        refine ok_reti eX8_join_133 rfl ?_
        refine ⟨?_, rfl⟩
        unfold jn2
        rw [if_neg (show ¬ nI 61 = 124 by decide), if_neg (show ¬ nI 61 = 38 by decide), if_neg (show ¬ nI 61 = 60 by decide), if_pos (show nI 61 = 61 from rfl)]
        exact rz (decide_eq_false h125)
      · refine ok_step (ps := []) (L' := [some (.int (nI 61)), some (.int a), some (.int b)]) (st' := [.int (nI 1)]) (σ' := (α, μ)) (pc' := 129) kX8_join_128 rfl rfl rf_a0 ?_
        refine ok_goto bX8_join_129 ?_
        refine ok_reti eX8_join_133 rfl ?_
        refine ⟨?_, rfl⟩
        unfold jn2
        rw [if_neg (show ¬ nI 61 = 124 by decide), if_neg (show ¬ nI 61 = 38 by decide), if_neg (show ¬ nI 61 = 60 by decide), if_pos (show nI 61 = 61 from rfl)]
        exact ro (decide_eq_true h125)
    · obtain rfl : t = 134 := by simp at ht; omega
      obtain rfl : s = nI 62 := sw_eq (n := 62) h1.symm (by decide)
      refine ok_step (ps := []) (L' := [some (.int (nI 62)), some (.int a), some (.int b)]) (st' := [.int b, .int a]) (σ' := (α, μ)) (pc' := 136) kX8_join_134 rfl rfl rf_a0 ?_
      refine ok_icmp_le bX8_join_136 (fun h136 => ?_) (fun h136 => ?_)
      · refine ok_step (ps := []) (L' := [some (.int (nI 62)), some (.int a), some (.int b)]) (st' := [.int (nI 0)]) (σ' := (α, μ)) (pc' := 144) kX8_join_143 rfl rfl rf_a0 ?_
        refine ok_reti eX8_join_144 rfl ?_
        refine ⟨?_, rfl⟩
        unfold jn2
        rw [if_neg (show ¬ nI 62 = 124 by decide), if_neg (show ¬ nI 62 = 38 by decide), if_neg (show ¬ nI 62 = 60 by decide), if_neg (show ¬ nI 62 = 61 by decide), if_pos (show nI 62 = 62 from rfl)]
        exact rz (decide_eq_false (Int32.not_lt.mpr h136))
      · refine ok_step (ps := []) (L' := [some (.int (nI 62)), some (.int a), some (.int b)]) (st' := [.int (nI 1)]) (σ' := (α, μ)) (pc' := 140) kX8_join_139 rfl rfl rf_a0 ?_
        refine ok_goto bX8_join_140 ?_
        refine ok_reti eX8_join_144 rfl ?_
        refine ⟨?_, rfl⟩
        unfold jn2
        rw [if_neg (show ¬ nI 62 = 124 by decide), if_neg (show ¬ nI 62 = 38 by decide), if_neg (show ¬ nI 62 = 60 by decide), if_neg (show ¬ nI 62 = 61 by decide), if_pos (show nI 62 = 62 from rfl)]
        exact ro (decide_eq_true (Int32.not_le.mp h136))
    · obtain rfl : t = 84 := by simp at ht; omega
      obtain rfl : s = nI 124 := sw_eq (n := 124) h1.symm (by decide)
      refine ok_step (ps := []) (L' := [some (.int (nI 124)), some (.int a), some (.int b)]) (st' := [.int a]) (σ' := (α, μ)) (pc' := 85) kX8_join_84 rfl rfl rf_a0 ?_
      refine ok_if_ne bX8_join_85 (fun h85 => ?_) (fun h85 => ?_)
      · refine ok_step (ps := []) (L' := [some (.int (nI 124)), some (.int a), some (.int b)]) (st' := [.int (nI 1)]) (σ' := (α, μ)) (pc' := 93) kX8_join_92 rfl rfl rf_a0 ?_
        refine ok_goto bX8_join_93 ?_
        refine ok_reti eX8_join_97 rfl ?_
        refine ⟨?_, rfl⟩
        unfold jn2
        rw [if_pos (show nI 124 = 124 from rfl)]
        exact ro (by simp_all)
      · refine ok_step (ps := []) (L' := [some (.int (nI 124)), some (.int a), some (.int b)]) (st' := [.int b]) (σ' := (α, μ)) (pc' := 89) kX8_join_88 rfl rfl rf_a0 ?_
        refine ok_if_eq bX8_join_89 (fun h89 => ?_) (fun h89 => ?_)
        · refine ok_step (ps := []) (L' := [some (.int (nI 124)), some (.int a), some (.int b)]) (st' := [.int (nI 0)]) (σ' := (α, μ)) (pc' := 97) kX8_join_96 rfl rfl rf_a0 ?_
          refine ok_reti eX8_join_97 rfl ?_
          refine ⟨?_, rfl⟩
          unfold jn2
          rw [if_pos (show nI 124 = 124 from rfl)]
          exact rz (by simp_all)
        · refine ok_step (ps := []) (L' := [some (.int (nI 124)), some (.int a), some (.int b)]) (st' := [.int (nI 1)]) (σ' := (α, μ)) (pc' := 93) kX8_join_92 rfl rfl rf_a0 ?_
          refine ok_goto bX8_join_93 ?_
          refine ok_reti eX8_join_97 rfl ?_
          refine ⟨?_, rfl⟩
          unfold jn2
          rw [if_pos (show nI 124 = 124 from rfl)]
          exact ro (by simp_all)
theorem c_wo_l29 {u : Nat} {c : List Int32} {nm : Nat → Int32} {v : Int32} (hu : u ≤ 1) (hc : 1 ≤ c.length ∧ c.length ≤ 50) (hv : ∀ e ∈ c, vc u e) (he : c.foldl (ev1 nm) [] = [v]) (hst : α 29 0 = nI c.length) (hco : ∀ i, i < c.length → α 30 i = c.getD i 0) (hnm : ∀ i, i + u < 5 → α 35 i = nm i) :
    ∀ (j i h : Nat) (S : List Int32) (β : Nat → Nat → Int32), i + j = c.length → S = (c.take i).foldl (ev1 nm) [] → S.length = h → h ≤ i → Sk (β 31) S → (∀ k, k ≠ 31 → β k = α k) →
    rf_Ok (rf_T Ln xs) MX8_workOut 2 4 [some (.ref 29), some (.ref 35), some (.int (nI h)), some (.int (nI i)), none] [] (β, μ) (fun r s => r = some (.int v) ∧ ∃ α' : Nat → Nat → Int32, s = (α', μ) ∧ ∀ k, k ≠ 31 → α' k = α k) := by
  intro j
  induction j with
  | zero =>
    intro i h S β hj hS hh hi hk hb
    have hj : i = c.length := by omega
    have h1 : S = [v] := by rw [hS, hj, List.take_length, he]
    subst h1
    refine ok_step (ps := []) (L' := [some (.ref 29), some (.ref 35), some (.int (nI h)), some (.int (nI i)), none]) (st' := [.int (β 29 0), .int (nI i)]) (σ' := (β, μ)) (pc' := 9) kX8_workOut_4 rfl rfl rf_a0 ?_
    try rw [(show β 29 0 = nI c.length from (congrFun (hb 29 (by decide)) 0).trans hst)]
    refine ok_icmp_ge bX8_workOut_9 (fun _ => ?_) (fun h9 => absurd (nI_le (by omega) (by omega)) h9)
    refine ok_step (ps := [rf_in (nI 0) 50]) (L' := [some (.ref 29), some (.ref 35), some (.int (nI h)), some (.int (nI i)), none]) (st' := [.int (β 31 ((nI 0).toNatClampNeg))]) (σ' := (β, μ)) (pc' := 160) kX8_workOut_154 rfl rfl (rf_a1 (rf_in_n (a := 0) rfl (by omega)) rf_a0) ?_
    try rw [(show (nI 0).toNatClampNeg = 0 from rf_cl_n rfl (by omega))]
    refine ok_reti eX8_workOut_160 rfl ?_
    exact ⟨by rw [show β 31 0 = v from hk.1], _, rfl, hb⟩
  | succ j ih =>
    intro i h S β hj hS hh hi hk hb
    obtain ⟨m, hm, hm2⟩ := hv (c.getD i 0) (by rw [gD (by omega)]; exact List.getElem_mem _)
    have hT := take_f (f := ev1 nm) (c := c) (i := i) (by omega)
    rw [← hS, hm] at hT
    rcases hm2 with hm2 | hm2 | hm2
    · rw [ev1_n hm2] at hT
      refine ok_step (ps := []) (L' := [some (.ref 29), some (.ref 35), some (.int (nI h)), some (.int (nI i)), none]) (st' := [.int (β 29 0), .int (nI i)]) (σ' := (β, μ)) (pc' := 9) kX8_workOut_4 rfl rfl rf_a0 ?_
      try rw [(show β 29 0 = nI c.length from (congrFun (hb 29 (by decide)) 0).trans hst)]
      refine ok_icmp_ge bX8_workOut_9 (fun h9 => absurd h9 (nI_ge (by omega) (by omega))) (fun _ => ?_)
      refine ok_step (ps := [rf_in (nI i) 50]) (L' := [some (.ref 29), some (.ref 35), some (.int (nI h)), some (.int (nI i)), some (.int (β 30 ((nI i).toNatClampNeg)))]) (st' := [.int (nI 10000), .int (β 30 ((nI i).toNatClampNeg))]) (σ' := (β, μ)) (pc' := 25) kX8_workOut_12 rfl rfl (rf_a1 (rf_in_n (a := i) rfl (by omega)) rf_a0) ?_
      try rw [(show (nI i).toNatClampNeg = i from rf_cl_n rfl (by omega))]
      try rw [(show β 30 i = nI m from (congrFun (hb 30 (by decide)) i).trans ((hco i (by omega)).trans hm))]
      refine ok_icmp_ge bX8_workOut_25 (fun h25 => absurd h25 (nI_ge (by omega) (by omega))) (fun _ => ?_)
      refine ok_step (ps := [rf_in (nI h) 50]) (L' := [some (.ref 29), some (.ref 35), some (.int ((nI h) + (nI 1))), some (.int (nI i)), some (.int (nI m))]) (st' := []) (σ' := (rf_w β 31 ((nI h).toNatClampNeg) (nI m), μ)) (pc' := 39) kX8_workOut_28 rfl rfl (rf_a1 (rf_in_n (a := h) rfl (by omega)) rf_a0) ?_
      try rw [(show (nI h).toNatClampNeg = h from rf_cl_n rfl (by omega))]
      try rw [(show ((nI h) + (nI 1)) = nI (h + 1) from nI_add _ _)]
      refine ok_goto bX8_workOut_39 ?_
      refine ok_step (ps := []) (L' := [some (.ref 29), some (.ref 35), some (.int (nI (h + 1))), some (.int ((nI i) + (nI 1))), some (.int (nI m))]) (st' := []) (σ' := (rf_w β 31 h (nI m), μ)) (pc' := 151) kX8_workOut_148 rfl rfl rf_a0 ?_
      try rw [(show ((nI i) + (nI 1)) = nI (i + 1) from nI_add _ _)]
      refine ok_goto bX8_workOut_151 ?_
      refine ok_kill (x := 4) (ih (i + 1) (h + 1) (nI m :: S) (rf_w β 31 h (nI m)) (by omega) (by rw [hT]) (by simp only [List.length_cons]; omega) (by omega) (by rw [rf_w_self]; exact hk.push hh) (fun k hk => ?_))
      rw [rf_w_row hk]; exact hb k hk
    · rw [ev1_m hm2.1 (by omega)] at hT
      refine ok_step (ps := []) (L' := [some (.ref 29), some (.ref 35), some (.int (nI h)), some (.int (nI i)), none]) (st' := [.int (β 29 0), .int (nI i)]) (σ' := (β, μ)) (pc' := 9) kX8_workOut_4 rfl rfl rf_a0 ?_
      try rw [(show β 29 0 = nI c.length from (congrFun (hb 29 (by decide)) 0).trans hst)]
      refine ok_icmp_ge bX8_workOut_9 (fun h9 => absurd h9 (nI_ge (by omega) (by omega))) (fun _ => ?_)
      refine ok_step (ps := [rf_in (nI i) 50]) (L' := [some (.ref 29), some (.ref 35), some (.int (nI h)), some (.int (nI i)), some (.int (β 30 ((nI i).toNatClampNeg)))]) (st' := [.int (nI 10000), .int (β 30 ((nI i).toNatClampNeg))]) (σ' := (β, μ)) (pc' := 25) kX8_workOut_12 rfl rfl (rf_a1 (rf_in_n (a := i) rfl (by omega)) rf_a0) ?_
      try rw [(show (nI i).toNatClampNeg = i from rf_cl_n rfl (by omega))]
      try rw [(show β 30 i = nI m from (congrFun (hb 30 (by decide)) i).trans ((hco i (by omega)).trans hm))]
      refine ok_icmp_ge bX8_workOut_25 (fun _ => ?_) (fun h25 => absurd (nI_le (by omega) (by omega)) h25)
      refine ok_step (ps := []) (L' := [some (.ref 29), some (.ref 35), some (.int (nI h)), some (.int (nI i)), some (.int (nI m))]) (st' := [.int (nI 20000), .int (nI m)]) (σ' := (β, μ)) (pc' := 47) kX8_workOut_42 rfl rfl rf_a0 ?_
      refine ok_icmp_ge bX8_workOut_47 (fun h47 => absurd h47 (nI_ge (by omega) (by omega))) (fun _ => ?_)
      refine ok_step (ps := [rf_in ((nI m) - (nI 10000)) 5, rf_in (nI h) 50]) (L' := [some (.ref 29), some (.ref 35), some (.int ((nI h) + (nI 1))), some (.int (nI i)), some (.int (nI m))]) (st' := []) (σ' := (rf_w β 31 ((nI h).toNatClampNeg) (β 35 (((nI m) - (nI 10000)).toNatClampNeg)), μ)) (pc' := 67) kX8_workOut_50 rfl rfl (rf_a1 (rf_in_n (a := ((m - 10000))) (by (try rw [(show ((nI m) - (nI 10000)) = nI ((m - 10000)) from rf_eq (rf_nsub (x := nI m) (y := nI 10000) rfl rfl (by omega)) (by omega))]); all_goals exact rfl) (by omega)) (rf_a1 (rf_in_n (a := h) rfl (by omega)) rf_a0)) ?_
      try rw [(show ((nI m) - (nI 10000)) = nI ((m - 10000)) from rf_eq (rf_nsub (x := nI m) (y := nI 10000) rfl rfl (by omega)) (by omega))]
      try rw [(show (nI ((m - 10000))).toNatClampNeg = ((m - 10000)) from rf_cl_n rfl (by omega))]
      try rw [(show β 35 (m - 10000) = nm (m - 10000) from (congrFun (hb 35 (by decide)) _).trans (hnm _ (by omega)))]
      try rw [(show (nI h).toNatClampNeg = h from rf_cl_n rfl (by omega))]
      try rw [(show ((nI h) + (nI 1)) = nI (h + 1) from nI_add _ _)]
      refine ok_goto bX8_workOut_67 ?_
      refine ok_step (ps := []) (L' := [some (.ref 29), some (.ref 35), some (.int (nI (h + 1))), some (.int ((nI i) + (nI 1))), some (.int (nI m))]) (st' := []) (σ' := (rf_w β 31 h (nm (m - 10000)), μ)) (pc' := 151) kX8_workOut_148 rfl rfl rf_a0 ?_
      try rw [(show ((nI i) + (nI 1)) = nI (i + 1) from nI_add _ _)]
      refine ok_goto bX8_workOut_151 ?_
      refine ok_kill (x := 4) (ih (i + 1) (h + 1) (nm (m - 10000) :: S) (rf_w β 31 h (nm (m - 10000))) (by omega) (by rw [hT]) (by simp only [List.length_cons]; omega) (by omega) (by rw [rf_w_self]; exact hk.push hh) (fun k hk => ?_))
      rw [rf_w_row hk]; exact hb k hk
    · by_cases hn : m = 20033
      · subst hn
        rw [ev1_not] at hT
        cases S with
        | nil =>
          obtain rfl : h = 0 := hh.symm
          refine ok_step (ps := []) (L' := [some (.ref 29), some (.ref 35), some (.int (nI 0)), some (.int (nI i)), none]) (st' := [.int (β 29 0), .int (nI i)]) (σ' := (β, μ)) (pc' := 9) kX8_workOut_4 rfl rfl rf_a0 ?_
          try rw [(show β 29 0 = nI c.length from (congrFun (hb 29 (by decide)) 0).trans hst)]
          refine ok_icmp_ge bX8_workOut_9 (fun h9 => absurd h9 (nI_ge (by omega) (by omega))) (fun _ => ?_)
          refine ok_step (ps := [rf_in (nI i) 50]) (L' := [some (.ref 29), some (.ref 35), some (.int (nI 0)), some (.int (nI i)), some (.int (β 30 ((nI i).toNatClampNeg)))]) (st' := [.int (nI 10000), .int (β 30 ((nI i).toNatClampNeg))]) (σ' := (β, μ)) (pc' := 25) kX8_workOut_12 rfl rfl (rf_a1 (rf_in_n (a := i) rfl (by omega)) rf_a0) ?_
          try rw [(show (nI i).toNatClampNeg = i from rf_cl_n rfl (by omega))]
          try rw [(show β 30 i = nI 20033 from (congrFun (hb 30 (by decide)) i).trans ((hco i (by omega)).trans hm))]
          refine ok_icmp_ge bX8_workOut_25 (fun _ => ?_) (fun h25 => absurd ((by decide)) h25)
          refine ok_step (ps := []) (L' := [some (.ref 29), some (.ref 35), some (.int (nI 0)), some (.int (nI i)), some (.int (nI 20033))]) (st' := [.int (nI 20000), .int (nI 20033)]) (σ' := (β, μ)) (pc' := 47) kX8_workOut_42 rfl rfl rf_a0 ?_
          refine ok_icmp_ge bX8_workOut_47 (fun _ => ?_) (fun h47 => absurd ((by decide)) h47)
          refine ok_step (ps := []) (L' := [some (.ref 29), some (.ref 35), some (.int (nI 0)), some (.int (nI i)), some (.int (nI 20033))]) (st' := [.int (nI 20033), .int (nI 20033)]) (σ' := (β, μ)) (pc' := 75) kX8_workOut_70 rfl rfl rf_a0 ?_
          refine ok_icmp_ne bX8_workOut_75 (fun h75 => absurd ((by decide)) h75) (fun _ => ?_)
          refine ok_step (ps := []) (L' := [some (.ref 29), some (.ref 35), some (.int (nI 0)), some (.int (nI i)), some (.int (nI 20033))]) (st' := [.int (nI 0)]) (σ' := (β, μ)) (pc' := 79) kX8_workOut_78 rfl rfl rf_a0 ?_
          refine ok_if_le bX8_workOut_79 (fun _ => ?_) (fun h79 => absurd ((by decide)) h79)
          refine ok_step (ps := []) (L' := [some (.ref 29), some (.ref 35), some (.int (nI 0)), some (.int (nI i)), some (.int (nI 20033))]) (st' := [.int (nI 1), .int (nI 0)]) (σ' := (β, μ)) (pc' := 111) kX8_workOut_109 rfl rfl rf_a0 ?_
          refine ok_icmp_le bX8_workOut_111 (fun _ => ?_) (fun h111 => absurd ((by decide)) h111)
          refine ok_step (ps := []) (L' := [some (.ref 29), some (.ref 35), some (.int (nI 0)), some (.int ((nI i) + (nI 1))), some (.int (nI 20033))]) (st' := []) (σ' := (β, μ)) (pc' := 151) kX8_workOut_148 rfl rfl rf_a0 ?_
          try rw [(show ((nI i) + (nI 1)) = nI (i + 1) from nI_add _ _)]
          refine ok_goto bX8_workOut_151 ?_
          refine ok_kill (x := 4) (ih (i + 1) 0 [] β (by omega) (by rw [hT]) rfl (by omega) trivial hb)
        | cons a S =>
          obtain ⟨g, rfl⟩ : ∃ g, h = 1 + g := ⟨S.length, by rw [← hh, List.length_cons, Nat.add_comm]⟩
          have hg : S.length = g := by simp only [List.length_cons] at hh; omega
          obtain ⟨k1, k2⟩ := hk
          rw [hg] at k1
          have hT2 : List.foldl (ev1 nm) [] (List.take (i + 1) c) = bI (decide (a = 0)) :: S := hT
          refine ok_step (ps := []) (L' := [some (.ref 29), some (.ref 35), some (.int (nI (1 + g))), some (.int (nI i)), none]) (st' := [.int (β 29 0), .int (nI i)]) (σ' := (β, μ)) (pc' := 9) kX8_workOut_4 rfl rfl rf_a0 ?_
          try rw [(show β 29 0 = nI c.length from (congrFun (hb 29 (by decide)) 0).trans hst)]
          refine ok_icmp_ge bX8_workOut_9 (fun h9 => absurd h9 (nI_ge (by omega) (by omega))) (fun _ => ?_)
          refine ok_step (ps := [rf_in (nI i) 50]) (L' := [some (.ref 29), some (.ref 35), some (.int (nI (1 + g))), some (.int (nI i)), some (.int (β 30 ((nI i).toNatClampNeg)))]) (st' := [.int (nI 10000), .int (β 30 ((nI i).toNatClampNeg))]) (σ' := (β, μ)) (pc' := 25) kX8_workOut_12 rfl rfl (rf_a1 (rf_in_n (a := i) rfl (by omega)) rf_a0) ?_
          try rw [(show (nI i).toNatClampNeg = i from rf_cl_n rfl (by omega))]
          try rw [(show β 30 i = nI 20033 from (congrFun (hb 30 (by decide)) i).trans ((hco i (by omega)).trans hm))]
          refine ok_icmp_ge bX8_workOut_25 (fun _ => ?_) (fun h25 => absurd ((by decide)) h25)
          refine ok_step (ps := []) (L' := [some (.ref 29), some (.ref 35), some (.int (nI (1 + g))), some (.int (nI i)), some (.int (nI 20033))]) (st' := [.int (nI 20000), .int (nI 20033)]) (σ' := (β, μ)) (pc' := 47) kX8_workOut_42 rfl rfl rf_a0 ?_
          refine ok_icmp_ge bX8_workOut_47 (fun _ => ?_) (fun h47 => absurd ((by decide)) h47)
          refine ok_step (ps := []) (L' := [some (.ref 29), some (.ref 35), some (.int (nI (1 + g))), some (.int (nI i)), some (.int (nI 20033))]) (st' := [.int (nI 20033), .int (nI 20033)]) (σ' := (β, μ)) (pc' := 75) kX8_workOut_70 rfl rfl rf_a0 ?_
          refine ok_icmp_ne bX8_workOut_75 (fun h75 => absurd ((by decide)) h75) (fun _ => ?_)
          refine ok_step (ps := []) (L' := [some (.ref 29), some (.ref 35), some (.int (nI (1 + g))), some (.int (nI i)), some (.int (nI 20033))]) (st' := [.int (nI (1 + g))]) (σ' := (β, μ)) (pc' := 79) kX8_workOut_78 rfl rfl rf_a0 ?_
          refine ok_if_le bX8_workOut_79 (fun h79 => absurd h79 (show ¬ nI (1 + g) ≤ nI 0 from nI_ge (by omega) (by omega))) (fun _ => ?_)
          refine ok_step (ps := [rf_in ((nI (1 + g)) - (nI 1)) 50]) (L' := [some (.ref 29), some (.ref 35), some (.int (nI (1 + g))), some (.int (nI i)), some (.int (nI 20033))]) (st' := [.int (β 31 (((nI (1 + g)) - (nI 1)).toNatClampNeg)), .int ((nI (1 + g)) - (nI 1)), .ref 31]) (σ' := (β, μ)) (pc' := 97) kX8_workOut_82 rfl rfl (rf_a1 (rf_in_n (a := g) (by (try rw [(show ((nI (1 + g)) - (nI 1)) = nI g from rf_eq (rf_nsub (x := nI (1 + g)) (y := nI 1) rfl rfl (by omega)) (by omega))]); (try rw [(show ((nI (1 + g)) - (nI 1)) = nI g from rf_eq (rf_nsub (x := nI (1 + g)) (y := nI 1) rfl rfl (by omega)) (by omega))]); all_goals exact rfl) (by omega)) rf_a0) ?_
          try rw [(show ((nI (1 + g)) - (nI 1)) = nI g from rf_eq (rf_nsub (x := nI (1 + g)) (y := nI 1) rfl rfl (by omega)) (by omega))]
          try rw [(show (nI g).toNatClampNeg = g from rf_cl_n rfl (by omega))]
          try rw [(show β 31 g = a from k1)]
          refine ok_if_ne bX8_workOut_97 (fun h97 => ?_) (fun h97 => ?_)
          · refine ok_step (ps := []) (L' := [some (.ref 29), some (.ref 35), some (.int (nI (1 + g))), some (.int (nI i)), some (.int (nI 20033))]) (st' := [.int (nI 0), .int (nI g), .ref 31]) (σ' := (β, μ)) (pc' := 105) kX8_workOut_104 rfl rfl rf_a0 ?_
            refine ok_step (ps := [rf_in (nI g) 50]) (L' := [some (.ref 29), some (.ref 35), some (.int (nI (1 + g))), some (.int (nI i)), some (.int (nI 20033))]) (st' := []) (σ' := (rf_w β 31 ((nI g).toNatClampNeg) (nI 0), μ)) (pc' := 106) kX8_workOut_105 rfl rfl (rf_a1 (rf_in_n (a := g) rfl (by omega)) rf_a0) ?_
            try rw [(show (nI g).toNatClampNeg = g from rf_cl_n rfl (by omega))]
            refine ok_goto bX8_workOut_106 ?_
            refine ok_step (ps := []) (L' := [some (.ref 29), some (.ref 35), some (.int (nI (1 + g))), some (.int ((nI i) + (nI 1))), some (.int (nI 20033))]) (st' := []) (σ' := (rf_w β 31 g (nI 0), μ)) (pc' := 151) kX8_workOut_148 rfl rfl rf_a0 ?_
            try rw [(show ((nI i) + (nI 1)) = nI (i + 1) from nI_add _ _)]
            refine ok_goto bX8_workOut_151 ?_
            have e0 : nI 0 = bI (decide (a = 0)) := by exact (bI_f (by simp [h97])).symm
            rw [e0]
            refine ok_kill (x := 4) (ih (i + 1) (1 + g) (bI (decide (a = 0)) :: S) (rf_w β 31 g (bI (decide (a = 0)))) (by omega) hT2.symm (by simp only [List.length_cons]; omega) (by omega) (by rw [rf_w_self]; exact k2.push hg) (fun k hk => ?_))
            rw [rf_w_row hk]; exact hb k hk
          · refine ok_step (ps := []) (L' := [some (.ref 29), some (.ref 35), some (.int (nI (1 + g))), some (.int (nI i)), some (.int (nI 20033))]) (st' := [.int (nI 1), .int (nI g), .ref 31]) (σ' := (β, μ)) (pc' := 101) kX8_workOut_100 rfl rfl rf_a0 ?_
            refine ok_goto bX8_workOut_101 ?_
            refine ok_step (ps := [rf_in (nI g) 50]) (L' := [some (.ref 29), some (.ref 35), some (.int (nI (1 + g))), some (.int (nI i)), some (.int (nI 20033))]) (st' := []) (σ' := (rf_w β 31 ((nI g).toNatClampNeg) (nI 1), μ)) (pc' := 106) kX8_workOut_105 rfl rfl (rf_a1 (rf_in_n (a := g) rfl (by omega)) rf_a0) ?_
            try rw [(show (nI g).toNatClampNeg = g from rf_cl_n rfl (by omega))]
            refine ok_goto bX8_workOut_106 ?_
            refine ok_step (ps := []) (L' := [some (.ref 29), some (.ref 35), some (.int (nI (1 + g))), some (.int ((nI i) + (nI 1))), some (.int (nI 20033))]) (st' := []) (σ' := (rf_w β 31 g (nI 1), μ)) (pc' := 151) kX8_workOut_148 rfl rfl rf_a0 ?_
            try rw [(show ((nI i) + (nI 1)) = nI (i + 1) from nI_add _ _)]
            refine ok_goto bX8_workOut_151 ?_
            have e0 : nI 1 = bI (decide (a = 0)) := by exact (bI_t (by simp [h97])).symm
            rw [e0]
            refine ok_kill (x := 4) (ih (i + 1) (1 + g) (bI (decide (a = 0)) :: S) (rf_w β 31 g (bI (decide (a = 0)))) (by omega) hT2.symm (by simp only [List.length_cons]; omega) (by omega) (by rw [rf_w_self]; exact k2.push hg) (fun k hk => ?_))
            rw [rf_w_row hk]; exact hb k hk
      · rw [ev1_s hm2.1 hm2.2 hn] at hT
        cases S with
        | nil =>
          obtain rfl : h = 0 := hh.symm
          refine ok_step (ps := []) (L' := [some (.ref 29), some (.ref 35), some (.int (nI 0)), some (.int (nI i)), none]) (st' := [.int (β 29 0), .int (nI i)]) (σ' := (β, μ)) (pc' := 9) kX8_workOut_4 rfl rfl rf_a0 ?_
          try rw [(show β 29 0 = nI c.length from (congrFun (hb 29 (by decide)) 0).trans hst)]
          refine ok_icmp_ge bX8_workOut_9 (fun h9 => absurd h9 (nI_ge (by omega) (by omega))) (fun _ => ?_)
          refine ok_step (ps := [rf_in (nI i) 50]) (L' := [some (.ref 29), some (.ref 35), some (.int (nI 0)), some (.int (nI i)), some (.int (β 30 ((nI i).toNatClampNeg)))]) (st' := [.int (nI 10000), .int (β 30 ((nI i).toNatClampNeg))]) (σ' := (β, μ)) (pc' := 25) kX8_workOut_12 rfl rfl (rf_a1 (rf_in_n (a := i) rfl (by omega)) rf_a0) ?_
          try rw [(show (nI i).toNatClampNeg = i from rf_cl_n rfl (by omega))]
          try rw [(show β 30 i = nI m from (congrFun (hb 30 (by decide)) i).trans ((hco i (by omega)).trans hm))]
          refine ok_icmp_ge bX8_workOut_25 (fun _ => ?_) (fun h25 => absurd (nI_le (by omega) (by omega)) h25)
          refine ok_step (ps := []) (L' := [some (.ref 29), some (.ref 35), some (.int (nI 0)), some (.int (nI i)), some (.int (nI m))]) (st' := [.int (nI 20000), .int (nI m)]) (σ' := (β, μ)) (pc' := 47) kX8_workOut_42 rfl rfl rf_a0 ?_
          refine ok_icmp_ge bX8_workOut_47 (fun _ => ?_) (fun h47 => absurd (nI_le (by omega) (by omega)) h47)
          refine ok_step (ps := []) (L' := [some (.ref 29), some (.ref 35), some (.int (nI 0)), some (.int (nI i)), some (.int (nI m))]) (st' := [.int (nI 20033), .int (nI m)]) (σ' := (β, μ)) (pc' := 75) kX8_workOut_70 rfl rfl rf_a0 ?_
          refine ok_icmp_ne bX8_workOut_75 (fun _ => ?_) (fun h75 => absurd h75 ((fun e => hn (nI_inj e (by omega) (by decide)))))
          refine ok_step (ps := []) (L' := [some (.ref 29), some (.ref 35), some (.int (nI 0)), some (.int (nI i)), some (.int (nI m))]) (st' := [.int (nI 1), .int (nI 0)]) (σ' := (β, μ)) (pc' := 111) kX8_workOut_109 rfl rfl rf_a0 ?_
          refine ok_icmp_le bX8_workOut_111 (fun _ => ?_) (fun h111 => absurd ((by decide)) h111)
          refine ok_step (ps := []) (L' := [some (.ref 29), some (.ref 35), some (.int (nI 0)), some (.int ((nI i) + (nI 1))), some (.int (nI m))]) (st' := []) (σ' := (β, μ)) (pc' := 151) kX8_workOut_148 rfl rfl rf_a0 ?_
          try rw [(show ((nI i) + (nI 1)) = nI (i + 1) from nI_add _ _)]
          refine ok_goto bX8_workOut_151 ?_
          refine ok_kill (x := 4) (ih (i + 1) 0 [] β (by omega) (by rw [hT]) rfl (by omega) trivial hb)
        | cons b S =>
          cases S with
          | nil =>
            obtain rfl : h = 1 := hh.symm
            refine ok_step (ps := []) (L' := [some (.ref 29), some (.ref 35), some (.int (nI 1)), some (.int (nI i)), none]) (st' := [.int (β 29 0), .int (nI i)]) (σ' := (β, μ)) (pc' := 9) kX8_workOut_4 rfl rfl rf_a0 ?_
            try rw [(show β 29 0 = nI c.length from (congrFun (hb 29 (by decide)) 0).trans hst)]
            refine ok_icmp_ge bX8_workOut_9 (fun h9 => absurd h9 (nI_ge (by omega) (by omega))) (fun _ => ?_)
            refine ok_step (ps := [rf_in (nI i) 50]) (L' := [some (.ref 29), some (.ref 35), some (.int (nI 1)), some (.int (nI i)), some (.int (β 30 ((nI i).toNatClampNeg)))]) (st' := [.int (nI 10000), .int (β 30 ((nI i).toNatClampNeg))]) (σ' := (β, μ)) (pc' := 25) kX8_workOut_12 rfl rfl (rf_a1 (rf_in_n (a := i) rfl (by omega)) rf_a0) ?_
            try rw [(show (nI i).toNatClampNeg = i from rf_cl_n rfl (by omega))]
            try rw [(show β 30 i = nI m from (congrFun (hb 30 (by decide)) i).trans ((hco i (by omega)).trans hm))]
            refine ok_icmp_ge bX8_workOut_25 (fun _ => ?_) (fun h25 => absurd (nI_le (by omega) (by omega)) h25)
            refine ok_step (ps := []) (L' := [some (.ref 29), some (.ref 35), some (.int (nI 1)), some (.int (nI i)), some (.int (nI m))]) (st' := [.int (nI 20000), .int (nI m)]) (σ' := (β, μ)) (pc' := 47) kX8_workOut_42 rfl rfl rf_a0 ?_
            refine ok_icmp_ge bX8_workOut_47 (fun _ => ?_) (fun h47 => absurd (nI_le (by omega) (by omega)) h47)
            refine ok_step (ps := []) (L' := [some (.ref 29), some (.ref 35), some (.int (nI 1)), some (.int (nI i)), some (.int (nI m))]) (st' := [.int (nI 20033), .int (nI m)]) (σ' := (β, μ)) (pc' := 75) kX8_workOut_70 rfl rfl rf_a0 ?_
            refine ok_icmp_ne bX8_workOut_75 (fun _ => ?_) (fun h75 => absurd h75 ((fun e => hn (nI_inj e (by omega) (by decide)))))
            refine ok_step (ps := []) (L' := [some (.ref 29), some (.ref 35), some (.int (nI 1)), some (.int (nI i)), some (.int (nI m))]) (st' := [.int (nI 1), .int (nI 1)]) (σ' := (β, μ)) (pc' := 111) kX8_workOut_109 rfl rfl rf_a0 ?_
            refine ok_icmp_le bX8_workOut_111 (fun _ => ?_) (fun h111 => absurd ((by decide)) h111)
            refine ok_step (ps := []) (L' := [some (.ref 29), some (.ref 35), some (.int (nI 1)), some (.int ((nI i) + (nI 1))), some (.int (nI m))]) (st' := []) (σ' := (β, μ)) (pc' := 151) kX8_workOut_148 rfl rfl rf_a0 ?_
            try rw [(show ((nI i) + (nI 1)) = nI (i + 1) from nI_add _ _)]
            refine ok_goto bX8_workOut_151 ?_
            refine ok_kill (x := 4) (ih (i + 1) 1 [b] β (by omega) (by rw [hT]) rfl (by omega) hk hb)
          | cons a S =>
            obtain ⟨g, rfl⟩ : ∃ g, h = 2 + g := ⟨S.length, by rw [← hh, List.length_cons, List.length_cons]; omega⟩
            have hg : S.length = g := by simp only [List.length_cons] at hh; omega
            obtain ⟨k0, k1, k2⟩ := hk
            rw [hg] at k1
            rw [List.length_cons, hg] at k0
            have hT2 : List.foldl (ev1 nm) [] (List.take (i + 1) c) = jn2 (nI (m - 20000)) a b :: S := hT
            refine ok_step (ps := []) (L' := [some (.ref 29), some (.ref 35), some (.int (nI (2 + g))), some (.int (nI i)), none]) (st' := [.int (β 29 0), .int (nI i)]) (σ' := (β, μ)) (pc' := 9) kX8_workOut_4 rfl rfl rf_a0 ?_
            try rw [(show β 29 0 = nI c.length from (congrFun (hb 29 (by decide)) 0).trans hst)]
            refine ok_icmp_ge bX8_workOut_9 (fun h9 => absurd h9 (nI_ge (by omega) (by omega))) (fun _ => ?_)
            refine ok_step (ps := [rf_in (nI i) 50]) (L' := [some (.ref 29), some (.ref 35), some (.int (nI (2 + g))), some (.int (nI i)), some (.int (β 30 ((nI i).toNatClampNeg)))]) (st' := [.int (nI 10000), .int (β 30 ((nI i).toNatClampNeg))]) (σ' := (β, μ)) (pc' := 25) kX8_workOut_12 rfl rfl (rf_a1 (rf_in_n (a := i) rfl (by omega)) rf_a0) ?_
            try rw [(show (nI i).toNatClampNeg = i from rf_cl_n rfl (by omega))]
            try rw [(show β 30 i = nI m from (congrFun (hb 30 (by decide)) i).trans ((hco i (by omega)).trans hm))]
            refine ok_icmp_ge bX8_workOut_25 (fun _ => ?_) (fun h25 => absurd (nI_le (by omega) (by omega)) h25)
            refine ok_step (ps := []) (L' := [some (.ref 29), some (.ref 35), some (.int (nI (2 + g))), some (.int (nI i)), some (.int (nI m))]) (st' := [.int (nI 20000), .int (nI m)]) (σ' := (β, μ)) (pc' := 47) kX8_workOut_42 rfl rfl rf_a0 ?_
            refine ok_icmp_ge bX8_workOut_47 (fun _ => ?_) (fun h47 => absurd (nI_le (by omega) (by omega)) h47)
            refine ok_step (ps := []) (L' := [some (.ref 29), some (.ref 35), some (.int (nI (2 + g))), some (.int (nI i)), some (.int (nI m))]) (st' := [.int (nI 20033), .int (nI m)]) (σ' := (β, μ)) (pc' := 75) kX8_workOut_70 rfl rfl rf_a0 ?_
            refine ok_icmp_ne bX8_workOut_75 (fun _ => ?_) (fun h75 => absurd h75 ((fun e => hn (nI_inj e (by omega) (by decide)))))
            refine ok_step (ps := []) (L' := [some (.ref 29), some (.ref 35), some (.int (nI (2 + g))), some (.int (nI i)), some (.int (nI m))]) (st' := [.int (nI 1), .int (nI (2 + g))]) (σ' := (β, μ)) (pc' := 111) kX8_workOut_109 rfl rfl rf_a0 ?_
            refine ok_icmp_le bX8_workOut_111 (fun h111 => absurd h111 (nI_ge (by omega) (by omega))) (fun _ => ?_)
            refine ok_step (ps := [rf_in (((nI (2 + g)) + (-1)) - (nI 1)) 50, rf_in ((nI (2 + g)) + (-1)) 50]) (L' := [some (.ref 29), some (.ref 35), some (.int ((nI (2 + g)) + (-1))), some (.int (nI i)), some (.int (nI m))]) (st' := [.int (β 31 (((nI (2 + g)) + (-1)).toNatClampNeg)), .int (β 31 ((((nI (2 + g)) + (-1)) - (nI 1)).toNatClampNeg)), .int ((nI m) - (nI 20000)), .int (((nI (2 + g)) + (-1)) - (nI 1)), .ref 31]) (σ' := (β, μ)) (pc' := 144) kX8_workOut_114 rfl rfl (rf_a1 (rf_in_n (a := g) (by (try rw [(show ((nI (2 + g)) + (-1)) = nI (1 + g) from rf_eq (rf_ndec (x := nI (2 + g)) rfl (by omega)) (by omega))]); (try rw [(show ((nI (1 + g)) - (nI 1)) = nI g from rf_eq (rf_nsub (x := nI (1 + g)) (y := nI 1) rfl rfl (by omega)) (by omega))]); (try rw [(show ((nI m) - (nI 20000)) = nI ((m - 20000)) from rf_eq (rf_nsub (x := nI m) (y := nI 20000) rfl rfl (by omega)) (by omega))]); (try rw [(show ((nI (1 + g)) - (nI 1)) = nI g from rf_eq (rf_nsub (x := nI (1 + g)) (y := nI 1) rfl rfl (by omega)) (by omega))]); all_goals exact rfl) (by omega)) (rf_a1 (rf_in_n (a := (1 + g)) (by (try rw [(show ((nI (2 + g)) + (-1)) = nI (1 + g) from rf_eq (rf_ndec (x := nI (2 + g)) rfl (by omega)) (by omega))]); (try rw [(show ((nI (1 + g)) - (nI 1)) = nI g from rf_eq (rf_nsub (x := nI (1 + g)) (y := nI 1) rfl rfl (by omega)) (by omega))]); (try rw [(show ((nI m) - (nI 20000)) = nI ((m - 20000)) from rf_eq (rf_nsub (x := nI m) (y := nI 20000) rfl rfl (by omega)) (by omega))]); (try rw [(show ((nI (1 + g)) - (nI 1)) = nI g from rf_eq (rf_nsub (x := nI (1 + g)) (y := nI 1) rfl rfl (by omega)) (by omega))]); (try rw [(show (nI g).toNatClampNeg = g from rf_cl_n rfl (by omega))]); (try rw [(show β 31 g = a from k1)]); all_goals exact rfl) (by omega)) rf_a0)) ?_
            try rw [(show ((nI (2 + g)) + (-1)) = nI (1 + g) from rf_eq (rf_ndec (x := nI (2 + g)) rfl (by omega)) (by omega))]
            try rw [(show ((nI (1 + g)) - (nI 1)) = nI g from rf_eq (rf_nsub (x := nI (1 + g)) (y := nI 1) rfl rfl (by omega)) (by omega))]
            try rw [(show ((nI m) - (nI 20000)) = nI ((m - 20000)) from rf_eq (rf_nsub (x := nI m) (y := nI 20000) rfl rfl (by omega)) (by omega))]
            try rw [(show ((nI (1 + g)) - (nI 1)) = nI g from rf_eq (rf_nsub (x := nI (1 + g)) (y := nI 1) rfl rfl (by omega)) (by omega))]
            try rw [(show (nI g).toNatClampNeg = g from rf_cl_n rfl (by omega))]
            try rw [(show β 31 g = a from k1)]
            try rw [(show (nI (1 + g)).toNatClampNeg = (1 + g) from rf_cl_n rfl (by omega))]
            try rw [(show β 31 (1 + g) = b from (congrArg (β 31) (Nat.add_comm 1 g)).trans k0)]
            refine ok_S (As := [.int (nI ((m - 20000))), .int a, .int b]) (st := [.int (nI g), .ref 31]) mkX8_join qX8_workOut_144 rfl rfl rfl rfl rfl (Nat.le_of_ble_eq_true rfl) (c_join) ?_
            refine ok_step (ps := [rf_in (nI g) 50]) (L' := [some (.ref 29), some (.ref 35), some (.int (nI (1 + g))), some (.int (nI i)), some (.int (nI m))]) (st' := []) (σ' := (rf_w β 31 ((nI g).toNatClampNeg) (jn2 (nI ((m - 20000))) a b), μ)) (pc' := 148) kX8_workOut_147 rfl rfl (rf_a1 (rf_in_n (a := g) rfl (by omega)) rf_a0) ?_
            try rw [(show (nI g).toNatClampNeg = g from rf_cl_n rfl (by omega))]
            refine ok_step (ps := []) (L' := [some (.ref 29), some (.ref 35), some (.int (nI (1 + g))), some (.int ((nI i) + (nI 1))), some (.int (nI m))]) (st' := []) (σ' := (rf_w β 31 g (jn2 (nI ((m - 20000))) a b), μ)) (pc' := 151) kX8_workOut_148 rfl rfl rf_a0 ?_
            try rw [(show ((nI i) + (nI 1)) = nI (i + 1) from nI_add _ _)]
            refine ok_goto bX8_workOut_151 ?_
            refine ok_kill (x := 4) (ih (i + 1) (1 + g) (jn2 (nI (m - 20000)) a b :: S) (rf_w β 31 g (jn2 (nI (m - 20000)) a b)) (by omega) hT2.symm (by simp only [List.length_cons]; omega) (by omega) (by rw [rf_w_self]; exact k2.push hg) (fun k hk => ?_))
            rw [rf_w_row hk]; exact hb k hk
theorem c_wo29 {u : Nat} {c : List Int32} {nm : Nat → Int32} {v : Int32} (hu : u ≤ 1) (hc : 1 ≤ c.length ∧ c.length ≤ 50) (hv : ∀ e ∈ c, vc u e) (he : c.foldl (ev1 nm) [] = [v]) (hst : α 29 0 = nI c.length) (hco : ∀ i, i < c.length → α 30 i = c.getD i 0) (hnm : ∀ i, i + u < 5 → α 35 i = nm i) :
    rf_Ok (rf_T Ln xs) MX8_workOut 2 0 [some (.ref 29), some (.ref 35), none, none, none] [] (α, μ) (fun r s => r = some (.int v) ∧ ∃ α' : Nat → Nat → Int32, s = (α', μ) ∧ ∀ k, k ≠ 31 → α' k = α k) := by
  refine ok_step (ps := []) (L' := [some (.ref 29), some (.ref 35), some (.int (nI 0)), some (.int (nI 0)), none]) (st' := []) (σ' := (α, μ)) (pc' := 4) kX8_workOut_0 rfl rfl rf_a0 ?_
  exact c_wo_l29 hu hc hv he hst hco hnm c.length 0 0 [] α (by omega) rfl rfl (by omega) trivial (fun _ _ => rfl)
theorem c_wo_l32 {u : Nat} {c : List Int32} {nm : Nat → Int32} {v : Int32} (hu : u ≤ 1) (hc : 1 ≤ c.length ∧ c.length ≤ 50) (hv : ∀ e ∈ c, vc u e) (he : c.foldl (ev1 nm) [] = [v]) (hst : α 32 0 = nI c.length) (hco : ∀ i, i < c.length → α 33 i = c.getD i 0) (hnm : ∀ i, i + u < 5 → α 35 i = nm i) :
    ∀ (j i h : Nat) (S : List Int32) (β : Nat → Nat → Int32), i + j = c.length → S = (c.take i).foldl (ev1 nm) [] → S.length = h → h ≤ i → Sk (β 34) S → (∀ k, k ≠ 34 → β k = α k) →
    rf_Ok (rf_T Ln xs) MX8_workOut 2 4 [some (.ref 32), some (.ref 35), some (.int (nI h)), some (.int (nI i)), none] [] (β, μ) (fun r s => r = some (.int v) ∧ ∃ α' : Nat → Nat → Int32, s = (α', μ) ∧ ∀ k, k ≠ 34 → α' k = α k) := by
  intro j
  induction j with
  | zero =>
    intro i h S β hj hS hh hi hk hb
    have hj : i = c.length := by omega
    have h1 : S = [v] := by rw [hS, hj, List.take_length, he]
    subst h1
    refine ok_step (ps := []) (L' := [some (.ref 32), some (.ref 35), some (.int (nI h)), some (.int (nI i)), none]) (st' := [.int (β 32 0), .int (nI i)]) (σ' := (β, μ)) (pc' := 9) kX8_workOut_4 rfl rfl rf_a0 ?_
    try rw [(show β 32 0 = nI c.length from (congrFun (hb 32 (by decide)) 0).trans hst)]
    refine ok_icmp_ge bX8_workOut_9 (fun _ => ?_) (fun h9 => absurd (nI_le (by omega) (by omega)) h9)
    refine ok_step (ps := [rf_in (nI 0) 50]) (L' := [some (.ref 32), some (.ref 35), some (.int (nI h)), some (.int (nI i)), none]) (st' := [.int (β 34 ((nI 0).toNatClampNeg))]) (σ' := (β, μ)) (pc' := 160) kX8_workOut_154 rfl rfl (rf_a1 (rf_in_n (a := 0) rfl (by omega)) rf_a0) ?_
    try rw [(show (nI 0).toNatClampNeg = 0 from rf_cl_n rfl (by omega))]
    refine ok_reti eX8_workOut_160 rfl ?_
    exact ⟨by rw [show β 34 0 = v from hk.1], _, rfl, hb⟩
  | succ j ih =>
    intro i h S β hj hS hh hi hk hb
    obtain ⟨m, hm, hm2⟩ := hv (c.getD i 0) (by rw [gD (by omega)]; exact List.getElem_mem _)
    have hT := take_f (f := ev1 nm) (c := c) (i := i) (by omega)
    rw [← hS, hm] at hT
    rcases hm2 with hm2 | hm2 | hm2
    · rw [ev1_n hm2] at hT
      refine ok_step (ps := []) (L' := [some (.ref 32), some (.ref 35), some (.int (nI h)), some (.int (nI i)), none]) (st' := [.int (β 32 0), .int (nI i)]) (σ' := (β, μ)) (pc' := 9) kX8_workOut_4 rfl rfl rf_a0 ?_
      try rw [(show β 32 0 = nI c.length from (congrFun (hb 32 (by decide)) 0).trans hst)]
      refine ok_icmp_ge bX8_workOut_9 (fun h9 => absurd h9 (nI_ge (by omega) (by omega))) (fun _ => ?_)
      refine ok_step (ps := [rf_in (nI i) 50]) (L' := [some (.ref 32), some (.ref 35), some (.int (nI h)), some (.int (nI i)), some (.int (β 33 ((nI i).toNatClampNeg)))]) (st' := [.int (nI 10000), .int (β 33 ((nI i).toNatClampNeg))]) (σ' := (β, μ)) (pc' := 25) kX8_workOut_12 rfl rfl (rf_a1 (rf_in_n (a := i) rfl (by omega)) rf_a0) ?_
      try rw [(show (nI i).toNatClampNeg = i from rf_cl_n rfl (by omega))]
      try rw [(show β 33 i = nI m from (congrFun (hb 33 (by decide)) i).trans ((hco i (by omega)).trans hm))]
      refine ok_icmp_ge bX8_workOut_25 (fun h25 => absurd h25 (nI_ge (by omega) (by omega))) (fun _ => ?_)
      refine ok_step (ps := [rf_in (nI h) 50]) (L' := [some (.ref 32), some (.ref 35), some (.int ((nI h) + (nI 1))), some (.int (nI i)), some (.int (nI m))]) (st' := []) (σ' := (rf_w β 34 ((nI h).toNatClampNeg) (nI m), μ)) (pc' := 39) kX8_workOut_28 rfl rfl (rf_a1 (rf_in_n (a := h) rfl (by omega)) rf_a0) ?_
      try rw [(show (nI h).toNatClampNeg = h from rf_cl_n rfl (by omega))]
      try rw [(show ((nI h) + (nI 1)) = nI (h + 1) from nI_add _ _)]
      refine ok_goto bX8_workOut_39 ?_
      refine ok_step (ps := []) (L' := [some (.ref 32), some (.ref 35), some (.int (nI (h + 1))), some (.int ((nI i) + (nI 1))), some (.int (nI m))]) (st' := []) (σ' := (rf_w β 34 h (nI m), μ)) (pc' := 151) kX8_workOut_148 rfl rfl rf_a0 ?_
      try rw [(show ((nI i) + (nI 1)) = nI (i + 1) from nI_add _ _)]
      refine ok_goto bX8_workOut_151 ?_
      refine ok_kill (x := 4) (ih (i + 1) (h + 1) (nI m :: S) (rf_w β 34 h (nI m)) (by omega) (by rw [hT]) (by simp only [List.length_cons]; omega) (by omega) (by rw [rf_w_self]; exact hk.push hh) (fun k hk => ?_))
      rw [rf_w_row hk]; exact hb k hk
    · rw [ev1_m hm2.1 (by omega)] at hT
      refine ok_step (ps := []) (L' := [some (.ref 32), some (.ref 35), some (.int (nI h)), some (.int (nI i)), none]) (st' := [.int (β 32 0), .int (nI i)]) (σ' := (β, μ)) (pc' := 9) kX8_workOut_4 rfl rfl rf_a0 ?_
      try rw [(show β 32 0 = nI c.length from (congrFun (hb 32 (by decide)) 0).trans hst)]
      refine ok_icmp_ge bX8_workOut_9 (fun h9 => absurd h9 (nI_ge (by omega) (by omega))) (fun _ => ?_)
      refine ok_step (ps := [rf_in (nI i) 50]) (L' := [some (.ref 32), some (.ref 35), some (.int (nI h)), some (.int (nI i)), some (.int (β 33 ((nI i).toNatClampNeg)))]) (st' := [.int (nI 10000), .int (β 33 ((nI i).toNatClampNeg))]) (σ' := (β, μ)) (pc' := 25) kX8_workOut_12 rfl rfl (rf_a1 (rf_in_n (a := i) rfl (by omega)) rf_a0) ?_
      try rw [(show (nI i).toNatClampNeg = i from rf_cl_n rfl (by omega))]
      try rw [(show β 33 i = nI m from (congrFun (hb 33 (by decide)) i).trans ((hco i (by omega)).trans hm))]
      refine ok_icmp_ge bX8_workOut_25 (fun _ => ?_) (fun h25 => absurd (nI_le (by omega) (by omega)) h25)
      refine ok_step (ps := []) (L' := [some (.ref 32), some (.ref 35), some (.int (nI h)), some (.int (nI i)), some (.int (nI m))]) (st' := [.int (nI 20000), .int (nI m)]) (σ' := (β, μ)) (pc' := 47) kX8_workOut_42 rfl rfl rf_a0 ?_
      refine ok_icmp_ge bX8_workOut_47 (fun h47 => absurd h47 (nI_ge (by omega) (by omega))) (fun _ => ?_)
      refine ok_step (ps := [rf_in ((nI m) - (nI 10000)) 5, rf_in (nI h) 50]) (L' := [some (.ref 32), some (.ref 35), some (.int ((nI h) + (nI 1))), some (.int (nI i)), some (.int (nI m))]) (st' := []) (σ' := (rf_w β 34 ((nI h).toNatClampNeg) (β 35 (((nI m) - (nI 10000)).toNatClampNeg)), μ)) (pc' := 67) kX8_workOut_50 rfl rfl (rf_a1 (rf_in_n (a := ((m - 10000))) (by (try rw [(show ((nI m) - (nI 10000)) = nI ((m - 10000)) from rf_eq (rf_nsub (x := nI m) (y := nI 10000) rfl rfl (by omega)) (by omega))]); all_goals exact rfl) (by omega)) (rf_a1 (rf_in_n (a := h) rfl (by omega)) rf_a0)) ?_
      try rw [(show ((nI m) - (nI 10000)) = nI ((m - 10000)) from rf_eq (rf_nsub (x := nI m) (y := nI 10000) rfl rfl (by omega)) (by omega))]
      try rw [(show (nI ((m - 10000))).toNatClampNeg = ((m - 10000)) from rf_cl_n rfl (by omega))]
      try rw [(show β 35 (m - 10000) = nm (m - 10000) from (congrFun (hb 35 (by decide)) _).trans (hnm _ (by omega)))]
      try rw [(show (nI h).toNatClampNeg = h from rf_cl_n rfl (by omega))]
      try rw [(show ((nI h) + (nI 1)) = nI (h + 1) from nI_add _ _)]
      refine ok_goto bX8_workOut_67 ?_
      refine ok_step (ps := []) (L' := [some (.ref 32), some (.ref 35), some (.int (nI (h + 1))), some (.int ((nI i) + (nI 1))), some (.int (nI m))]) (st' := []) (σ' := (rf_w β 34 h (nm (m - 10000)), μ)) (pc' := 151) kX8_workOut_148 rfl rfl rf_a0 ?_
      try rw [(show ((nI i) + (nI 1)) = nI (i + 1) from nI_add _ _)]
      refine ok_goto bX8_workOut_151 ?_
      refine ok_kill (x := 4) (ih (i + 1) (h + 1) (nm (m - 10000) :: S) (rf_w β 34 h (nm (m - 10000))) (by omega) (by rw [hT]) (by simp only [List.length_cons]; omega) (by omega) (by rw [rf_w_self]; exact hk.push hh) (fun k hk => ?_))
      rw [rf_w_row hk]; exact hb k hk
    · by_cases hn : m = 20033
      · subst hn
        rw [ev1_not] at hT
        cases S with
        | nil =>
          obtain rfl : h = 0 := hh.symm
          refine ok_step (ps := []) (L' := [some (.ref 32), some (.ref 35), some (.int (nI 0)), some (.int (nI i)), none]) (st' := [.int (β 32 0), .int (nI i)]) (σ' := (β, μ)) (pc' := 9) kX8_workOut_4 rfl rfl rf_a0 ?_
          try rw [(show β 32 0 = nI c.length from (congrFun (hb 32 (by decide)) 0).trans hst)]
          refine ok_icmp_ge bX8_workOut_9 (fun h9 => absurd h9 (nI_ge (by omega) (by omega))) (fun _ => ?_)
          refine ok_step (ps := [rf_in (nI i) 50]) (L' := [some (.ref 32), some (.ref 35), some (.int (nI 0)), some (.int (nI i)), some (.int (β 33 ((nI i).toNatClampNeg)))]) (st' := [.int (nI 10000), .int (β 33 ((nI i).toNatClampNeg))]) (σ' := (β, μ)) (pc' := 25) kX8_workOut_12 rfl rfl (rf_a1 (rf_in_n (a := i) rfl (by omega)) rf_a0) ?_
          try rw [(show (nI i).toNatClampNeg = i from rf_cl_n rfl (by omega))]
          try rw [(show β 33 i = nI 20033 from (congrFun (hb 33 (by decide)) i).trans ((hco i (by omega)).trans hm))]
          refine ok_icmp_ge bX8_workOut_25 (fun _ => ?_) (fun h25 => absurd ((by decide)) h25)
          refine ok_step (ps := []) (L' := [some (.ref 32), some (.ref 35), some (.int (nI 0)), some (.int (nI i)), some (.int (nI 20033))]) (st' := [.int (nI 20000), .int (nI 20033)]) (σ' := (β, μ)) (pc' := 47) kX8_workOut_42 rfl rfl rf_a0 ?_
          refine ok_icmp_ge bX8_workOut_47 (fun _ => ?_) (fun h47 => absurd ((by decide)) h47)
          refine ok_step (ps := []) (L' := [some (.ref 32), some (.ref 35), some (.int (nI 0)), some (.int (nI i)), some (.int (nI 20033))]) (st' := [.int (nI 20033), .int (nI 20033)]) (σ' := (β, μ)) (pc' := 75) kX8_workOut_70 rfl rfl rf_a0 ?_
          refine ok_icmp_ne bX8_workOut_75 (fun h75 => absurd ((by decide)) h75) (fun _ => ?_)
          refine ok_step (ps := []) (L' := [some (.ref 32), some (.ref 35), some (.int (nI 0)), some (.int (nI i)), some (.int (nI 20033))]) (st' := [.int (nI 0)]) (σ' := (β, μ)) (pc' := 79) kX8_workOut_78 rfl rfl rf_a0 ?_
          refine ok_if_le bX8_workOut_79 (fun _ => ?_) (fun h79 => absurd ((by decide)) h79)
          refine ok_step (ps := []) (L' := [some (.ref 32), some (.ref 35), some (.int (nI 0)), some (.int (nI i)), some (.int (nI 20033))]) (st' := [.int (nI 1), .int (nI 0)]) (σ' := (β, μ)) (pc' := 111) kX8_workOut_109 rfl rfl rf_a0 ?_
          refine ok_icmp_le bX8_workOut_111 (fun _ => ?_) (fun h111 => absurd ((by decide)) h111)
          refine ok_step (ps := []) (L' := [some (.ref 32), some (.ref 35), some (.int (nI 0)), some (.int ((nI i) + (nI 1))), some (.int (nI 20033))]) (st' := []) (σ' := (β, μ)) (pc' := 151) kX8_workOut_148 rfl rfl rf_a0 ?_
          try rw [(show ((nI i) + (nI 1)) = nI (i + 1) from nI_add _ _)]
          refine ok_goto bX8_workOut_151 ?_
          refine ok_kill (x := 4) (ih (i + 1) 0 [] β (by omega) (by rw [hT]) rfl (by omega) trivial hb)
        | cons a S =>
          obtain ⟨g, rfl⟩ : ∃ g, h = 1 + g := ⟨S.length, by rw [← hh, List.length_cons, Nat.add_comm]⟩
          have hg : S.length = g := by simp only [List.length_cons] at hh; omega
          obtain ⟨k1, k2⟩ := hk
          rw [hg] at k1
          have hT2 : List.foldl (ev1 nm) [] (List.take (i + 1) c) = bI (decide (a = 0)) :: S := hT
          refine ok_step (ps := []) (L' := [some (.ref 32), some (.ref 35), some (.int (nI (1 + g))), some (.int (nI i)), none]) (st' := [.int (β 32 0), .int (nI i)]) (σ' := (β, μ)) (pc' := 9) kX8_workOut_4 rfl rfl rf_a0 ?_
          try rw [(show β 32 0 = nI c.length from (congrFun (hb 32 (by decide)) 0).trans hst)]
          refine ok_icmp_ge bX8_workOut_9 (fun h9 => absurd h9 (nI_ge (by omega) (by omega))) (fun _ => ?_)
          refine ok_step (ps := [rf_in (nI i) 50]) (L' := [some (.ref 32), some (.ref 35), some (.int (nI (1 + g))), some (.int (nI i)), some (.int (β 33 ((nI i).toNatClampNeg)))]) (st' := [.int (nI 10000), .int (β 33 ((nI i).toNatClampNeg))]) (σ' := (β, μ)) (pc' := 25) kX8_workOut_12 rfl rfl (rf_a1 (rf_in_n (a := i) rfl (by omega)) rf_a0) ?_
          try rw [(show (nI i).toNatClampNeg = i from rf_cl_n rfl (by omega))]
          try rw [(show β 33 i = nI 20033 from (congrFun (hb 33 (by decide)) i).trans ((hco i (by omega)).trans hm))]
          refine ok_icmp_ge bX8_workOut_25 (fun _ => ?_) (fun h25 => absurd ((by decide)) h25)
          refine ok_step (ps := []) (L' := [some (.ref 32), some (.ref 35), some (.int (nI (1 + g))), some (.int (nI i)), some (.int (nI 20033))]) (st' := [.int (nI 20000), .int (nI 20033)]) (σ' := (β, μ)) (pc' := 47) kX8_workOut_42 rfl rfl rf_a0 ?_
          refine ok_icmp_ge bX8_workOut_47 (fun _ => ?_) (fun h47 => absurd ((by decide)) h47)
          refine ok_step (ps := []) (L' := [some (.ref 32), some (.ref 35), some (.int (nI (1 + g))), some (.int (nI i)), some (.int (nI 20033))]) (st' := [.int (nI 20033), .int (nI 20033)]) (σ' := (β, μ)) (pc' := 75) kX8_workOut_70 rfl rfl rf_a0 ?_
          refine ok_icmp_ne bX8_workOut_75 (fun h75 => absurd ((by decide)) h75) (fun _ => ?_)
          refine ok_step (ps := []) (L' := [some (.ref 32), some (.ref 35), some (.int (nI (1 + g))), some (.int (nI i)), some (.int (nI 20033))]) (st' := [.int (nI (1 + g))]) (σ' := (β, μ)) (pc' := 79) kX8_workOut_78 rfl rfl rf_a0 ?_
          refine ok_if_le bX8_workOut_79 (fun h79 => absurd h79 (show ¬ nI (1 + g) ≤ nI 0 from nI_ge (by omega) (by omega))) (fun _ => ?_)
          refine ok_step (ps := [rf_in ((nI (1 + g)) - (nI 1)) 50]) (L' := [some (.ref 32), some (.ref 35), some (.int (nI (1 + g))), some (.int (nI i)), some (.int (nI 20033))]) (st' := [.int (β 34 (((nI (1 + g)) - (nI 1)).toNatClampNeg)), .int ((nI (1 + g)) - (nI 1)), .ref 34]) (σ' := (β, μ)) (pc' := 97) kX8_workOut_82 rfl rfl (rf_a1 (rf_in_n (a := g) (by (try rw [(show ((nI (1 + g)) - (nI 1)) = nI g from rf_eq (rf_nsub (x := nI (1 + g)) (y := nI 1) rfl rfl (by omega)) (by omega))]); (try rw [(show ((nI (1 + g)) - (nI 1)) = nI g from rf_eq (rf_nsub (x := nI (1 + g)) (y := nI 1) rfl rfl (by omega)) (by omega))]); all_goals exact rfl) (by omega)) rf_a0) ?_
          try rw [(show ((nI (1 + g)) - (nI 1)) = nI g from rf_eq (rf_nsub (x := nI (1 + g)) (y := nI 1) rfl rfl (by omega)) (by omega))]
          try rw [(show (nI g).toNatClampNeg = g from rf_cl_n rfl (by omega))]
          try rw [(show β 34 g = a from k1)]
          refine ok_if_ne bX8_workOut_97 (fun h97 => ?_) (fun h97 => ?_)
          · refine ok_step (ps := []) (L' := [some (.ref 32), some (.ref 35), some (.int (nI (1 + g))), some (.int (nI i)), some (.int (nI 20033))]) (st' := [.int (nI 0), .int (nI g), .ref 34]) (σ' := (β, μ)) (pc' := 105) kX8_workOut_104 rfl rfl rf_a0 ?_
            refine ok_step (ps := [rf_in (nI g) 50]) (L' := [some (.ref 32), some (.ref 35), some (.int (nI (1 + g))), some (.int (nI i)), some (.int (nI 20033))]) (st' := []) (σ' := (rf_w β 34 ((nI g).toNatClampNeg) (nI 0), μ)) (pc' := 106) kX8_workOut_105 rfl rfl (rf_a1 (rf_in_n (a := g) rfl (by omega)) rf_a0) ?_
            try rw [(show (nI g).toNatClampNeg = g from rf_cl_n rfl (by omega))]
            refine ok_goto bX8_workOut_106 ?_
            refine ok_step (ps := []) (L' := [some (.ref 32), some (.ref 35), some (.int (nI (1 + g))), some (.int ((nI i) + (nI 1))), some (.int (nI 20033))]) (st' := []) (σ' := (rf_w β 34 g (nI 0), μ)) (pc' := 151) kX8_workOut_148 rfl rfl rf_a0 ?_
            try rw [(show ((nI i) + (nI 1)) = nI (i + 1) from nI_add _ _)]
            refine ok_goto bX8_workOut_151 ?_
            have e0 : nI 0 = bI (decide (a = 0)) := by exact (bI_f (by simp [h97])).symm
            rw [e0]
            refine ok_kill (x := 4) (ih (i + 1) (1 + g) (bI (decide (a = 0)) :: S) (rf_w β 34 g (bI (decide (a = 0)))) (by omega) hT2.symm (by simp only [List.length_cons]; omega) (by omega) (by rw [rf_w_self]; exact k2.push hg) (fun k hk => ?_))
            rw [rf_w_row hk]; exact hb k hk
          · refine ok_step (ps := []) (L' := [some (.ref 32), some (.ref 35), some (.int (nI (1 + g))), some (.int (nI i)), some (.int (nI 20033))]) (st' := [.int (nI 1), .int (nI g), .ref 34]) (σ' := (β, μ)) (pc' := 101) kX8_workOut_100 rfl rfl rf_a0 ?_
            refine ok_goto bX8_workOut_101 ?_
            refine ok_step (ps := [rf_in (nI g) 50]) (L' := [some (.ref 32), some (.ref 35), some (.int (nI (1 + g))), some (.int (nI i)), some (.int (nI 20033))]) (st' := []) (σ' := (rf_w β 34 ((nI g).toNatClampNeg) (nI 1), μ)) (pc' := 106) kX8_workOut_105 rfl rfl (rf_a1 (rf_in_n (a := g) rfl (by omega)) rf_a0) ?_
            try rw [(show (nI g).toNatClampNeg = g from rf_cl_n rfl (by omega))]
            refine ok_goto bX8_workOut_106 ?_
            refine ok_step (ps := []) (L' := [some (.ref 32), some (.ref 35), some (.int (nI (1 + g))), some (.int ((nI i) + (nI 1))), some (.int (nI 20033))]) (st' := []) (σ' := (rf_w β 34 g (nI 1), μ)) (pc' := 151) kX8_workOut_148 rfl rfl rf_a0 ?_
            try rw [(show ((nI i) + (nI 1)) = nI (i + 1) from nI_add _ _)]
            refine ok_goto bX8_workOut_151 ?_
            have e0 : nI 1 = bI (decide (a = 0)) := by exact (bI_t (by simp [h97])).symm
            rw [e0]
            refine ok_kill (x := 4) (ih (i + 1) (1 + g) (bI (decide (a = 0)) :: S) (rf_w β 34 g (bI (decide (a = 0)))) (by omega) hT2.symm (by simp only [List.length_cons]; omega) (by omega) (by rw [rf_w_self]; exact k2.push hg) (fun k hk => ?_))
            rw [rf_w_row hk]; exact hb k hk
      · rw [ev1_s hm2.1 hm2.2 hn] at hT
        cases S with
        | nil =>
          obtain rfl : h = 0 := hh.symm
          refine ok_step (ps := []) (L' := [some (.ref 32), some (.ref 35), some (.int (nI 0)), some (.int (nI i)), none]) (st' := [.int (β 32 0), .int (nI i)]) (σ' := (β, μ)) (pc' := 9) kX8_workOut_4 rfl rfl rf_a0 ?_
          try rw [(show β 32 0 = nI c.length from (congrFun (hb 32 (by decide)) 0).trans hst)]
          refine ok_icmp_ge bX8_workOut_9 (fun h9 => absurd h9 (nI_ge (by omega) (by omega))) (fun _ => ?_)
          refine ok_step (ps := [rf_in (nI i) 50]) (L' := [some (.ref 32), some (.ref 35), some (.int (nI 0)), some (.int (nI i)), some (.int (β 33 ((nI i).toNatClampNeg)))]) (st' := [.int (nI 10000), .int (β 33 ((nI i).toNatClampNeg))]) (σ' := (β, μ)) (pc' := 25) kX8_workOut_12 rfl rfl (rf_a1 (rf_in_n (a := i) rfl (by omega)) rf_a0) ?_
          try rw [(show (nI i).toNatClampNeg = i from rf_cl_n rfl (by omega))]
          try rw [(show β 33 i = nI m from (congrFun (hb 33 (by decide)) i).trans ((hco i (by omega)).trans hm))]
          refine ok_icmp_ge bX8_workOut_25 (fun _ => ?_) (fun h25 => absurd (nI_le (by omega) (by omega)) h25)
          refine ok_step (ps := []) (L' := [some (.ref 32), some (.ref 35), some (.int (nI 0)), some (.int (nI i)), some (.int (nI m))]) (st' := [.int (nI 20000), .int (nI m)]) (σ' := (β, μ)) (pc' := 47) kX8_workOut_42 rfl rfl rf_a0 ?_
          refine ok_icmp_ge bX8_workOut_47 (fun _ => ?_) (fun h47 => absurd (nI_le (by omega) (by omega)) h47)
          refine ok_step (ps := []) (L' := [some (.ref 32), some (.ref 35), some (.int (nI 0)), some (.int (nI i)), some (.int (nI m))]) (st' := [.int (nI 20033), .int (nI m)]) (σ' := (β, μ)) (pc' := 75) kX8_workOut_70 rfl rfl rf_a0 ?_
          refine ok_icmp_ne bX8_workOut_75 (fun _ => ?_) (fun h75 => absurd h75 ((fun e => hn (nI_inj e (by omega) (by decide)))))
          refine ok_step (ps := []) (L' := [some (.ref 32), some (.ref 35), some (.int (nI 0)), some (.int (nI i)), some (.int (nI m))]) (st' := [.int (nI 1), .int (nI 0)]) (σ' := (β, μ)) (pc' := 111) kX8_workOut_109 rfl rfl rf_a0 ?_
          refine ok_icmp_le bX8_workOut_111 (fun _ => ?_) (fun h111 => absurd ((by decide)) h111)
          refine ok_step (ps := []) (L' := [some (.ref 32), some (.ref 35), some (.int (nI 0)), some (.int ((nI i) + (nI 1))), some (.int (nI m))]) (st' := []) (σ' := (β, μ)) (pc' := 151) kX8_workOut_148 rfl rfl rf_a0 ?_
          try rw [(show ((nI i) + (nI 1)) = nI (i + 1) from nI_add _ _)]
          refine ok_goto bX8_workOut_151 ?_
          refine ok_kill (x := 4) (ih (i + 1) 0 [] β (by omega) (by rw [hT]) rfl (by omega) trivial hb)
        | cons b S =>
          cases S with
          | nil =>
            obtain rfl : h = 1 := hh.symm
            refine ok_step (ps := []) (L' := [some (.ref 32), some (.ref 35), some (.int (nI 1)), some (.int (nI i)), none]) (st' := [.int (β 32 0), .int (nI i)]) (σ' := (β, μ)) (pc' := 9) kX8_workOut_4 rfl rfl rf_a0 ?_
            try rw [(show β 32 0 = nI c.length from (congrFun (hb 32 (by decide)) 0).trans hst)]
            refine ok_icmp_ge bX8_workOut_9 (fun h9 => absurd h9 (nI_ge (by omega) (by omega))) (fun _ => ?_)
            refine ok_step (ps := [rf_in (nI i) 50]) (L' := [some (.ref 32), some (.ref 35), some (.int (nI 1)), some (.int (nI i)), some (.int (β 33 ((nI i).toNatClampNeg)))]) (st' := [.int (nI 10000), .int (β 33 ((nI i).toNatClampNeg))]) (σ' := (β, μ)) (pc' := 25) kX8_workOut_12 rfl rfl (rf_a1 (rf_in_n (a := i) rfl (by omega)) rf_a0) ?_
            try rw [(show (nI i).toNatClampNeg = i from rf_cl_n rfl (by omega))]
            try rw [(show β 33 i = nI m from (congrFun (hb 33 (by decide)) i).trans ((hco i (by omega)).trans hm))]
            refine ok_icmp_ge bX8_workOut_25 (fun _ => ?_) (fun h25 => absurd (nI_le (by omega) (by omega)) h25)
            refine ok_step (ps := []) (L' := [some (.ref 32), some (.ref 35), some (.int (nI 1)), some (.int (nI i)), some (.int (nI m))]) (st' := [.int (nI 20000), .int (nI m)]) (σ' := (β, μ)) (pc' := 47) kX8_workOut_42 rfl rfl rf_a0 ?_
            refine ok_icmp_ge bX8_workOut_47 (fun _ => ?_) (fun h47 => absurd (nI_le (by omega) (by omega)) h47)
            refine ok_step (ps := []) (L' := [some (.ref 32), some (.ref 35), some (.int (nI 1)), some (.int (nI i)), some (.int (nI m))]) (st' := [.int (nI 20033), .int (nI m)]) (σ' := (β, μ)) (pc' := 75) kX8_workOut_70 rfl rfl rf_a0 ?_
            refine ok_icmp_ne bX8_workOut_75 (fun _ => ?_) (fun h75 => absurd h75 ((fun e => hn (nI_inj e (by omega) (by decide)))))
            refine ok_step (ps := []) (L' := [some (.ref 32), some (.ref 35), some (.int (nI 1)), some (.int (nI i)), some (.int (nI m))]) (st' := [.int (nI 1), .int (nI 1)]) (σ' := (β, μ)) (pc' := 111) kX8_workOut_109 rfl rfl rf_a0 ?_
            refine ok_icmp_le bX8_workOut_111 (fun _ => ?_) (fun h111 => absurd ((by decide)) h111)
            refine ok_step (ps := []) (L' := [some (.ref 32), some (.ref 35), some (.int (nI 1)), some (.int ((nI i) + (nI 1))), some (.int (nI m))]) (st' := []) (σ' := (β, μ)) (pc' := 151) kX8_workOut_148 rfl rfl rf_a0 ?_
            try rw [(show ((nI i) + (nI 1)) = nI (i + 1) from nI_add _ _)]
            refine ok_goto bX8_workOut_151 ?_
            refine ok_kill (x := 4) (ih (i + 1) 1 [b] β (by omega) (by rw [hT]) rfl (by omega) hk hb)
          | cons a S =>
            obtain ⟨g, rfl⟩ : ∃ g, h = 2 + g := ⟨S.length, by rw [← hh, List.length_cons, List.length_cons]; omega⟩
            have hg : S.length = g := by simp only [List.length_cons] at hh; omega
            obtain ⟨k0, k1, k2⟩ := hk
            rw [hg] at k1
            rw [List.length_cons, hg] at k0
            have hT2 : List.foldl (ev1 nm) [] (List.take (i + 1) c) = jn2 (nI (m - 20000)) a b :: S := hT
            refine ok_step (ps := []) (L' := [some (.ref 32), some (.ref 35), some (.int (nI (2 + g))), some (.int (nI i)), none]) (st' := [.int (β 32 0), .int (nI i)]) (σ' := (β, μ)) (pc' := 9) kX8_workOut_4 rfl rfl rf_a0 ?_
            try rw [(show β 32 0 = nI c.length from (congrFun (hb 32 (by decide)) 0).trans hst)]
            refine ok_icmp_ge bX8_workOut_9 (fun h9 => absurd h9 (nI_ge (by omega) (by omega))) (fun _ => ?_)
            refine ok_step (ps := [rf_in (nI i) 50]) (L' := [some (.ref 32), some (.ref 35), some (.int (nI (2 + g))), some (.int (nI i)), some (.int (β 33 ((nI i).toNatClampNeg)))]) (st' := [.int (nI 10000), .int (β 33 ((nI i).toNatClampNeg))]) (σ' := (β, μ)) (pc' := 25) kX8_workOut_12 rfl rfl (rf_a1 (rf_in_n (a := i) rfl (by omega)) rf_a0) ?_
            try rw [(show (nI i).toNatClampNeg = i from rf_cl_n rfl (by omega))]
            try rw [(show β 33 i = nI m from (congrFun (hb 33 (by decide)) i).trans ((hco i (by omega)).trans hm))]
            refine ok_icmp_ge bX8_workOut_25 (fun _ => ?_) (fun h25 => absurd (nI_le (by omega) (by omega)) h25)
            refine ok_step (ps := []) (L' := [some (.ref 32), some (.ref 35), some (.int (nI (2 + g))), some (.int (nI i)), some (.int (nI m))]) (st' := [.int (nI 20000), .int (nI m)]) (σ' := (β, μ)) (pc' := 47) kX8_workOut_42 rfl rfl rf_a0 ?_
            refine ok_icmp_ge bX8_workOut_47 (fun _ => ?_) (fun h47 => absurd (nI_le (by omega) (by omega)) h47)
            refine ok_step (ps := []) (L' := [some (.ref 32), some (.ref 35), some (.int (nI (2 + g))), some (.int (nI i)), some (.int (nI m))]) (st' := [.int (nI 20033), .int (nI m)]) (σ' := (β, μ)) (pc' := 75) kX8_workOut_70 rfl rfl rf_a0 ?_
            refine ok_icmp_ne bX8_workOut_75 (fun _ => ?_) (fun h75 => absurd h75 ((fun e => hn (nI_inj e (by omega) (by decide)))))
            refine ok_step (ps := []) (L' := [some (.ref 32), some (.ref 35), some (.int (nI (2 + g))), some (.int (nI i)), some (.int (nI m))]) (st' := [.int (nI 1), .int (nI (2 + g))]) (σ' := (β, μ)) (pc' := 111) kX8_workOut_109 rfl rfl rf_a0 ?_
            refine ok_icmp_le bX8_workOut_111 (fun h111 => absurd h111 (nI_ge (by omega) (by omega))) (fun _ => ?_)
            refine ok_step (ps := [rf_in (((nI (2 + g)) + (-1)) - (nI 1)) 50, rf_in ((nI (2 + g)) + (-1)) 50]) (L' := [some (.ref 32), some (.ref 35), some (.int ((nI (2 + g)) + (-1))), some (.int (nI i)), some (.int (nI m))]) (st' := [.int (β 34 (((nI (2 + g)) + (-1)).toNatClampNeg)), .int (β 34 ((((nI (2 + g)) + (-1)) - (nI 1)).toNatClampNeg)), .int ((nI m) - (nI 20000)), .int (((nI (2 + g)) + (-1)) - (nI 1)), .ref 34]) (σ' := (β, μ)) (pc' := 144) kX8_workOut_114 rfl rfl (rf_a1 (rf_in_n (a := g) (by (try rw [(show ((nI (2 + g)) + (-1)) = nI (1 + g) from rf_eq (rf_ndec (x := nI (2 + g)) rfl (by omega)) (by omega))]); (try rw [(show ((nI (1 + g)) - (nI 1)) = nI g from rf_eq (rf_nsub (x := nI (1 + g)) (y := nI 1) rfl rfl (by omega)) (by omega))]); (try rw [(show ((nI m) - (nI 20000)) = nI ((m - 20000)) from rf_eq (rf_nsub (x := nI m) (y := nI 20000) rfl rfl (by omega)) (by omega))]); (try rw [(show ((nI (1 + g)) - (nI 1)) = nI g from rf_eq (rf_nsub (x := nI (1 + g)) (y := nI 1) rfl rfl (by omega)) (by omega))]); all_goals exact rfl) (by omega)) (rf_a1 (rf_in_n (a := (1 + g)) (by (try rw [(show ((nI (2 + g)) + (-1)) = nI (1 + g) from rf_eq (rf_ndec (x := nI (2 + g)) rfl (by omega)) (by omega))]); (try rw [(show ((nI (1 + g)) - (nI 1)) = nI g from rf_eq (rf_nsub (x := nI (1 + g)) (y := nI 1) rfl rfl (by omega)) (by omega))]); (try rw [(show ((nI m) - (nI 20000)) = nI ((m - 20000)) from rf_eq (rf_nsub (x := nI m) (y := nI 20000) rfl rfl (by omega)) (by omega))]); (try rw [(show ((nI (1 + g)) - (nI 1)) = nI g from rf_eq (rf_nsub (x := nI (1 + g)) (y := nI 1) rfl rfl (by omega)) (by omega))]); (try rw [(show (nI g).toNatClampNeg = g from rf_cl_n rfl (by omega))]); (try rw [(show β 34 g = a from k1)]); all_goals exact rfl) (by omega)) rf_a0)) ?_
            try rw [(show ((nI (2 + g)) + (-1)) = nI (1 + g) from rf_eq (rf_ndec (x := nI (2 + g)) rfl (by omega)) (by omega))]
            try rw [(show ((nI (1 + g)) - (nI 1)) = nI g from rf_eq (rf_nsub (x := nI (1 + g)) (y := nI 1) rfl rfl (by omega)) (by omega))]
            try rw [(show ((nI m) - (nI 20000)) = nI ((m - 20000)) from rf_eq (rf_nsub (x := nI m) (y := nI 20000) rfl rfl (by omega)) (by omega))]
            try rw [(show ((nI (1 + g)) - (nI 1)) = nI g from rf_eq (rf_nsub (x := nI (1 + g)) (y := nI 1) rfl rfl (by omega)) (by omega))]
            try rw [(show (nI g).toNatClampNeg = g from rf_cl_n rfl (by omega))]
            try rw [(show β 34 g = a from k1)]
            try rw [(show (nI (1 + g)).toNatClampNeg = (1 + g) from rf_cl_n rfl (by omega))]
            try rw [(show β 34 (1 + g) = b from (congrArg (β 34) (Nat.add_comm 1 g)).trans k0)]
            refine ok_S (As := [.int (nI ((m - 20000))), .int a, .int b]) (st := [.int (nI g), .ref 34]) mkX8_join qX8_workOut_144 rfl rfl rfl rfl rfl (Nat.le_of_ble_eq_true rfl) (c_join) ?_
            refine ok_step (ps := [rf_in (nI g) 50]) (L' := [some (.ref 32), some (.ref 35), some (.int (nI (1 + g))), some (.int (nI i)), some (.int (nI m))]) (st' := []) (σ' := (rf_w β 34 ((nI g).toNatClampNeg) (jn2 (nI ((m - 20000))) a b), μ)) (pc' := 148) kX8_workOut_147 rfl rfl (rf_a1 (rf_in_n (a := g) rfl (by omega)) rf_a0) ?_
            try rw [(show (nI g).toNatClampNeg = g from rf_cl_n rfl (by omega))]
            refine ok_step (ps := []) (L' := [some (.ref 32), some (.ref 35), some (.int (nI (1 + g))), some (.int ((nI i) + (nI 1))), some (.int (nI m))]) (st' := []) (σ' := (rf_w β 34 g (jn2 (nI ((m - 20000))) a b), μ)) (pc' := 151) kX8_workOut_148 rfl rfl rf_a0 ?_
            try rw [(show ((nI i) + (nI 1)) = nI (i + 1) from nI_add _ _)]
            refine ok_goto bX8_workOut_151 ?_
            refine ok_kill (x := 4) (ih (i + 1) (1 + g) (jn2 (nI (m - 20000)) a b :: S) (rf_w β 34 g (jn2 (nI (m - 20000)) a b)) (by omega) hT2.symm (by simp only [List.length_cons]; omega) (by omega) (by rw [rf_w_self]; exact k2.push hg) (fun k hk => ?_))
            rw [rf_w_row hk]; exact hb k hk
theorem c_wo32 {u : Nat} {c : List Int32} {nm : Nat → Int32} {v : Int32} (hu : u ≤ 1) (hc : 1 ≤ c.length ∧ c.length ≤ 50) (hv : ∀ e ∈ c, vc u e) (he : c.foldl (ev1 nm) [] = [v]) (hst : α 32 0 = nI c.length) (hco : ∀ i, i < c.length → α 33 i = c.getD i 0) (hnm : ∀ i, i + u < 5 → α 35 i = nm i) :
    rf_Ok (rf_T Ln xs) MX8_workOut 2 0 [some (.ref 32), some (.ref 35), none, none, none] [] (α, μ) (fun r s => r = some (.int v) ∧ ∃ α' : Nat → Nat → Int32, s = (α', μ) ∧ ∀ k, k ≠ 34 → α' k = α k) := by
  refine ok_step (ps := []) (L' := [some (.ref 32), some (.ref 35), some (.int (nI 0)), some (.int (nI 0)), none]) (st' := []) (σ' := (α, μ)) (pc' := 4) kX8_workOut_0 rfl rfl rf_a0 ?_
  exact c_wo_l32 hu hc hv he hst hco hnm c.length 0 0 [] α (by omega) rfl rfl (by omega) trivial (fun _ _ => rfl)
end H41
