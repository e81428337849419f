theorem ok_lkk {T : rf_Tb} {M : rf_M} {d pc : Nat} {L : List (Option Value)} {st : List Value} {σ : rf_Mem} {Q : Option Value → rf_Mem → Prop} {x : Int32} {dflt : Int} {prs : List (Int × Int)} {dt t : Nat} {q : Int × Int} (hck : rf_ckl M pc dflt prs dt = true) (hq : q ∈ prs) (hx : q.1 = x.toInt) (ht : (pc : Int) + q.2 = (t : Int)) (hnd : ∀ q ∈ prs, ∀ q2 ∈ prs, q.1 = q2.1 → q = q2) (k : rf_Ok T M d t L st σ Q) : rf_Ok T M d pc L (.int x :: st) σ Q :=
  ok_lookup hck (fun h => absurd hx (h q hq)) (fun q2 t2 h2 hx2 ht2 => by
    have e : q2 = q := hnd q2 h2 q hq (hx2.trans hx.symm)
    subst e
    have : t2 = t := by omega
    subst this
    exact k) hnd
theorem ok_lkd {T : rf_Tb} {M : rf_M} {d pc : Nat} {L : List (Option Value)} {st : List Value} {σ : rf_Mem} {Q : Option Value → rf_Mem → Prop} {x : Int32} {dflt : Int} {prs : List (Int × Int)} {dt : Nat} (hck : rf_ckl M pc dflt prs dt = true) (hx : (∀ q ∈ prs, ¬ q.1 = x.toInt) ∧ ∀ q ∈ prs, ∀ q2 ∈ prs, q.1 = q2.1 → q = q2) (k : rf_Ok T M d dt L st σ Q) : rf_Ok T M d pc L (.int x :: st) σ Q :=
  ok_lookup hck (fun _ => k) (fun q2 _ h2 hx2 _ => absurd hx2 (hx.1 q2 h2)) hx.2
/-- bodies behind the first b of a trace (row k, its number at o, j) -/
def apt (k o j : Nat) (α : Nat → Nat → Int32) (b : Nat) : List Nat → Nat → Nat → Int32
  | [] => α
  | x :: L => apt k o j (rf_w (rf_w α k b (nI x)) o j (nI (1 + b))) (1 + b) L
section APT
variable {k o j : Nat} {α : Nat → Nat → Int32}
theorem apt_app : ∀ {L : List Nat} {b : Nat} {L2 : List Nat} {α : Nat → Nat → Int32} {c : Nat}, c = L.length + b → apt k o j (apt k o j α b L) c L2 = apt k o j α b (L ++ L2)
  | [], b, L2, α, c, h => by
    rw [show c = b by simpa using h]
    rfl
  | x :: L, b, L2, α, c, h => by
    show apt k o j (apt k o j _ (1 + b) L) c L2 = apt k o j _ (1 + b) (L ++ L2)
    exact apt_app (by simp only [List.length_cons] at h; omega)
theorem apt_w {L : List Nat} {b i n x : Nat} (hi : i = L.length + b) (hn : n = 1 + i) : rf_w (rf_w (apt k o j α b L) k i (nI x)) o j (nI n) = apt k o j α b (L ++ [x]) := by
  subst hn
  rw [← apt_app hi]
  rfl
theorem apt_0 (hk : o ≠ k) : ∀ {L : List Nat} {b : Nat} {α : Nat → Nat → Int32}, α o j = nI b → apt k o j α b L o j = nI (L.length + b)
  | [], b, α, h => by rw [show ([] : List Nat).length + b = b by simp]; exact h
  | x :: L, b, α, h => by
    show apt k o j _ (1 + b) L o j = _
    rw [apt_0 hk (by rw [rf_w_at, if_pos ⟨rfl, rfl⟩])]
    exact congrArg nI (by simp only [List.length_cons]; omega)
theorem apt_f : ∀ {L : List Nat} {b : Nat} {α : Nat → Nat → Int32} {k2 i : Nat}, k2 ≠ k → ¬ (k2 = o ∧ i = j) → apt k o j α b L k2 i = α k2 i
  | [], b, α, k2, i, h1, h2 => rfl
  | x :: L, b, α, k2, i, h1, h2 => by
    show apt k o j _ (1 + b) L k2 i = _
    rw [apt_f h1 h2, rf_w_at, if_neg h2, rf_w_at, if_neg (fun e => h1 e.1)]
end APT
/-- J behind writes of voices and trace alone -/
theorem J.vo {α α' μ μ' : Nat → Nat → Int32} (h : J α μ) (ha : ∀ k, k ≠ 83 → k ≠ 84 → α' k = α k) (hm : ∀ k, k ≠ 94 → k ≠ 103 → μ' k = μ k) (h2 : ∀ i, i ≠ 18 ∧ i ≠ 19 → μ' 94 i = μ 94 i) (hV : Vj α' μ') : J α' μ' := by
  obtain ⟨⟨⟨r1, t1, t2⟩, q2, h3, h4, -, h6⟩, hI⟩ := h
  refine ⟨⟨⟨?_, ?_, ?_⟩, fun h0 => ?_, ?_, fun k hk => ?_, hV, fun s hs => ?_⟩, ?_⟩
  · rw [hm 95 (by decide) (by decide)]; exact r1.same (fun c hc i => by rw [ha _ (by omega) (by omega)]) (fun _ _ => rfl)
  · rw [hm 95 (by decide) (by decide), ha 29 (by decide) (by decide), ha 30 (by decide) (by decide)]; exact t1
  · rw [hm 95 (by decide) (by decide), ha 32 (by decide) (by decide), ha 33 (by decide) (by decide)]; exact t2
  · rw [h2 2 (by decide)] at h0
    obtain ⟨w1, w2, w3, w4⟩ := q2 h0
    rw [hm 96 (by decide) (by decide)]
    refine ⟨w1.same (fun c hc i => by rw [ha _ (by omega) (by omega)]) (fun _ _ => rfl), w2, ?_, ?_⟩
    · rw [ha (38 + 28) (by decide) (by decide), ha (38 + 29) (by decide) (by decide)]; exact w3
    · rw [ha (38 + 31) (by decide) (by decide), ha (38 + 32) (by decide) (by decide)]; exact w4
  · rw [ha 0 (by decide) (by decide), h2 2 (by decide)]; exact h3
  · rw [ha 93 (by decide) (by decide), hm 97 (by decide) (by decide)]; exact h4 k hk
  · obtain ⟨s1, s2, s3, s4, s5⟩ := h6 s hs
    rw [ha 86 (by decide) (by decide), ha 87 (by decide) (by decide), hm 104 (by decide) (by decide), hm 105 (by decide) (by decide), hm 106 (by decide) (by decide), ha (89 + s) (by omega) (by omega)]
    exact ⟨s1, s2, s3, s4, s5⟩
  · rw [hm 95 (by decide) (by decide)]; exact hI
/-- both traces -/
theorem J.apt {α μ : Nat → Nat → Int32} : ∀ {L : List Nat} {b : Nat} {α μ : Nat → Nat → Int32}, J α μ → α 83 0 = nI b → b + L.length ≤ 40 → J (apt 84 83 0 α b L) (apt 103 94 18 μ b L)
  | [], b, α, μ, h, _, _ => h
  | x :: L, b, α, μ, h, hb, hl => by
    simp only [List.length_cons] at hl
    refine J.apt (b := 1 + b) (α := rf_w (rf_w α 84 b (nI x)) 83 0 (nI (1 + b))) (μ := rf_w (rf_w μ 103 b (nI x)) 94 18 (nI (1 + b))) ?_ (by rw [rf_w_at, if_pos ⟨rfl, rfl⟩]) (by omega)
    refine h.vo (fun k hk1 hk2 => by rw [rf_w_row hk1, rf_w_row hk2]) (fun k hk1 hk2 => by rw [rf_w_row hk1, rf_w_row hk2]) (fun i hi => by rw [rf_w_at, if_neg (by omega), rf_w_row (by decide)]) ⟨?_, ⟨1 + b, by omega, by rw [rf_w_at, if_pos ⟨rfl, rfl⟩]⟩, fun i hi => ?_⟩
    · rw [rf_w_at, if_pos ⟨rfl, rfl⟩, rf_w_at, if_pos ⟨rfl, rfl⟩]
    · rw [rf_w_row (k := 83) (by decide), rf_w_row (k := 94) (by decide), rf_w_at, rf_w_at]
      by_cases e : i = b
      · rw [if_pos ⟨rfl, e⟩, if_pos ⟨rfl, e⟩]
      · rw [if_neg (fun h => e h.2), if_neg (fun h => e h.2)]
        exact h.1.2.2.2.2.1.2.2 i hi
section H59
variable {Ln : Nat} {xs : Nat → Int32} {α μ ν δ γ : Nat → Nat → Int32} {d : Nat → Int32} {nu mn : Int32}
theorem cv0_0_0 {x : Int32} {b dep : Nat} (hk : α 83 2 = nI 0) (hn : α 83 3 = nu) (hm : α 83 4 = mn) (hb : α 83 0 = nI b) (hl : b + 1 ≤ 40) (hd : dep + 1 ≤ 30) : rf_At (rf_T Ln xs) MX9_speak 2 0 ([some (.ref 83), some (.int (nI 0)), some (.int (nI 0)), some (.int x), some (.int (nI dep)), none, none], [], 108, (α, δ)) (some (.int (x + nu))) 108 (apt 84 83 0 α b [10], δ) := by
  refine rf_pa ?_
  refine ok_step (ps := []) (L' := [some (.ref 83), some (.int (nI 0)), some (.int (nI 0)), some (.int x), some (.int (nI dep)), some (.int (nI 0)), some (.int (nI 0))]) (st' := []) (σ' := (α, δ)) (pc' := 6) kX9_speak_0 rfl rfl rf_a0 ?_
  refine ok_step (ps := []) (L' := [some (.ref 83), some (.int (nI 0)), some (.int (nI 0)), some (.int x), some (.int (nI dep)), some (.int (nI 0)), some (.int (nI 0))]) (st' := [.int (nI 8), .int (nI 0)]) (σ' := (α, δ)) (pc' := 10) kX9_speak_6 rfl rfl rf_a0 ?_
  refine ok_icmp_ge bX9_speak_10 (fun h10 => absurd h10 ((by decide))) (fun _ => ?_)
  refine ok_step (ps := [rf_in (((nI 0) * (nI 4)) + (nI 0)) 32]) (L' := [some (.ref 83), some (.int (nI 0)), some (.int (nI 0)), some (.int x), some (.int (nI dep)), some (.int (nI 0)), some (.int (nI 0))]) (st' := [.int (tBodies ((((nI 0) * (nI 4)) + (nI 0)).toNatClampNeg))]) (σ' := (α, δ)) (pc' := 23) kX9_speak_13 rfl rfl (rf_a1 (rf_in_n (a := 0) (by (try rw [(show ((nI 0) * (nI 4)) = nI 0 from rf_eq (rf_nmul (x := nI 0) (y := nI 4) rfl rfl) (by omega))]); (try rw [(show ((nI 0) + (nI 0)) = nI 0 from rf_eq (rf_nadd (x := nI 0) (y := nI 0) rfl rfl) (by omega))]); all_goals exact rfl) (by omega)) rf_a0) ?_
  try rw [(show ((nI 0) * (nI 4)) = nI 0 from rf_eq (rf_nmul (x := nI 0) (y := nI 4) rfl rfl) (by omega))]
  try rw [(show ((nI 0) + (nI 0)) = nI 0 from rf_eq (rf_nadd (x := nI 0) (y := nI 0) rfl rfl) (by omega))]
  try rw [(show (nI 0).toNatClampNeg = 0 from rf_cl_n rfl (by omega))]
  try rw [(show tBodies 0 = nI 10 from rfl)]
  refine ok_if_ne bX9_speak_23 (fun _ => ?_) (fun h23 => absurd h23 ((by decide)))
  refine ok_step (ps := []) (L' := [some (.ref 83), some (.int (nI 0)), some (.int (nI 0)), some (.int x), some (.int (nI dep)), some (.int (nI 0)), some (.int (nI 0))]) (st' := [.int (nI 30), .int (nI dep)]) (σ' := (α, δ)) (pc' := 44) kX9_speak_40 rfl rfl rf_a0 ?_
  refine ok_icmp_le bX9_speak_44 (fun _ => ?_) (fun h44 => absurd (nI_le (by omega) (by omega)) h44)
  refine ok_step (ps := [rf_in (((nI 0) * (nI 4)) + (nI 0)) 32]) (L' := [some (.ref 83), some (.int (nI 0)), some (.int (nI 0)), some (.int x), some (.int (nI dep)), some (.int (nI 0)), some (.int (tBodies ((((nI 0) * (nI 4)) + (nI 0)).toNatClampNeg)))]) (st' := [.int (nI 40), .int (α 83 0)]) (σ' := (α, δ)) (pc' := 67) kX9_speak_49 rfl rfl (rf_a1 (rf_in_n (a := 0) (by (try rw [(show ((nI 0) * (nI 4)) = nI 0 from rf_eq (rf_nmul (x := nI 0) (y := nI 4) rfl rfl) (by omega))]); (try rw [(show ((nI 0) + (nI 0)) = nI 0 from rf_eq (rf_nadd (x := nI 0) (y := nI 0) rfl rfl) (by omega))]); all_goals exact rfl) (by omega)) rf_a0) ?_
  try rw [(show ((nI 0) * (nI 4)) = nI 0 from rf_eq (rf_nmul (x := nI 0) (y := nI 4) rfl rfl) (by omega))]
  try rw [(show ((nI 0) + (nI 0)) = nI 0 from rf_eq (rf_nadd (x := nI 0) (y := nI 0) rfl rfl) (by omega))]
  try rw [(show (nI 0).toNatClampNeg = 0 from rf_cl_n rfl (by omega))]
  try rw [(show tBodies 0 = nI 10 from rfl)]
  try rw [(show α 83 0 = nI b from hb)]
  refine ok_icmp_ge bX9_speak_67 (fun h67 => absurd h67 (nI_ge (by omega) (by omega))) (fun _ => ?_)
  refine ok_step (ps := [rf_in (α 83 0) 40]) (L' := [some (.ref 83), some (.int (nI 0)), some (.int (nI 0)), some (.int x), some (.int (nI dep)), some (.int (nI 0)), some (.int (nI 10))]) (st' := []) (σ' := (rf_w (rf_w α 84 ((α 83 0).toNatClampNeg) (nI 10)) 83 0 (((rf_w α 84 ((α 83 0).toNatClampNeg) (nI 10)) 83 0) + (nI 1)), δ)) (pc' := 91) kX9_speak_70 rfl rfl (rf_a1 (rf_in_n (a := b) (by (try rw [(show α 83 0 = nI b from hb)]); all_goals exact rfl) (by omega)) rf_a0) ?_
  try rw [(show α 83 0 = nI b from hb)]
  try rw [(show (nI b).toNatClampNeg = b from rf_cl_n rfl (by omega))]
  try rw [(show (rf_w α 84 b (nI 10)) 83 0 = α 83 0 from by rw [rf_w_at, if_neg (fun h => absurd h.1 (by decide))])]
  try rw [(show α 83 0 = nI b from hb)]
  try rw [(show ((nI b) + (nI 1)) = nI (1 + b) from rf_eq (rf_nadd (x := nI b) (y := nI 1) rfl rfl) (by omega))]
  rw [show rf_w (rf_w α 84 b (nI 10)) 83 0 (nI (1 + b)) = apt 84 83 0 α b [10] from apt_w (L := []) (by simp) (by omega)]
  refine ok_step (ps := [rf_in (nI 0) 8]) (L' := [some (.ref 83), some (.int (nI 0)), some (.int (nI 0)), some (.int x), some (.int (nI dep)), some (.int (nI 0)), some (.int (nI 10))]) (st' := [.int ((nI dep) + (nI 1)), .int x, .int (tAbove ((nI 0).toNatClampNeg)), .int (nI 10), .ref 83]) (σ' := (apt 84 83 0 α b [10], δ)) (pc' := 105) kX9_speak_91 rfl rfl (rf_a1 (rf_in_n (a := 0) rfl (by omega)) rf_a0) ?_
  try rw [(show (nI 0).toNatClampNeg = 0 from rf_cl_n rfl (by omega))]
  try rw [(show tAbove 0 = nI 0 from rfl)]
  try rw [(show ((nI dep) + (nI 1)) = nI (1 + dep) from rf_eq (rf_nadd (x := nI dep) (y := nI 1) rfl rfl) (by omega))]
  have hc105 : rf_At (rf_T Ln xs) MX9_runBody 1 0 ([some (.ref 83), some (.int (nI 10)), some (.int (nI 0)), some (.int x), some (.int (nI (1 + dep)))], [], 108, (apt 84 83 0 α b [10], δ)) (some (.int (x + nu))) 108 (apt 84 83 0 α b [10], δ) := by
    refine rf_pa ?_
    refine ok_step (ps := []) (L' := [some (.ref 83), some (.int (nI 10)), some (.int (nI 0)), some (.int x), some (.int (nI (1 + dep)))]) (st' := [.int (nI 10)]) (σ' := (apt 84 83 0 α b [10], δ)) (pc' := 1) kX9_runBody_0 rfl rfl rf_a0 ?_
    refine ok_lkk (q := (10, 107)) (t := 108) bX9_runBody_1 (by decide) (by decide) (by decide) (by decide) ?_
    refine ok_step (ps := []) (L' := [some (.ref 83), some (.int (nI 10)), some (.int (nI 0)), some (.int x), some (.int (nI (1 + dep)))]) (st' := [.int (x + ((apt 84 83 0 α b [10]) 83 3))]) (σ' := (apt 84 83 0 α b [10], δ)) (pc' := 114) kX9_runBody_108 rfl rfl rf_a0 ?_
    try rw [(show (apt 84 83 0 α b [10]) 83 3 = nu from (apt_f (by decide) (by decide)).trans hn)]
    refine ok_reti eX9_runBody_114 rfl ?_
    exact ⟨rfl, rfl⟩
  refine ok_V (As := [.int (nI 10), .int (nI 0), .int x, .int (nI (1 + dep))]) (b := 83) (st := []) mkX9_runBody qX9_speak_105 rfl (rc_83) rfl rfl rfl rfl (Nat.le_of_ble_eq_true rfl) (hc105) ?_
  refine ok_reti eX9_speak_108 rfl ?_
  exact ⟨rfl, rfl⟩
theorem cv0_1_0 {x : Int32} {b dep : Nat} (hk : α 83 2 = nI 0) (hn : α 83 3 = nu) (hm : α 83 4 = mn) (hb : α 83 0 = nI b) (hl : b + 2 ≤ 40) (hd : dep + 2 ≤ 30) : rf_At (rf_T Ln xs) MX9_speak 4 0 ([some (.ref 83), some (.int (nI 0)), some (.int (nI 1)), some (.int x), some (.int (nI dep)), none, none], [], 108, (α, δ)) (some (.int ((x + nu) * nI 2))) 108 (apt 84 83 0 α b [11, 10], δ) := by
  refine rf_pa ?_
  refine ok_step (ps := []) (L' := [some (.ref 83), some (.int (nI 0)), some (.int (nI 1)), some (.int x), some (.int (nI dep)), some (.int (nI 0)), some (.int (nI 0))]) (st' := []) (σ' := (α, δ)) (pc' := 6) kX9_speak_0 rfl rfl rf_a0 ?_
  refine ok_step (ps := []) (L' := [some (.ref 83), some (.int (nI 0)), some (.int (nI 1)), some (.int x), some (.int (nI dep)), some (.int (nI 0)), some (.int (nI 0))]) (st' := [.int (nI 8), .int (nI 0)]) (σ' := (α, δ)) (pc' := 10) kX9_speak_6 rfl rfl rf_a0 ?_
  refine ok_icmp_ge bX9_speak_10 (fun h10 => absurd h10 ((by decide))) (fun _ => ?_)
  refine ok_step (ps := [rf_in (((nI 0) * (nI 4)) + (nI 1)) 32]) (L' := [some (.ref 83), some (.int (nI 0)), some (.int (nI 1)), some (.int x), some (.int (nI dep)), some (.int (nI 0)), some (.int (nI 0))]) (st' := [.int (tBodies ((((nI 0) * (nI 4)) + (nI 1)).toNatClampNeg))]) (σ' := (α, δ)) (pc' := 23) kX9_speak_13 rfl rfl (rf_a1 (rf_in_n (a := 1) (by (try rw [(show ((nI 0) * (nI 4)) = nI 0 from rf_eq (rf_nmul (x := nI 0) (y := nI 4) rfl rfl) (by omega))]); (try rw [(show ((nI 0) + (nI 1)) = nI 1 from rf_eq (rf_nadd (x := nI 0) (y := nI 1) rfl rfl) (by omega))]); all_goals exact rfl) (by omega)) rf_a0) ?_
  try rw [(show ((nI 0) * (nI 4)) = nI 0 from rf_eq (rf_nmul (x := nI 0) (y := nI 4) rfl rfl) (by omega))]
  try rw [(show ((nI 0) + (nI 1)) = nI 1 from rf_eq (rf_nadd (x := nI 0) (y := nI 1) rfl rfl) (by omega))]
  try rw [(show (nI 1).toNatClampNeg = 1 from rf_cl_n rfl (by omega))]
  try rw [(show tBodies 1 = nI 11 from rfl)]
  refine ok_if_ne bX9_speak_23 (fun _ => ?_) (fun h23 => absurd h23 ((by decide)))
  refine ok_step (ps := []) (L' := [some (.ref 83), some (.int (nI 0)), some (.int (nI 1)), some (.int x), some (.int (nI dep)), some (.int (nI 0)), some (.int (nI 0))]) (st' := [.int (nI 30), .int (nI dep)]) (σ' := (α, δ)) (pc' := 44) kX9_speak_40 rfl rfl rf_a0 ?_
  refine ok_icmp_le bX9_speak_44 (fun _ => ?_) (fun h44 => absurd (nI_le (by omega) (by omega)) h44)
  refine ok_step (ps := [rf_in (((nI 0) * (nI 4)) + (nI 1)) 32]) (L' := [some (.ref 83), some (.int (nI 0)), some (.int (nI 1)), some (.int x), some (.int (nI dep)), some (.int (nI 0)), some (.int (tBodies ((((nI 0) * (nI 4)) + (nI 1)).toNatClampNeg)))]) (st' := [.int (nI 40), .int (α 83 0)]) (σ' := (α, δ)) (pc' := 67) kX9_speak_49 rfl rfl (rf_a1 (rf_in_n (a := 1) (by (try rw [(show ((nI 0) * (nI 4)) = nI 0 from rf_eq (rf_nmul (x := nI 0) (y := nI 4) rfl rfl) (by omega))]); (try rw [(show ((nI 0) + (nI 1)) = nI 1 from rf_eq (rf_nadd (x := nI 0) (y := nI 1) rfl rfl) (by omega))]); all_goals exact rfl) (by omega)) rf_a0) ?_
  try rw [(show ((nI 0) * (nI 4)) = nI 0 from rf_eq (rf_nmul (x := nI 0) (y := nI 4) rfl rfl) (by omega))]
  try rw [(show ((nI 0) + (nI 1)) = nI 1 from rf_eq (rf_nadd (x := nI 0) (y := nI 1) rfl rfl) (by omega))]
  try rw [(show (nI 1).toNatClampNeg = 1 from rf_cl_n rfl (by omega))]
  try rw [(show tBodies 1 = nI 11 from rfl)]
  try rw [(show α 83 0 = nI b from hb)]
  refine ok_icmp_ge bX9_speak_67 (fun h67 => absurd h67 (nI_ge (by omega) (by omega))) (fun _ => ?_)
  refine ok_step (ps := [rf_in (α 83 0) 40]) (L' := [some (.ref 83), some (.int (nI 0)), some (.int (nI 1)), some (.int x), some (.int (nI dep)), some (.int (nI 0)), some (.int (nI 11))]) (st' := []) (σ' := (rf_w (rf_w α 84 ((α 83 0).toNatClampNeg) (nI 11)) 83 0 (((rf_w α 84 ((α 83 0).toNatClampNeg) (nI 11)) 83 0) + (nI 1)), δ)) (pc' := 91) kX9_speak_70 rfl rfl (rf_a1 (rf_in_n (a := b) (by (try rw [(show α 83 0 = nI b from hb)]); all_goals exact rfl) (by omega)) rf_a0) ?_
  try rw [(show α 83 0 = nI b from hb)]
  try rw [(show (nI b).toNatClampNeg = b from rf_cl_n rfl (by omega))]
  try rw [(show (rf_w α 84 b (nI 11)) 83 0 = α 83 0 from by rw [rf_w_at, if_neg (fun h => absurd h.1 (by decide))])]
  try rw [(show α 83 0 = nI b from hb)]
  try rw [(show ((nI b) + (nI 1)) = nI (1 + b) from rf_eq (rf_nadd (x := nI b) (y := nI 1) rfl rfl) (by omega))]
  rw [show rf_w (rf_w α 84 b (nI 11)) 83 0 (nI (1 + b)) = apt 84 83 0 α b [11] from apt_w (L := []) (by simp) (by omega)]
  refine ok_step (ps := [rf_in (nI 0) 8]) (L' := [some (.ref 83), some (.int (nI 0)), some (.int (nI 1)), some (.int x), some (.int (nI dep)), some (.int (nI 0)), some (.int (nI 11))]) (st' := [.int ((nI dep) + (nI 1)), .int x, .int (tAbove ((nI 0).toNatClampNeg)), .int (nI 11), .ref 83]) (σ' := (apt 84 83 0 α b [11], δ)) (pc' := 105) kX9_speak_91 rfl rfl (rf_a1 (rf_in_n (a := 0) rfl (by omega)) rf_a0) ?_
  try rw [(show (nI 0).toNatClampNeg = 0 from rf_cl_n rfl (by omega))]
  try rw [(show tAbove 0 = nI 0 from rfl)]
  try rw [(show ((nI dep) + (nI 1)) = nI (1 + dep) from rf_eq (rf_nadd (x := nI dep) (y := nI 1) rfl rfl) (by omega))]
  have hc105 : rf_At (rf_T Ln xs) MX9_runBody 3 0 ([some (.ref 83), some (.int (nI 11)), some (.int (nI 0)), some (.int x), some (.int (nI (1 + dep)))], [], 108, (apt 84 83 0 α b [11], δ)) (some (.int ((x + nu) * (nI 2)))) 108 (apt 84 83 0 α b [11, 10], δ) := by
    refine rf_pa ?_
    refine ok_step (ps := []) (L' := [some (.ref 83), some (.int (nI 11)), some (.int (nI 0)), some (.int x), some (.int (nI (1 + dep)))]) (st' := [.int (nI 11)]) (σ' := (apt 84 83 0 α b [11], δ)) (pc' := 1) kX9_runBody_0 rfl rfl rf_a0 ?_
    refine ok_lkk (q := (11, 114)) (t := 115) bX9_runBody_1 (by decide) (by decide) (by decide) (by decide) ?_
    refine ok_step (ps := []) (L' := [some (.ref 83), some (.int (nI 11)), some (.int (nI 0)), some (.int x), some (.int (nI (1 + dep)))]) (st' := [.int (nI (1 + dep)), .int x, .int (nI 0), .int ((apt 84 83 0 α b [11]) 83 2), .ref 83]) (σ' := (apt 84 83 0 α b [11], δ)) (pc' := 124) kX9_runBody_115 rfl rfl rf_a0 ?_
    try rw [(show (apt 84 83 0 α b [11]) 83 2 = nI 0 from (apt_f (by decide) (by decide)).trans hk)]
    refine ok_V (As := [.int (nI 0), .int (nI 0), .int x, .int (nI (1 + dep))]) (b := 83) (st := []) mkX9_speak qX9_runBody_124 rfl (rc_83) rfl rfl rfl rfl (Nat.le_of_ble_eq_true rfl) (cv0_0_0 (b := (1 + b)) (dep := (1 + dep)) ((apt_f (by decide) (by decide)).trans hk) ((apt_f (by decide) (by decide)).trans hn) ((apt_f (by decide) (by decide)).trans hm) (apt_0 (by decide) hb) (by omega) (by omega)) ?_
    rw [show apt 84 83 0 (apt 84 83 0 α b [11]) (1 + b) [10] = apt 84 83 0 α b [11, 10] from apt_app (by simp)]
    refine ok_step (ps := []) (L' := [some (.ref 83), some (.int (nI 11)), some (.int (nI 0)), some (.int x), some (.int (nI (1 + dep)))]) (st' := [.int ((x + nu) * (nI 2))]) (σ' := (apt 84 83 0 α b [11, 10], δ)) (pc' := 129) kX9_runBody_127 rfl rfl rf_a0 ?_
    refine ok_reti eX9_runBody_129 rfl ?_
    exact ⟨rfl, rfl⟩
  refine ok_V (As := [.int (nI 11), .int (nI 0), .int x, .int (nI (1 + dep))]) (b := 83) (st := []) mkX9_runBody qX9_speak_105 rfl (rc_83) rfl rfl rfl rfl (Nat.le_of_ble_eq_true rfl) (hc105) ?_
  refine ok_reti eX9_speak_108 rfl ?_
  exact ⟨rfl, rfl⟩
theorem cv0_2_0 {x : Int32} {b dep : Nat} (hk : α 83 2 = nI 0) (hn : α 83 3 = nu) (hm : α 83 4 = mn) (hb : α 83 0 = nI b) (hl : b + 1 ≤ 40) (hd : dep + 1 ≤ 30) : rf_At (rf_T Ln xs) MX9_speak 2 0 ([some (.ref 83), some (.int (nI 0)), some (.int (nI 2)), some (.int x), some (.int (nI dep)), none, none], [], 108, (α, δ)) (some (.int (x - mn))) 108 (apt 84 83 0 α b [12], δ) := by
  refine rf_pa ?_
  refine ok_step (ps := []) (L' := [some (.ref 83), some (.int (nI 0)), some (.int (nI 2)), some (.int x), some (.int (nI dep)), some (.int (nI 0)), some (.int (nI 0))]) (st' := []) (σ' := (α, δ)) (pc' := 6) kX9_speak_0 rfl rfl rf_a0 ?_
  refine ok_step (ps := []) (L' := [some (.ref 83), some (.int (nI 0)), some (.int (nI 2)), some (.int x), some (.int (nI dep)), some (.int (nI 0)), some (.int (nI 0))]) (st' := [.int (nI 8), .int (nI 0)]) (σ' := (α, δ)) (pc' := 10) kX9_speak_6 rfl rfl rf_a0 ?_
  refine ok_icmp_ge bX9_speak_10 (fun h10 => absurd h10 ((by decide))) (fun _ => ?_)
  refine ok_step (ps := [rf_in (((nI 0) * (nI 4)) + (nI 2)) 32]) (L' := [some (.ref 83), some (.int (nI 0)), some (.int (nI 2)), some (.int x), some (.int (nI dep)), some (.int (nI 0)), some (.int (nI 0))]) (st' := [.int (tBodies ((((nI 0) * (nI 4)) + (nI 2)).toNatClampNeg))]) (σ' := (α, δ)) (pc' := 23) kX9_speak_13 rfl rfl (rf_a1 (rf_in_n (a := 2) (by (try rw [(show ((nI 0) * (nI 4)) = nI 0 from rf_eq (rf_nmul (x := nI 0) (y := nI 4) rfl rfl) (by omega))]); (try rw [(show ((nI 0) + (nI 2)) = nI 2 from rf_eq (rf_nadd (x := nI 0) (y := nI 2) rfl rfl) (by omega))]); all_goals exact rfl) (by omega)) rf_a0) ?_
  try rw [(show ((nI 0) * (nI 4)) = nI 0 from rf_eq (rf_nmul (x := nI 0) (y := nI 4) rfl rfl) (by omega))]
  try rw [(show ((nI 0) + (nI 2)) = nI 2 from rf_eq (rf_nadd (x := nI 0) (y := nI 2) rfl rfl) (by omega))]
  try rw [(show (nI 2).toNatClampNeg = 2 from rf_cl_n rfl (by omega))]
  try rw [(show tBodies 2 = nI 12 from rfl)]
  refine ok_if_ne bX9_speak_23 (fun _ => ?_) (fun h23 => absurd h23 ((by decide)))
  refine ok_step (ps := []) (L' := [some (.ref 83), some (.int (nI 0)), some (.int (nI 2)), some (.int x), some (.int (nI dep)), some (.int (nI 0)), some (.int (nI 0))]) (st' := [.int (nI 30), .int (nI dep)]) (σ' := (α, δ)) (pc' := 44) kX9_speak_40 rfl rfl rf_a0 ?_
  refine ok_icmp_le bX9_speak_44 (fun _ => ?_) (fun h44 => absurd (nI_le (by omega) (by omega)) h44)
  refine ok_step (ps := [rf_in (((nI 0) * (nI 4)) + (nI 2)) 32]) (L' := [some (.ref 83), some (.int (nI 0)), some (.int (nI 2)), some (.int x), some (.int (nI dep)), some (.int (nI 0)), some (.int (tBodies ((((nI 0) * (nI 4)) + (nI 2)).toNatClampNeg)))]) (st' := [.int (nI 40), .int (α 83 0)]) (σ' := (α, δ)) (pc' := 67) kX9_speak_49 rfl rfl (rf_a1 (rf_in_n (a := 2) (by (try rw [(show ((nI 0) * (nI 4)) = nI 0 from rf_eq (rf_nmul (x := nI 0) (y := nI 4) rfl rfl) (by omega))]); (try rw [(show ((nI 0) + (nI 2)) = nI 2 from rf_eq (rf_nadd (x := nI 0) (y := nI 2) rfl rfl) (by omega))]); all_goals exact rfl) (by omega)) rf_a0) ?_
  try rw [(show ((nI 0) * (nI 4)) = nI 0 from rf_eq (rf_nmul (x := nI 0) (y := nI 4) rfl rfl) (by omega))]
  try rw [(show ((nI 0) + (nI 2)) = nI 2 from rf_eq (rf_nadd (x := nI 0) (y := nI 2) rfl rfl) (by omega))]
  try rw [(show (nI 2).toNatClampNeg = 2 from rf_cl_n rfl (by omega))]
  try rw [(show tBodies 2 = nI 12 from rfl)]
  try rw [(show α 83 0 = nI b from hb)]
  refine ok_icmp_ge bX9_speak_67 (fun h67 => absurd h67 (nI_ge (by omega) (by omega))) (fun _ => ?_)
  refine ok_step (ps := [rf_in (α 83 0) 40]) (L' := [some (.ref 83), some (.int (nI 0)), some (.int (nI 2)), some (.int x), some (.int (nI dep)), some (.int (nI 0)), some (.int (nI 12))]) (st' := []) (σ' := (rf_w (rf_w α 84 ((α 83 0).toNatClampNeg) (nI 12)) 83 0 (((rf_w α 84 ((α 83 0).toNatClampNeg) (nI 12)) 83 0) + (nI 1)), δ)) (pc' := 91) kX9_speak_70 rfl rfl (rf_a1 (rf_in_n (a := b) (by (try rw [(show α 83 0 = nI b from hb)]); all_goals exact rfl) (by omega)) rf_a0) ?_
  try rw [(show α 83 0 = nI b from hb)]
  try rw [(show (nI b).toNatClampNeg = b from rf_cl_n rfl (by omega))]
  try rw [(show (rf_w α 84 b (nI 12)) 83 0 = α 83 0 from by rw [rf_w_at, if_neg (fun h => absurd h.1 (by decide))])]
  try rw [(show α 83 0 = nI b from hb)]
  try rw [(show ((nI b) + (nI 1)) = nI (1 + b) from rf_eq (rf_nadd (x := nI b) (y := nI 1) rfl rfl) (by omega))]
  rw [show rf_w (rf_w α 84 b (nI 12)) 83 0 (nI (1 + b)) = apt 84 83 0 α b [12] from apt_w (L := []) (by simp) (by omega)]
  refine ok_step (ps := [rf_in (nI 0) 8]) (L' := [some (.ref 83), some (.int (nI 0)), some (.int (nI 2)), some (.int x), some (.int (nI dep)), some (.int (nI 0)), some (.int (nI 12))]) (st' := [.int ((nI dep) + (nI 1)), .int x, .int (tAbove ((nI 0).toNatClampNeg)), .int (nI 12), .ref 83]) (σ' := (apt 84 83 0 α b [12], δ)) (pc' := 105) kX9_speak_91 rfl rfl (rf_a1 (rf_in_n (a := 0) rfl (by omega)) rf_a0) ?_
  try rw [(show (nI 0).toNatClampNeg = 0 from rf_cl_n rfl (by omega))]
  try rw [(show tAbove 0 = nI 0 from rfl)]
  try rw [(show ((nI dep) + (nI 1)) = nI (1 + dep) from rf_eq (rf_nadd (x := nI dep) (y := nI 1) rfl rfl) (by omega))]
  have hc105 : rf_At (rf_T Ln xs) MX9_runBody 1 0 ([some (.ref 83), some (.int (nI 12)), some (.int (nI 0)), some (.int x), some (.int (nI (1 + dep)))], [], 108, (apt 84 83 0 α b [12], δ)) (some (.int (x - mn))) 108 (apt 84 83 0 α b [12], δ) := by
    refine rf_pa ?_
    refine ok_step (ps := []) (L' := [some (.ref 83), some (.int (nI 12)), some (.int (nI 0)), some (.int x), some (.int (nI (1 + dep)))]) (st' := [.int (nI 12)]) (σ' := (apt 84 83 0 α b [12], δ)) (pc' := 1) kX9_runBody_0 rfl rfl rf_a0 ?_
    refine ok_lkk (q := (12, 129)) (t := 130) bX9_runBody_1 (by decide) (by decide) (by decide) (by decide) ?_
    refine ok_step (ps := []) (L' := [some (.ref 83), some (.int (nI 12)), some (.int (nI 0)), some (.int x), some (.int (nI (1 + dep)))]) (st' := [.int (x - ((apt 84 83 0 α b [12]) 83 4))]) (σ' := (apt 84 83 0 α b [12], δ)) (pc' := 136) kX9_runBody_130 rfl rfl rf_a0 ?_
    try rw [(show (apt 84 83 0 α b [12]) 83 4 = mn from (apt_f (by decide) (by decide)).trans hm)]
    refine ok_reti eX9_runBody_136 rfl ?_
    exact ⟨rfl, rfl⟩
  refine ok_V (As := [.int (nI 12), .int (nI 0), .int x, .int (nI (1 + dep))]) (b := 83) (st := []) mkX9_runBody qX9_speak_105 rfl (rc_83) rfl rfl rfl rfl (Nat.le_of_ble_eq_true rfl) (hc105) ?_
  refine ok_reti eX9_speak_108 rfl ?_
  exact ⟨rfl, rfl⟩
theorem cv0_3_0 {x : Int32} {b dep : Nat} (hk : α 83 2 = nI 0) (hn : α 83 3 = nu) (hm : α 83 4 = mn) (hb : α 83 0 = nI b) (hl : b + 4 ≤ 40) (hd : dep + 3 ≤ 30) : rf_At (rf_T Ln xs) MX9_speak 6 0 ([some (.ref 83), some (.int (nI 0)), some (.int (nI 3)), some (.int x), some (.int (nI dep)), none, none], [], 108, (α, δ)) (some (.int (((x + nu) * nI 2) ^^^ (x - mn)))) 108 (apt 84 83 0 α b [13, 11, 10, 12], δ) := by
  refine rf_pa ?_
  refine ok_step (ps := []) (L' := [some (.ref 83), some (.int (nI 0)), some (.int (nI 3)), some (.int x), some (.int (nI dep)), some (.int (nI 0)), some (.int (nI 0))]) (st' := []) (σ' := (α, δ)) (pc' := 6) kX9_speak_0 rfl rfl rf_a0 ?_
  refine ok_step (ps := []) (L' := [some (.ref 83), some (.int (nI 0)), some (.int (nI 3)), some (.int x), some (.int (nI dep)), some (.int (nI 0)), some (.int (nI 0))]) (st' := [.int (nI 8), .int (nI 0)]) (σ' := (α, δ)) (pc' := 10) kX9_speak_6 rfl rfl rf_a0 ?_
  refine ok_icmp_ge bX9_speak_10 (fun h10 => absurd h10 ((by decide))) (fun _ => ?_)
  refine ok_step (ps := [rf_in (((nI 0) * (nI 4)) + (nI 3)) 32]) (L' := [some (.ref 83), some (.int (nI 0)), some (.int (nI 3)), some (.int x), some (.int (nI dep)), some (.int (nI 0)), some (.int (nI 0))]) (st' := [.int (tBodies ((((nI 0) * (nI 4)) + (nI 3)).toNatClampNeg))]) (σ' := (α, δ)) (pc' := 23) kX9_speak_13 rfl rfl (rf_a1 (rf_in_n (a := 3) (by (try rw [(show ((nI 0) * (nI 4)) = nI 0 from rf_eq (rf_nmul (x := nI 0) (y := nI 4) rfl rfl) (by omega))]); (try rw [(show ((nI 0) + (nI 3)) = nI 3 from rf_eq (rf_nadd (x := nI 0) (y := nI 3) rfl rfl) (by omega))]); all_goals exact rfl) (by omega)) rf_a0) ?_
  try rw [(show ((nI 0) * (nI 4)) = nI 0 from rf_eq (rf_nmul (x := nI 0) (y := nI 4) rfl rfl) (by omega))]
  try rw [(show ((nI 0) + (nI 3)) = nI 3 from rf_eq (rf_nadd (x := nI 0) (y := nI 3) rfl rfl) (by omega))]
  try rw [(show (nI 3).toNatClampNeg = 3 from rf_cl_n rfl (by omega))]
  try rw [(show tBodies 3 = nI 13 from rfl)]
  refine ok_if_ne bX9_speak_23 (fun _ => ?_) (fun h23 => absurd h23 ((by decide)))
  refine ok_step (ps := []) (L' := [some (.ref 83), some (.int (nI 0)), some (.int (nI 3)), some (.int x), some (.int (nI dep)), some (.int (nI 0)), some (.int (nI 0))]) (st' := [.int (nI 30), .int (nI dep)]) (σ' := (α, δ)) (pc' := 44) kX9_speak_40 rfl rfl rf_a0 ?_
  refine ok_icmp_le bX9_speak_44 (fun _ => ?_) (fun h44 => absurd (nI_le (by omega) (by omega)) h44)
  refine ok_step (ps := [rf_in (((nI 0) * (nI 4)) + (nI 3)) 32]) (L' := [some (.ref 83), some (.int (nI 0)), some (.int (nI 3)), some (.int x), some (.int (nI dep)), some (.int (nI 0)), some (.int (tBodies ((((nI 0) * (nI 4)) + (nI 3)).toNatClampNeg)))]) (st' := [.int (nI 40), .int (α 83 0)]) (σ' := (α, δ)) (pc' := 67) kX9_speak_49 rfl rfl (rf_a1 (rf_in_n (a := 3) (by (try rw [(show ((nI 0) * (nI 4)) = nI 0 from rf_eq (rf_nmul (x := nI 0) (y := nI 4) rfl rfl) (by omega))]); (try rw [(show ((nI 0) + (nI 3)) = nI 3 from rf_eq (rf_nadd (x := nI 0) (y := nI 3) rfl rfl) (by omega))]); all_goals exact rfl) (by omega)) rf_a0) ?_
  try rw [(show ((nI 0) * (nI 4)) = nI 0 from rf_eq (rf_nmul (x := nI 0) (y := nI 4) rfl rfl) (by omega))]
  try rw [(show ((nI 0) + (nI 3)) = nI 3 from rf_eq (rf_nadd (x := nI 0) (y := nI 3) rfl rfl) (by omega))]
  try rw [(show (nI 3).toNatClampNeg = 3 from rf_cl_n rfl (by omega))]
  try rw [(show tBodies 3 = nI 13 from rfl)]
  try rw [(show α 83 0 = nI b from hb)]
  refine ok_icmp_ge bX9_speak_67 (fun h67 => absurd h67 (nI_ge (by omega) (by omega))) (fun _ => ?_)
  refine ok_step (ps := [rf_in (α 83 0) 40]) (L' := [some (.ref 83), some (.int (nI 0)), some (.int (nI 3)), some (.int x), some (.int (nI dep)), some (.int (nI 0)), some (.int (nI 13))]) (st' := []) (σ' := (rf_w (rf_w α 84 ((α 83 0).toNatClampNeg) (nI 13)) 83 0 (((rf_w α 84 ((α 83 0).toNatClampNeg) (nI 13)) 83 0) + (nI 1)), δ)) (pc' := 91) kX9_speak_70 rfl rfl (rf_a1 (rf_in_n (a := b) (by (try rw [(show α 83 0 = nI b from hb)]); all_goals exact rfl) (by omega)) rf_a0) ?_
  try rw [(show α 83 0 = nI b from hb)]
  try rw [(show (nI b).toNatClampNeg = b from rf_cl_n rfl (by omega))]
  try rw [(show (rf_w α 84 b (nI 13)) 83 0 = α 83 0 from by rw [rf_w_at, if_neg (fun h => absurd h.1 (by decide))])]
  try rw [(show α 83 0 = nI b from hb)]
  try rw [(show ((nI b) + (nI 1)) = nI (1 + b) from rf_eq (rf_nadd (x := nI b) (y := nI 1) rfl rfl) (by omega))]
  rw [show rf_w (rf_w α 84 b (nI 13)) 83 0 (nI (1 + b)) = apt 84 83 0 α b [13] from apt_w (L := []) (by simp) (by omega)]
  refine ok_step (ps := [rf_in (nI 0) 8]) (L' := [some (.ref 83), some (.int (nI 0)), some (.int (nI 3)), some (.int x), some (.int (nI dep)), some (.int (nI 0)), some (.int (nI 13))]) (st' := [.int ((nI dep) + (nI 1)), .int x, .int (tAbove ((nI 0).toNatClampNeg)), .int (nI 13), .ref 83]) (σ' := (apt 84 83 0 α b [13], δ)) (pc' := 105) kX9_speak_91 rfl rfl (rf_a1 (rf_in_n (a := 0) rfl (by omega)) rf_a0) ?_
  try rw [(show (nI 0).toNatClampNeg = 0 from rf_cl_n rfl (by omega))]
  try rw [(show tAbove 0 = nI 0 from rfl)]
  try rw [(show ((nI dep) + (nI 1)) = nI (1 + dep) from rf_eq (rf_nadd (x := nI dep) (y := nI 1) rfl rfl) (by omega))]
  have hc105 : rf_At (rf_T Ln xs) MX9_runBody 5 0 ([some (.ref 83), some (.int (nI 13)), some (.int (nI 0)), some (.int x), some (.int (nI (1 + dep)))], [], 108, (apt 84 83 0 α b [13], δ)) (some (.int (((x + nu) * nI 2) ^^^ (x - mn)))) 108 (apt 84 83 0 α b [13, 11, 10, 12], δ) := by
    refine rf_pa ?_
    refine ok_step (ps := []) (L' := [some (.ref 83), some (.int (nI 13)), some (.int (nI 0)), some (.int x), some (.int (nI (1 + dep)))]) (st' := [.int (nI 13)]) (σ' := (apt 84 83 0 α b [13], δ)) (pc' := 1) kX9_runBody_0 rfl rfl rf_a0 ?_
    refine ok_lkk (q := (13, 136)) (t := 137) bX9_runBody_1 (by decide) (by decide) (by decide) (by decide) ?_
    refine ok_step (ps := []) (L' := [some (.ref 83), some (.int (nI 13)), some (.int (nI 0)), some (.int x), some (.int (nI (1 + dep)))]) (st' := [.int (nI (1 + dep)), .int x, .int (nI 1), .int ((apt 84 83 0 α b [13]) 83 2), .ref 83]) (σ' := (apt 84 83 0 α b [13], δ)) (pc' := 146) kX9_runBody_137 rfl rfl rf_a0 ?_
    try rw [(show (apt 84 83 0 α b [13]) 83 2 = nI 0 from (apt_f (by decide) (by decide)).trans hk)]
    refine ok_V (As := [.int (nI 0), .int (nI 1), .int x, .int (nI (1 + dep))]) (b := 83) (st := []) mkX9_speak qX9_runBody_146 rfl (rc_83) rfl rfl rfl rfl (Nat.le_of_ble_eq_true rfl) (cv0_1_0 (b := (1 + b)) (dep := (1 + dep)) ((apt_f (by decide) (by decide)).trans hk) ((apt_f (by decide) (by decide)).trans hn) ((apt_f (by decide) (by decide)).trans hm) (apt_0 (by decide) hb) (by omega) (by omega)) ?_
    rw [show apt 84 83 0 (apt 84 83 0 α b [13]) (1 + b) [11, 10] = apt 84 83 0 α b [13, 11, 10] from apt_app (by simp)]
    refine ok_step (ps := []) (L' := [some (.ref 83), some (.int (nI 13)), some (.int (nI 0)), some (.int x), some (.int (nI (1 + dep)))]) (st' := [.int (nI (1 + dep)), .int x, .int (nI 2), .int ((apt 84 83 0 α b [13, 11, 10]) 83 2), .ref 83, .int ((x + nu) * nI 2)]) (σ' := (apt 84 83 0 α b [13, 11, 10], δ)) (pc' := 158) kX9_runBody_149 rfl rfl rf_a0 ?_
    try rw [(show (apt 84 83 0 α b [13, 11, 10]) 83 2 = nI 0 from (apt_f (by decide) (by decide)).trans hk)]
    refine ok_V (As := [.int (nI 0), .int (nI 2), .int x, .int (nI (1 + dep))]) (b := 83) (st := [.int ((x + nu) * nI 2)]) mkX9_speak qX9_runBody_158 rfl (rc_83) rfl rfl rfl rfl (Nat.le_of_ble_eq_true rfl) (cv0_2_0 (b := (3 + b)) (dep := (1 + dep)) ((apt_f (by decide) (by decide)).trans hk) ((apt_f (by decide) (by decide)).trans hn) ((apt_f (by decide) (by decide)).trans hm) (apt_0 (by decide) hb) (by omega) (by omega)) ?_
    rw [show apt 84 83 0 (apt 84 83 0 α b [13, 11, 10]) (3 + b) [12] = apt 84 83 0 α b [13, 11, 10, 12] from apt_app (by simp)]
    refine ok_step (ps := []) (L' := [some (.ref 83), some (.int (nI 13)), some (.int (nI 0)), some (.int x), some (.int (nI (1 + dep)))]) (st' := [.int (((x + nu) * nI 2) ^^^ (x - mn))]) (σ' := (apt 84 83 0 α b [13, 11, 10, 12], δ)) (pc' := 162) kX9_runBody_161 rfl rfl rf_a0 ?_
    refine ok_reti eX9_runBody_162 rfl ?_
    exact ⟨rfl, rfl⟩
  refine ok_V (As := [.int (nI 13), .int (nI 0), .int x, .int (nI (1 + dep))]) (b := 83) (st := []) mkX9_runBody qX9_speak_105 rfl (rc_83) rfl rfl rfl rfl (Nat.le_of_ble_eq_true rfl) (hc105) ?_
  refine ok_reti eX9_speak_108 rfl ?_
  exact ⟨rfl, rfl⟩
theorem cv1_0_1 {x : Int32} {b dep : Nat} (hk : α 83 2 = nI 1) (hn : α 83 3 = nu) (hm : α 83 4 = mn) (hb : α 83 0 = nI b) (hl : b + 1 ≤ 40) (hd : dep + 1 ≤ 30) : rf_At (rf_T Ln xs) MX9_speak 2 0 ([some (.ref 83), some (.int (nI 1)), some (.int (nI 0)), some (.int x), some (.int (nI dep)), none, none], [], 108, (α, δ)) (some (.int (x + nu))) 108 (apt 84 83 0 α b [10], δ) := by
  refine rf_pa ?_
  refine ok_step (ps := []) (L' := [some (.ref 83), some (.int (nI 1)), some (.int (nI 0)), some (.int x), some (.int (nI dep)), some (.int (nI 1)), some (.int (nI 0))]) (st' := []) (σ' := (α, δ)) (pc' := 6) kX9_speak_0 rfl rfl rf_a0 ?_
  refine ok_step (ps := []) (L' := [some (.ref 83), some (.int (nI 1)), some (.int (nI 0)), some (.int x), some (.int (nI dep)), some (.int (nI 1)), some (.int (nI 0))]) (st' := [.int (nI 8), .int (nI 0)]) (σ' := (α, δ)) (pc' := 10) kX9_speak_6 rfl rfl rf_a0 ?_
  refine ok_icmp_ge bX9_speak_10 (fun h10 => absurd h10 ((by decide))) (fun _ => ?_)
  refine ok_step (ps := [rf_in (((nI 1) * (nI 4)) + (nI 0)) 32]) (L' := [some (.ref 83), some (.int (nI 1)), some (.int (nI 0)), some (.int x), some (.int (nI dep)), some (.int (nI 1)), some (.int (nI 0))]) (st' := [.int (tBodies ((((nI 1) * (nI 4)) + (nI 0)).toNatClampNeg))]) (σ' := (α, δ)) (pc' := 23) kX9_speak_13 rfl rfl (rf_a1 (rf_in_n (a := 4) (by (try rw [(show ((nI 1) * (nI 4)) = nI 4 from rf_eq (rf_nmul (x := nI 1) (y := nI 4) rfl rfl) (by omega))]); (try rw [(show ((nI 4) + (nI 0)) = nI 4 from rf_eq (rf_nadd (x := nI 4) (y := nI 0) rfl rfl) (by omega))]); all_goals exact rfl) (by omega)) rf_a0) ?_
  try rw [(show ((nI 1) * (nI 4)) = nI 4 from rf_eq (rf_nmul (x := nI 1) (y := nI 4) rfl rfl) (by omega))]
  try rw [(show ((nI 4) + (nI 0)) = nI 4 from rf_eq (rf_nadd (x := nI 4) (y := nI 0) rfl rfl) (by omega))]
  try rw [(show (nI 4).toNatClampNeg = 4 from rf_cl_n rfl (by omega))]
  try rw [(show tBodies 4 = nI 0 from rfl)]
  refine ok_if_ne bX9_speak_23 (fun h23 => absurd ((by decide)) h23) (fun _ => ?_)
  refine ok_step (ps := [rf_in (nI 1) 8]) (L' := [some (.ref 83), some (.int (nI 1)), some (.int (nI 0)), some (.int x), some (.int (nI dep)), some (.int (tAbove ((nI 1).toNatClampNeg))), some (.int ((nI 0) + (nI 1)))]) (st' := []) (σ' := (α, δ)) (pc' := 37) kX9_speak_26 rfl rfl (rf_a1 (rf_in_n (a := 1) rfl (by omega)) rf_a0) ?_
  try rw [(show (nI 1).toNatClampNeg = 1 from rf_cl_n rfl (by omega))]
  try rw [(show tAbove 1 = nI 0 from rfl)]
  try rw [(show ((nI 0) + (nI 1)) = nI 1 from rf_eq (rf_nadd (x := nI 0) (y := nI 1) rfl rfl) (by omega))]
  refine ok_goto bX9_speak_37 ?_
  refine ok_step (ps := []) (L' := [some (.ref 83), some (.int (nI 1)), some (.int (nI 0)), some (.int x), some (.int (nI dep)), some (.int (nI 0)), some (.int (nI 1))]) (st' := [.int (nI 8), .int (nI 1)]) (σ' := (α, δ)) (pc' := 10) kX9_speak_6 rfl rfl rf_a0 ?_
  refine ok_icmp_ge bX9_speak_10 (fun h10 => absurd h10 ((by decide))) (fun _ => ?_)
  refine ok_step (ps := [rf_in (((nI 0) * (nI 4)) + (nI 0)) 32]) (L' := [some (.ref 83), some (.int (nI 1)), some (.int (nI 0)), some (.int x), some (.int (nI dep)), some (.int (nI 0)), some (.int (nI 1))]) (st' := [.int (tBodies ((((nI 0) * (nI 4)) + (nI 0)).toNatClampNeg))]) (σ' := (α, δ)) (pc' := 23) kX9_speak_13 rfl rfl (rf_a1 (rf_in_n (a := 0) (by (try rw [(show ((nI 0) * (nI 4)) = nI 0 from rf_eq (rf_nmul (x := nI 0) (y := nI 4) rfl rfl) (by omega))]); (try rw [(show ((nI 0) + (nI 0)) = nI 0 from rf_eq (rf_nadd (x := nI 0) (y := nI 0) rfl rfl) (by omega))]); all_goals exact rfl) (by omega)) rf_a0) ?_
  try rw [(show ((nI 0) * (nI 4)) = nI 0 from rf_eq (rf_nmul (x := nI 0) (y := nI 4) rfl rfl) (by omega))]
  try rw [(show ((nI 0) + (nI 0)) = nI 0 from rf_eq (rf_nadd (x := nI 0) (y := nI 0) rfl rfl) (by omega))]
  try rw [(show (nI 0).toNatClampNeg = 0 from rf_cl_n rfl (by omega))]
  try rw [(show tBodies 0 = nI 10 from rfl)]
  refine ok_if_ne bX9_speak_23 (fun _ => ?_) (fun h23 => absurd h23 ((by decide)))
  refine ok_step (ps := []) (L' := [some (.ref 83), some (.int (nI 1)), some (.int (nI 0)), some (.int x), some (.int (nI dep)), some (.int (nI 0)), some (.int (nI 1))]) (st' := [.int (nI 30), .int (nI dep)]) (σ' := (α, δ)) (pc' := 44) kX9_speak_40 rfl rfl rf_a0 ?_
  refine ok_icmp_le bX9_speak_44 (fun _ => ?_) (fun h44 => absurd (nI_le (by omega) (by omega)) h44)
  refine ok_step (ps := [rf_in (((nI 0) * (nI 4)) + (nI 0)) 32]) (L' := [some (.ref 83), some (.int (nI 1)), some (.int (nI 0)), some (.int x), some (.int (nI dep)), some (.int (nI 0)), some (.int (tBodies ((((nI 0) * (nI 4)) + (nI 0)).toNatClampNeg)))]) (st' := [.int (nI 40), .int (α 83 0)]) (σ' := (α, δ)) (pc' := 67) kX9_speak_49 rfl rfl (rf_a1 (rf_in_n (a := 0) (by (try rw [(show ((nI 0) * (nI 4)) = nI 0 from rf_eq (rf_nmul (x := nI 0) (y := nI 4) rfl rfl) (by omega))]); (try rw [(show ((nI 0) + (nI 0)) = nI 0 from rf_eq (rf_nadd (x := nI 0) (y := nI 0) rfl rfl) (by omega))]); all_goals exact rfl) (by omega)) rf_a0) ?_
  try rw [(show ((nI 0) * (nI 4)) = nI 0 from rf_eq (rf_nmul (x := nI 0) (y := nI 4) rfl rfl) (by omega))]
  try rw [(show ((nI 0) + (nI 0)) = nI 0 from rf_eq (rf_nadd (x := nI 0) (y := nI 0) rfl rfl) (by omega))]
  try rw [(show (nI 0).toNatClampNeg = 0 from rf_cl_n rfl (by omega))]
  try rw [(show tBodies 0 = nI 10 from rfl)]
  try rw [(show α 83 0 = nI b from hb)]
  refine ok_icmp_ge bX9_speak_67 (fun h67 => absurd h67 (nI_ge (by omega) (by omega))) (fun _ => ?_)
  refine ok_step (ps := [rf_in (α 83 0) 40]) (L' := [some (.ref 83), some (.int (nI 1)), some (.int (nI 0)), some (.int x), some (.int (nI dep)), some (.int (nI 0)), some (.int (nI 10))]) (st' := []) (σ' := (rf_w (rf_w α 84 ((α 83 0).toNatClampNeg) (nI 10)) 83 0 (((rf_w α 84 ((α 83 0).toNatClampNeg) (nI 10)) 83 0) + (nI 1)), δ)) (pc' := 91) kX9_speak_70 rfl rfl (rf_a1 (rf_in_n (a := b) (by (try rw [(show α 83 0 = nI b from hb)]); all_goals exact rfl) (by omega)) rf_a0) ?_
  try rw [(show α 83 0 = nI b from hb)]
  try rw [(show (nI b).toNatClampNeg = b from rf_cl_n rfl (by omega))]
  try rw [(show (rf_w α 84 b (nI 10)) 83 0 = α 83 0 from by rw [rf_w_at, if_neg (fun h => absurd h.1 (by decide))])]
  try rw [(show α 83 0 = nI b from hb)]
  try rw [(show ((nI b) + (nI 1)) = nI (1 + b) from rf_eq (rf_nadd (x := nI b) (y := nI 1) rfl rfl) (by omega))]
  rw [show rf_w (rf_w α 84 b (nI 10)) 83 0 (nI (1 + b)) = apt 84 83 0 α b [10] from apt_w (L := []) (by simp) (by omega)]
  refine ok_step (ps := [rf_in (nI 0) 8]) (L' := [some (.ref 83), some (.int (nI 1)), some (.int (nI 0)), some (.int x), some (.int (nI dep)), some (.int (nI 0)), some (.int (nI 10))]) (st' := [.int ((nI dep) + (nI 1)), .int x, .int (tAbove ((nI 0).toNatClampNeg)), .int (nI 10), .ref 83]) (σ' := (apt 84 83 0 α b [10], δ)) (pc' := 105) kX9_speak_91 rfl rfl (rf_a1 (rf_in_n (a := 0) rfl (by omega)) rf_a0) ?_
  try rw [(show (nI 0).toNatClampNeg = 0 from rf_cl_n rfl (by omega))]
  try rw [(show tAbove 0 = nI 0 from rfl)]
  try rw [(show ((nI dep) + (nI 1)) = nI (1 + dep) from rf_eq (rf_nadd (x := nI dep) (y := nI 1) rfl rfl) (by omega))]
  have hc105 : rf_At (rf_T Ln xs) MX9_runBody 1 0 ([some (.ref 83), some (.int (nI 10)), some (.int (nI 0)), some (.int x), some (.int (nI (1 + dep)))], [], 108, (apt 84 83 0 α b [10], δ)) (some (.int (x + nu))) 108 (apt 84 83 0 α b [10], δ) := by
    refine rf_pa ?_
    refine ok_step (ps := []) (L' := [some (.ref 83), some (.int (nI 10)), some (.int (nI 0)), some (.int x), some (.int (nI (1 + dep)))]) (st' := [.int (nI 10)]) (σ' := (apt 84 83 0 α b [10], δ)) (pc' := 1) kX9_runBody_0 rfl rfl rf_a0 ?_
    refine ok_lkk (q := (10, 107)) (t := 108) bX9_runBody_1 (by decide) (by decide) (by decide) (by decide) ?_
    refine ok_step (ps := []) (L' := [some (.ref 83), some (.int (nI 10)), some (.int (nI 0)), some (.int x), some (.int (nI (1 + dep)))]) (st' := [.int (x + ((apt 84 83 0 α b [10]) 83 3))]) (σ' := (apt 84 83 0 α b [10], δ)) (pc' := 114) kX9_runBody_108 rfl rfl rf_a0 ?_
    try rw [(show (apt 84 83 0 α b [10]) 83 3 = nu from (apt_f (by decide) (by decide)).trans hn)]
    refine ok_reti eX9_runBody_114 rfl ?_
    exact ⟨rfl, rfl⟩
  refine ok_V (As := [.int (nI 10), .int (nI 0), .int x, .int (nI (1 + dep))]) (b := 83) (st := []) mkX9_runBody qX9_speak_105 rfl (rc_83) rfl rfl rfl rfl (Nat.le_of_ble_eq_true rfl) (hc105) ?_
  refine ok_reti eX9_speak_108 rfl ?_
  exact ⟨rfl, rfl⟩
theorem cv1_1_1 {x : Int32} {b dep : Nat} (hk : α 83 2 = nI 1) (hn : α 83 3 = nu) (hm : α 83 4 = mn) (hb : α 83 0 = nI b) (hl : b + 2 ≤ 40) (hd : dep + 2 ≤ 30) : rf_At (rf_T Ln xs) MX9_speak 4 0 ([some (.ref 83), some (.int (nI 1)), some (.int (nI 1)), some (.int x), some (.int (nI dep)), none, none], [], 108, (α, δ)) (some (.int ((x + nu) * nI 2))) 108 (apt 84 83 0 α b [11, 10], δ) := by
  refine rf_pa ?_
  refine ok_step (ps := []) (L' := [some (.ref 83), some (.int (nI 1)), some (.int (nI 1)), some (.int x), some (.int (nI dep)), some (.int (nI 1)), some (.int (nI 0))]) (st' := []) (σ' := (α, δ)) (pc' := 6) kX9_speak_0 rfl rfl rf_a0 ?_
  refine ok_step (ps := []) (L' := [some (.ref 83), some (.int (nI 1)), some (.int (nI 1)), some (.int x), some (.int (nI dep)), some (.int (nI 1)), some (.int (nI 0))]) (st' := [.int (nI 8), .int (nI 0)]) (σ' := (α, δ)) (pc' := 10) kX9_speak_6 rfl rfl rf_a0 ?_
  refine ok_icmp_ge bX9_speak_10 (fun h10 => absurd h10 ((by decide))) (fun _ => ?_)
  refine ok_step (ps := [rf_in (((nI 1) * (nI 4)) + (nI 1)) 32]) (L' := [some (.ref 83), some (.int (nI 1)), some (.int (nI 1)), some (.int x), some (.int (nI dep)), some (.int (nI 1)), some (.int (nI 0))]) (st' := [.int (tBodies ((((nI 1) * (nI 4)) + (nI 1)).toNatClampNeg))]) (σ' := (α, δ)) (pc' := 23) kX9_speak_13 rfl rfl (rf_a1 (rf_in_n (a := 5) (by (try rw [(show ((nI 1) * (nI 4)) = nI 4 from rf_eq (rf_nmul (x := nI 1) (y := nI 4) rfl rfl) (by omega))]); (try rw [(show ((nI 4) + (nI 1)) = nI 5 from rf_eq (rf_nadd (x := nI 4) (y := nI 1) rfl rfl) (by omega))]); all_goals exact rfl) (by omega)) rf_a0) ?_
  try rw [(show ((nI 1) * (nI 4)) = nI 4 from rf_eq (rf_nmul (x := nI 1) (y := nI 4) rfl rfl) (by omega))]
  try rw [(show ((nI 4) + (nI 1)) = nI 5 from rf_eq (rf_nadd (x := nI 4) (y := nI 1) rfl rfl) (by omega))]
  try rw [(show (nI 5).toNatClampNeg = 5 from rf_cl_n rfl (by omega))]
  try rw [(show tBodies 5 = nI 0 from rfl)]
  refine ok_if_ne bX9_speak_23 (fun h23 => absurd ((by decide)) h23) (fun _ => ?_)
  refine ok_step (ps := [rf_in (nI 1) 8]) (L' := [some (.ref 83), some (.int (nI 1)), some (.int (nI 1)), some (.int x), some (.int (nI dep)), some (.int (tAbove ((nI 1).toNatClampNeg))), some (.int ((nI 0) + (nI 1)))]) (st' := []) (σ' := (α, δ)) (pc' := 37) kX9_speak_26 rfl rfl (rf_a1 (rf_in_n (a := 1) rfl (by omega)) rf_a0) ?_
  try rw [(show (nI 1).toNatClampNeg = 1 from rf_cl_n rfl (by omega))]
  try rw [(show tAbove 1 = nI 0 from rfl)]
  try rw [(show ((nI 0) + (nI 1)) = nI 1 from rf_eq (rf_nadd (x := nI 0) (y := nI 1) rfl rfl) (by omega))]
  refine ok_goto bX9_speak_37 ?_
  refine ok_step (ps := []) (L' := [some (.ref 83), some (.int (nI 1)), some (.int (nI 1)), some (.int x), some (.int (nI dep)), some (.int (nI 0)), some (.int (nI 1))]) (st' := [.int (nI 8), .int (nI 1)]) (σ' := (α, δ)) (pc' := 10) kX9_speak_6 rfl rfl rf_a0 ?_
  refine ok_icmp_ge bX9_speak_10 (fun h10 => absurd h10 ((by decide))) (fun _ => ?_)
  refine ok_step (ps := [rf_in (((nI 0) * (nI 4)) + (nI 1)) 32]) (L' := [some (.ref 83), some (.int (nI 1)), some (.int (nI 1)), some (.int x), some (.int (nI dep)), some (.int (nI 0)), some (.int (nI 1))]) (st' := [.int (tBodies ((((nI 0) * (nI 4)) + (nI 1)).toNatClampNeg))]) (σ' := (α, δ)) (pc' := 23) kX9_speak_13 rfl rfl (rf_a1 (rf_in_n (a := 1) (by (try rw [(show ((nI 0) * (nI 4)) = nI 0 from rf_eq (rf_nmul (x := nI 0) (y := nI 4) rfl rfl) (by omega))]); (try rw [(show ((nI 0) + (nI 1)) = nI 1 from rf_eq (rf_nadd (x := nI 0) (y := nI 1) rfl rfl) (by omega))]); all_goals exact rfl) (by omega)) rf_a0) ?_
  try rw [(show ((nI 0) * (nI 4)) = nI 0 from rf_eq (rf_nmul (x := nI 0) (y := nI 4) rfl rfl) (by omega))]
  try rw [(show ((nI 0) + (nI 1)) = nI 1 from rf_eq (rf_nadd (x := nI 0) (y := nI 1) rfl rfl) (by omega))]
  try rw [(show (nI 1).toNatClampNeg = 1 from rf_cl_n rfl (by omega))]
  try rw [(show tBodies 1 = nI 11 from rfl)]
  refine ok_if_ne bX9_speak_23 (fun _ => ?_) (fun h23 => absurd h23 ((by decide)))
  refine ok_step (ps := []) (L' := [some (.ref 83), some (.int (nI 1)), some (.int (nI 1)), some (.int x), some (.int (nI dep)), some (.int (nI 0)), some (.int (nI 1))]) (st' := [.int (nI 30), .int (nI dep)]) (σ' := (α, δ)) (pc' := 44) kX9_speak_40 rfl rfl rf_a0 ?_
  refine ok_icmp_le bX9_speak_44 (fun _ => ?_) (fun h44 => absurd (nI_le (by omega) (by omega)) h44)
  refine ok_step (ps := [rf_in (((nI 0) * (nI 4)) + (nI 1)) 32]) (L' := [some (.ref 83), some (.int (nI 1)), some (.int (nI 1)), some (.int x), some (.int (nI dep)), some (.int (nI 0)), some (.int (tBodies ((((nI 0) * (nI 4)) + (nI 1)).toNatClampNeg)))]) (st' := [.int (nI 40), .int (α 83 0)]) (σ' := (α, δ)) (pc' := 67) kX9_speak_49 rfl rfl (rf_a1 (rf_in_n (a := 1) (by (try rw [(show ((nI 0) * (nI 4)) = nI 0 from rf_eq (rf_nmul (x := nI 0) (y := nI 4) rfl rfl) (by omega))]); (try rw [(show ((nI 0) + (nI 1)) = nI 1 from rf_eq (rf_nadd (x := nI 0) (y := nI 1) rfl rfl) (by omega))]); all_goals exact rfl) (by omega)) rf_a0) ?_
  try rw [(show ((nI 0) * (nI 4)) = nI 0 from rf_eq (rf_nmul (x := nI 0) (y := nI 4) rfl rfl) (by omega))]
  try rw [(show ((nI 0) + (nI 1)) = nI 1 from rf_eq (rf_nadd (x := nI 0) (y := nI 1) rfl rfl) (by omega))]
  try rw [(show (nI 1).toNatClampNeg = 1 from rf_cl_n rfl (by omega))]
  try rw [(show tBodies 1 = nI 11 from rfl)]
  try rw [(show α 83 0 = nI b from hb)]
  refine ok_icmp_ge bX9_speak_67 (fun h67 => absurd h67 (nI_ge (by omega) (by omega))) (fun _ => ?_)
  refine ok_step (ps := [rf_in (α 83 0) 40]) (L' := [some (.ref 83), some (.int (nI 1)), some (.int (nI 1)), some (.int x), some (.int (nI dep)), some (.int (nI 0)), some (.int (nI 11))]) (st' := []) (σ' := (rf_w (rf_w α 84 ((α 83 0).toNatClampNeg) (nI 11)) 83 0 (((rf_w α 84 ((α 83 0).toNatClampNeg) (nI 11)) 83 0) + (nI 1)), δ)) (pc' := 91) kX9_speak_70 rfl rfl (rf_a1 (rf_in_n (a := b) (by (try rw [(show α 83 0 = nI b from hb)]); all_goals exact rfl) (by omega)) rf_a0) ?_
  try rw [(show α 83 0 = nI b from hb)]
  try rw [(show (nI b).toNatClampNeg = b from rf_cl_n rfl (by omega))]
  try rw [(show (rf_w α 84 b (nI 11)) 83 0 = α 83 0 from by rw [rf_w_at, if_neg (fun h => absurd h.1 (by decide))])]
  try rw [(show α 83 0 = nI b from hb)]
  try rw [(show ((nI b) + (nI 1)) = nI (1 + b) from rf_eq (rf_nadd (x := nI b) (y := nI 1) rfl rfl) (by omega))]
  rw [show rf_w (rf_w α 84 b (nI 11)) 83 0 (nI (1 + b)) = apt 84 83 0 α b [11] from apt_w (L := []) (by simp) (by omega)]
  refine ok_step (ps := [rf_in (nI 0) 8]) (L' := [some (.ref 83), some (.int (nI 1)), some (.int (nI 1)), some (.int x), some (.int (nI dep)), some (.int (nI 0)), some (.int (nI 11))]) (st' := [.int ((nI dep) + (nI 1)), .int x, .int (tAbove ((nI 0).toNatClampNeg)), .int (nI 11), .ref 83]) (σ' := (apt 84 83 0 α b [11], δ)) (pc' := 105) kX9_speak_91 rfl rfl (rf_a1 (rf_in_n (a := 0) rfl (by omega)) rf_a0) ?_
  try rw [(show (nI 0).toNatClampNeg = 0 from rf_cl_n rfl (by omega))]
  try rw [(show tAbove 0 = nI 0 from rfl)]
  try rw [(show ((nI dep) + (nI 1)) = nI (1 + dep) from rf_eq (rf_nadd (x := nI dep) (y := nI 1) rfl rfl) (by omega))]
  have hc105 : rf_At (rf_T Ln xs) MX9_runBody 3 0 ([some (.ref 83), some (.int (nI 11)), some (.int (nI 0)), some (.int x), some (.int (nI (1 + dep)))], [], 108, (apt 84 83 0 α b [11], δ)) (some (.int ((x + nu) * (nI 2)))) 108 (apt 84 83 0 α b [11, 10], δ) := by
    refine rf_pa ?_
    refine ok_step (ps := []) (L' := [some (.ref 83), some (.int (nI 11)), some (.int (nI 0)), some (.int x), some (.int (nI (1 + dep)))]) (st' := [.int (nI 11)]) (σ' := (apt 84 83 0 α b [11], δ)) (pc' := 1) kX9_runBody_0 rfl rfl rf_a0 ?_
    refine ok_lkk (q := (11, 114)) (t := 115) bX9_runBody_1 (by decide) (by decide) (by decide) (by decide) ?_
    refine ok_step (ps := []) (L' := [some (.ref 83), some (.int (nI 11)), some (.int (nI 0)), some (.int x), some (.int (nI (1 + dep)))]) (st' := [.int (nI (1 + dep)), .int x, .int (nI 0), .int ((apt 84 83 0 α b [11]) 83 2), .ref 83]) (σ' := (apt 84 83 0 α b [11], δ)) (pc' := 124) kX9_runBody_115 rfl rfl rf_a0 ?_
    try rw [(show (apt 84 83 0 α b [11]) 83 2 = nI 1 from (apt_f (by decide) (by decide)).trans hk)]
    refine ok_V (As := [.int (nI 1), .int (nI 0), .int x, .int (nI (1 + dep))]) (b := 83) (st := []) mkX9_speak qX9_runBody_124 rfl (rc_83) rfl rfl rfl rfl (Nat.le_of_ble_eq_true rfl) (cv1_0_1 (b := (1 + b)) (dep := (1 + dep)) ((apt_f (by decide) (by decide)).trans hk) ((apt_f (by decide) (by decide)).trans hn) ((apt_f (by decide) (by decide)).trans hm) (apt_0 (by decide) hb) (by omega) (by omega)) ?_
    rw [show apt 84 83 0 (apt 84 83 0 α b [11]) (1 + b) [10] = apt 84 83 0 α b [11, 10] from apt_app (by simp)]
    refine ok_step (ps := []) (L' := [some (.ref 83), some (.int (nI 11)), some (.int (nI 0)), some (.int x), some (.int (nI (1 + dep)))]) (st' := [.int ((x + nu) * (nI 2))]) (σ' := (apt 84 83 0 α b [11, 10], δ)) (pc' := 129) kX9_runBody_127 rfl rfl rf_a0 ?_
    refine ok_reti eX9_runBody_129 rfl ?_
    exact ⟨rfl, rfl⟩
  refine ok_V (As := [.int (nI 11), .int (nI 0), .int x, .int (nI (1 + dep))]) (b := 83) (st := []) mkX9_runBody qX9_speak_105 rfl (rc_83) rfl rfl rfl rfl (Nat.le_of_ble_eq_true rfl) (hc105) ?_
  refine ok_reti eX9_speak_108 rfl ?_
  exact ⟨rfl, rfl⟩
theorem cv1_2_1 {x : Int32} {b dep : Nat} (hk : α 83 2 = nI 1) (hn : α 83 3 = nu) (hm : α 83 4 = mn) (hb : α 83 0 = nI b) (hl : b + 1 ≤ 40) (hd : dep + 1 ≤ 30) : rf_At (rf_T Ln xs) MX9_speak 2 0 ([some (.ref 83), some (.int (nI 1)), some (.int (nI 2)), some (.int x), some (.int (nI dep)), none, none], [], 108, (α, δ)) (some (.int (x - mn))) 108 (apt 84 83 0 α b [12], δ) := by
  refine rf_pa ?_
  refine ok_step (ps := []) (L' := [some (.ref 83), some (.int (nI 1)), some (.int (nI 2)), some (.int x), some (.int (nI dep)), some (.int (nI 1)), some (.int (nI 0))]) (st' := []) (σ' := (α, δ)) (pc' := 6) kX9_speak_0 rfl rfl rf_a0 ?_
  refine ok_step (ps := []) (L' := [some (.ref 83), some (.int (nI 1)), some (.int (nI 2)), some (.int x), some (.int (nI dep)), some (.int (nI 1)), some (.int (nI 0))]) (st' := [.int (nI 8), .int (nI 0)]) (σ' := (α, δ)) (pc' := 10) kX9_speak_6 rfl rfl rf_a0 ?_
  refine ok_icmp_ge bX9_speak_10 (fun h10 => absurd h10 ((by decide))) (fun _ => ?_)
  refine ok_step (ps := [rf_in (((nI 1) * (nI 4)) + (nI 2)) 32]) (L' := [some (.ref 83), some (.int (nI 1)), some (.int (nI 2)), some (.int x), some (.int (nI dep)), some (.int (nI 1)), some (.int (nI 0))]) (st' := [.int (tBodies ((((nI 1) * (nI 4)) + (nI 2)).toNatClampNeg))]) (σ' := (α, δ)) (pc' := 23) kX9_speak_13 rfl rfl (rf_a1 (rf_in_n (a := 6) (by (try rw [(show ((nI 1) * (nI 4)) = nI 4 from rf_eq (rf_nmul (x := nI 1) (y := nI 4) rfl rfl) (by omega))]); (try rw [(show ((nI 4) + (nI 2)) = nI 6 from rf_eq (rf_nadd (x := nI 4) (y := nI 2) rfl rfl) (by omega))]); all_goals exact rfl) (by omega)) rf_a0) ?_
  try rw [(show ((nI 1) * (nI 4)) = nI 4 from rf_eq (rf_nmul (x := nI 1) (y := nI 4) rfl rfl) (by omega))]
  try rw [(show ((nI 4) + (nI 2)) = nI 6 from rf_eq (rf_nadd (x := nI 4) (y := nI 2) rfl rfl) (by omega))]
  try rw [(show (nI 6).toNatClampNeg = 6 from rf_cl_n rfl (by omega))]
  try rw [(show tBodies 6 = nI 0 from rfl)]
  refine ok_if_ne bX9_speak_23 (fun h23 => absurd ((by decide)) h23) (fun _ => ?_)
  refine ok_step (ps := [rf_in (nI 1) 8]) (L' := [some (.ref 83), some (.int (nI 1)), some (.int (nI 2)), some (.int x), some (.int (nI dep)), some (.int (tAbove ((nI 1).toNatClampNeg))), some (.int ((nI 0) + (nI 1)))]) (st' := []) (σ' := (α, δ)) (pc' := 37) kX9_speak_26 rfl rfl (rf_a1 (rf_in_n (a := 1) rfl (by omega)) rf_a0) ?_
  try rw [(show (nI 1).toNatClampNeg = 1 from rf_cl_n rfl (by omega))]
  try rw [(show tAbove 1 = nI 0 from rfl)]
  try rw [(show ((nI 0) + (nI 1)) = nI 1 from rf_eq (rf_nadd (x := nI 0) (y := nI 1) rfl rfl) (by omega))]
  refine ok_goto bX9_speak_37 ?_
  refine ok_step (ps := []) (L' := [some (.ref 83), some (.int (nI 1)), some (.int (nI 2)), some (.int x), some (.int (nI dep)), some (.int (nI 0)), some (.int (nI 1))]) (st' := [.int (nI 8), .int (nI 1)]) (σ' := (α, δ)) (pc' := 10) kX9_speak_6 rfl rfl rf_a0 ?_
  refine ok_icmp_ge bX9_speak_10 (fun h10 => absurd h10 ((by decide))) (fun _ => ?_)
  refine ok_step (ps := [rf_in (((nI 0) * (nI 4)) + (nI 2)) 32]) (L' := [some (.ref 83), some (.int (nI 1)), some (.int (nI 2)), some (.int x), some (.int (nI dep)), some (.int (nI 0)), some (.int (nI 1))]) (st' := [.int (tBodies ((((nI 0) * (nI 4)) + (nI 2)).toNatClampNeg))]) (σ' := (α, δ)) (pc' := 23) kX9_speak_13 rfl rfl (rf_a1 (rf_in_n (a := 2) (by (try rw [(show ((nI 0) * (nI 4)) = nI 0 from rf_eq (rf_nmul (x := nI 0) (y := nI 4) rfl rfl) (by omega))]); (try rw [(show ((nI 0) + (nI 2)) = nI 2 from rf_eq (rf_nadd (x := nI 0) (y := nI 2) rfl rfl) (by omega))]); all_goals exact rfl) (by omega)) rf_a0) ?_
  try rw [(show ((nI 0) * (nI 4)) = nI 0 from rf_eq (rf_nmul (x := nI 0) (y := nI 4) rfl rfl) (by omega))]
  try rw [(show ((nI 0) + (nI 2)) = nI 2 from rf_eq (rf_nadd (x := nI 0) (y := nI 2) rfl rfl) (by omega))]
  try rw [(show (nI 2).toNatClampNeg = 2 from rf_cl_n rfl (by omega))]
  try rw [(show tBodies 2 = nI 12 from rfl)]
  refine ok_if_ne bX9_speak_23 (fun _ => ?_) (fun h23 => absurd h23 ((by decide)))
  refine ok_step (ps := []) (L' := [some (.ref 83), some (.int (nI 1)), some (.int (nI 2)), some (.int x), some (.int (nI dep)), some (.int (nI 0)), some (.int (nI 1))]) (st' := [.int (nI 30), .int (nI dep)]) (σ' := (α, δ)) (pc' := 44) kX9_speak_40 rfl rfl rf_a0 ?_
  refine ok_icmp_le bX9_speak_44 (fun _ => ?_) (fun h44 => absurd (nI_le (by omega) (by omega)) h44)
  refine ok_step (ps := [rf_in (((nI 0) * (nI 4)) + (nI 2)) 32]) (L' := [some (.ref 83), some (.int (nI 1)), some (.int (nI 2)), some (.int x), some (.int (nI dep)), some (.int (nI 0)), some (.int (tBodies ((((nI 0) * (nI 4)) + (nI 2)).toNatClampNeg)))]) (st' := [.int (nI 40), .int (α 83 0)]) (σ' := (α, δ)) (pc' := 67) kX9_speak_49 rfl rfl (rf_a1 (rf_in_n (a := 2) (by (try rw [(show ((nI 0) * (nI 4)) = nI 0 from rf_eq (rf_nmul (x := nI 0) (y := nI 4) rfl rfl) (by omega))]); (try rw [(show ((nI 0) + (nI 2)) = nI 2 from rf_eq (rf_nadd (x := nI 0) (y := nI 2) rfl rfl) (by omega))]); all_goals exact rfl) (by omega)) rf_a0) ?_
  try rw [(show ((nI 0) * (nI 4)) = nI 0 from rf_eq (rf_nmul (x := nI 0) (y := nI 4) rfl rfl) (by omega))]
  try rw [(show ((nI 0) + (nI 2)) = nI 2 from rf_eq (rf_nadd (x := nI 0) (y := nI 2) rfl rfl) (by omega))]
  try rw [(show (nI 2).toNatClampNeg = 2 from rf_cl_n rfl (by omega))]
  try rw [(show tBodies 2 = nI 12 from rfl)]
  try rw [(show α 83 0 = nI b from hb)]
  refine ok_icmp_ge bX9_speak_67 (fun h67 => absurd h67 (nI_ge (by omega) (by omega))) (fun _ => ?_)
  refine ok_step (ps := [rf_in (α 83 0) 40]) (L' := [some (.ref 83), some (.int (nI 1)), some (.int (nI 2)), some (.int x), some (.int (nI dep)), some (.int (nI 0)), some (.int (nI 12))]) (st' := []) (σ' := (rf_w (rf_w α 84 ((α 83 0).toNatClampNeg) (nI 12)) 83 0 (((rf_w α 84 ((α 83 0).toNatClampNeg) (nI 12)) 83 0) + (nI 1)), δ)) (pc' := 91) kX9_speak_70 rfl rfl (rf_a1 (rf_in_n (a := b) (by (try rw [(show α 83 0 = nI b from hb)]); all_goals exact rfl) (by omega)) rf_a0) ?_
  try rw [(show α 83 0 = nI b from hb)]
  try rw [(show (nI b).toNatClampNeg = b from rf_cl_n rfl (by omega))]
  try rw [(show (rf_w α 84 b (nI 12)) 83 0 = α 83 0 from by rw [rf_w_at, if_neg (fun h => absurd h.1 (by decide))])]
  try rw [(show α 83 0 = nI b from hb)]
  try rw [(show ((nI b) + (nI 1)) = nI (1 + b) from rf_eq (rf_nadd (x := nI b) (y := nI 1) rfl rfl) (by omega))]
  rw [show rf_w (rf_w α 84 b (nI 12)) 83 0 (nI (1 + b)) = apt 84 83 0 α b [12] from apt_w (L := []) (by simp) (by omega)]
  refine ok_step (ps := [rf_in (nI 0) 8]) (L' := [some (.ref 83), some (.int (nI 1)), some (.int (nI 2)), some (.int x), some (.int (nI dep)), some (.int (nI 0)), some (.int (nI 12))]) (st' := [.int ((nI dep) + (nI 1)), .int x, .int (tAbove ((nI 0).toNatClampNeg)), .int (nI 12), .ref 83]) (σ' := (apt 84 83 0 α b [12], δ)) (pc' := 105) kX9_speak_91 rfl rfl (rf_a1 (rf_in_n (a := 0) rfl (by omega)) rf_a0) ?_
  try rw [(show (nI 0).toNatClampNeg = 0 from rf_cl_n rfl (by omega))]
  try rw [(show tAbove 0 = nI 0 from rfl)]
  try rw [(show ((nI dep) + (nI 1)) = nI (1 + dep) from rf_eq (rf_nadd (x := nI dep) (y := nI 1) rfl rfl) (by omega))]
  have hc105 : rf_At (rf_T Ln xs) MX9_runBody 1 0 ([some (.ref 83), some (.int (nI 12)), some (.int (nI 0)), some (.int x), some (.int (nI (1 + dep)))], [], 108, (apt 84 83 0 α b [12], δ)) (some (.int (x - mn))) 108 (apt 84 83 0 α b [12], δ) := by
    refine rf_pa ?_
    refine ok_step (ps := []) (L' := [some (.ref 83), some (.int (nI 12)), some (.int (nI 0)), some (.int x), some (.int (nI (1 + dep)))]) (st' := [.int (nI 12)]) (σ' := (apt 84 83 0 α b [12], δ)) (pc' := 1) kX9_runBody_0 rfl rfl rf_a0 ?_
    refine ok_lkk (q := (12, 129)) (t := 130) bX9_runBody_1 (by decide) (by decide) (by decide) (by decide) ?_
    refine ok_step (ps := []) (L' := [some (.ref 83), some (.int (nI 12)), some (.int (nI 0)), some (.int x), some (.int (nI (1 + dep)))]) (st' := [.int (x - ((apt 84 83 0 α b [12]) 83 4))]) (σ' := (apt 84 83 0 α b [12], δ)) (pc' := 136) kX9_runBody_130 rfl rfl rf_a0 ?_
    try rw [(show (apt 84 83 0 α b [12]) 83 4 = mn from (apt_f (by decide) (by decide)).trans hm)]
    refine ok_reti eX9_runBody_136 rfl ?_
    exact ⟨rfl, rfl⟩
  refine ok_V (As := [.int (nI 12), .int (nI 0), .int x, .int (nI (1 + dep))]) (b := 83) (st := []) mkX9_runBody qX9_speak_105 rfl (rc_83) rfl rfl rfl rfl (Nat.le_of_ble_eq_true rfl) (hc105) ?_
  refine ok_reti eX9_speak_108 rfl ?_
  exact ⟨rfl, rfl⟩
theorem cv1_3_0 {x : Int32} {b dep : Nat} (hk : α 83 2 = nI 1) (hn : α 83 3 = nu) (hm : α 83 4 = mn) (hb : α 83 0 = nI b) (hl : b + 4 ≤ 40) (hd : dep + 3 ≤ 30) : rf_At (rf_T Ln xs) MX9_speak 6 0 ([some (.ref 83), some (.int (nI 0)), some (.int (nI 3)), some (.int x), some (.int (nI dep)), none, none], [], 108, (α, δ)) (some (.int (((x + nu) * nI 2) ^^^ (x - mn)))) 108 (apt 84 83 0 α b [13, 11, 10, 12], δ) := by
  refine rf_pa ?_
  refine ok_step (ps := []) (L' := [some (.ref 83), some (.int (nI 0)), some (.int (nI 3)), some (.int x), some (.int (nI dep)), some (.int (nI 0)), some (.int (nI 0))]) (st' := []) (σ' := (α, δ)) (pc' := 6) kX9_speak_0 rfl rfl rf_a0 ?_
  refine ok_step (ps := []) (L' := [some (.ref 83), some (.int (nI 0)), some (.int (nI 3)), some (.int x), some (.int (nI dep)), some (.int (nI 0)), some (.int (nI 0))]) (st' := [.int (nI 8), .int (nI 0)]) (σ' := (α, δ)) (pc' := 10) kX9_speak_6 rfl rfl rf_a0 ?_
  refine ok_icmp_ge bX9_speak_10 (fun h10 => absurd h10 ((by decide))) (fun _ => ?_)
  refine ok_step (ps := [rf_in (((nI 0) * (nI 4)) + (nI 3)) 32]) (L' := [some (.ref 83), some (.int (nI 0)), some (.int (nI 3)), some (.int x), some (.int (nI dep)), some (.int (nI 0)), some (.int (nI 0))]) (st' := [.int (tBodies ((((nI 0) * (nI 4)) + (nI 3)).toNatClampNeg))]) (σ' := (α, δ)) (pc' := 23) kX9_speak_13 rfl rfl (rf_a1 (rf_in_n (a := 3) (by (try rw [(show ((nI 0) * (nI 4)) = nI 0 from rf_eq (rf_nmul (x := nI 0) (y := nI 4) rfl rfl) (by omega))]); (try rw [(show ((nI 0) + (nI 3)) = nI 3 from rf_eq (rf_nadd (x := nI 0) (y := nI 3) rfl rfl) (by omega))]); all_goals exact rfl) (by omega)) rf_a0) ?_
  try rw [(show ((nI 0) * (nI 4)) = nI 0 from rf_eq (rf_nmul (x := nI 0) (y := nI 4) rfl rfl) (by omega))]
  try rw [(show ((nI 0) + (nI 3)) = nI 3 from rf_eq (rf_nadd (x := nI 0) (y := nI 3) rfl rfl) (by omega))]
  try rw [(show (nI 3).toNatClampNeg = 3 from rf_cl_n rfl (by omega))]
  try rw [(show tBodies 3 = nI 13 from rfl)]
  refine ok_if_ne bX9_speak_23 (fun _ => ?_) (fun h23 => absurd h23 ((by decide)))
  refine ok_step (ps := []) (L' := [some (.ref 83), some (.int (nI 0)), some (.int (nI 3)), some (.int x), some (.int (nI dep)), some (.int (nI 0)), some (.int (nI 0))]) (st' := [.int (nI 30), .int (nI dep)]) (σ' := (α, δ)) (pc' := 44) kX9_speak_40 rfl rfl rf_a0 ?_
  refine ok_icmp_le bX9_speak_44 (fun _ => ?_) (fun h44 => absurd (nI_le (by omega) (by omega)) h44)
  refine ok_step (ps := [rf_in (((nI 0) * (nI 4)) + (nI 3)) 32]) (L' := [some (.ref 83), some (.int (nI 0)), some (.int (nI 3)), some (.int x), some (.int (nI dep)), some (.int (nI 0)), some (.int (tBodies ((((nI 0) * (nI 4)) + (nI 3)).toNatClampNeg)))]) (st' := [.int (nI 40), .int (α 83 0)]) (σ' := (α, δ)) (pc' := 67) kX9_speak_49 rfl rfl (rf_a1 (rf_in_n (a := 3) (by (try rw [(show ((nI 0) * (nI 4)) = nI 0 from rf_eq (rf_nmul (x := nI 0) (y := nI 4) rfl rfl) (by omega))]); (try rw [(show ((nI 0) + (nI 3)) = nI 3 from rf_eq (rf_nadd (x := nI 0) (y := nI 3) rfl rfl) (by omega))]); all_goals exact rfl) (by omega)) rf_a0) ?_
  try rw [(show ((nI 0) * (nI 4)) = nI 0 from rf_eq (rf_nmul (x := nI 0) (y := nI 4) rfl rfl) (by omega))]
  try rw [(show ((nI 0) + (nI 3)) = nI 3 from rf_eq (rf_nadd (x := nI 0) (y := nI 3) rfl rfl) (by omega))]
  try rw [(show (nI 3).toNatClampNeg = 3 from rf_cl_n rfl (by omega))]
  try rw [(show tBodies 3 = nI 13 from rfl)]
  try rw [(show α 83 0 = nI b from hb)]
  refine ok_icmp_ge bX9_speak_67 (fun h67 => absurd h67 (nI_ge (by omega) (by omega))) (fun _ => ?_)
  refine ok_step (ps := [rf_in (α 83 0) 40]) (L' := [some (.ref 83), some (.int (nI 0)), some (.int (nI 3)), some (.int x), some (.int (nI dep)), some (.int (nI 0)), some (.int (nI 13))]) (st' := []) (σ' := (rf_w (rf_w α 84 ((α 83 0).toNatClampNeg) (nI 13)) 83 0 (((rf_w α 84 ((α 83 0).toNatClampNeg) (nI 13)) 83 0) + (nI 1)), δ)) (pc' := 91) kX9_speak_70 rfl rfl (rf_a1 (rf_in_n (a := b) (by (try rw [(show α 83 0 = nI b from hb)]); all_goals exact rfl) (by omega)) rf_a0) ?_
  try rw [(show α 83 0 = nI b from hb)]
  try rw [(show (nI b).toNatClampNeg = b from rf_cl_n rfl (by omega))]
  try rw [(show (rf_w α 84 b (nI 13)) 83 0 = α 83 0 from by rw [rf_w_at, if_neg (fun h => absurd h.1 (by decide))])]
  try rw [(show α 83 0 = nI b from hb)]
  try rw [(show ((nI b) + (nI 1)) = nI (1 + b) from rf_eq (rf_nadd (x := nI b) (y := nI 1) rfl rfl) (by omega))]
  rw [show rf_w (rf_w α 84 b (nI 13)) 83 0 (nI (1 + b)) = apt 84 83 0 α b [13] from apt_w (L := []) (by simp) (by omega)]
  refine ok_step (ps := [rf_in (nI 0) 8]) (L' := [some (.ref 83), some (.int (nI 0)), some (.int (nI 3)), some (.int x), some (.int (nI dep)), some (.int (nI 0)), some (.int (nI 13))]) (st' := [.int ((nI dep) + (nI 1)), .int x, .int (tAbove ((nI 0).toNatClampNeg)), .int (nI 13), .ref 83]) (σ' := (apt 84 83 0 α b [13], δ)) (pc' := 105) kX9_speak_91 rfl rfl (rf_a1 (rf_in_n (a := 0) rfl (by omega)) rf_a0) ?_
  try rw [(show (nI 0).toNatClampNeg = 0 from rf_cl_n rfl (by omega))]
  try rw [(show tAbove 0 = nI 0 from rfl)]
  try rw [(show ((nI dep) + (nI 1)) = nI (1 + dep) from rf_eq (rf_nadd (x := nI dep) (y := nI 1) rfl rfl) (by omega))]
  have hc105 : rf_At (rf_T Ln xs) MX9_runBody 5 0 ([some (.ref 83), some (.int (nI 13)), some (.int (nI 0)), some (.int x), some (.int (nI (1 + dep)))], [], 108, (apt 84 83 0 α b [13], δ)) (some (.int (((x + nu) * nI 2) ^^^ (x - mn)))) 108 (apt 84 83 0 α b [13, 11, 10, 12], δ) := by
    refine rf_pa ?_
    refine ok_step (ps := []) (L' := [some (.ref 83), some (.int (nI 13)), some (.int (nI 0)), some (.int x), some (.int (nI (1 + dep)))]) (st' := [.int (nI 13)]) (σ' := (apt 84 83 0 α b [13], δ)) (pc' := 1) kX9_runBody_0 rfl rfl rf_a0 ?_
    refine ok_lkk (q := (13, 136)) (t := 137) bX9_runBody_1 (by decide) (by decide) (by decide) (by decide) ?_
    refine ok_step (ps := []) (L' := [some (.ref 83), some (.int (nI 13)), some (.int (nI 0)), some (.int x), some (.int (nI (1 + dep)))]) (st' := [.int (nI (1 + dep)), .int x, .int (nI 1), .int ((apt 84 83 0 α b [13]) 83 2), .ref 83]) (σ' := (apt 84 83 0 α b [13], δ)) (pc' := 146) kX9_runBody_137 rfl rfl rf_a0 ?_
    try rw [(show (apt 84 83 0 α b [13]) 83 2 = nI 1 from (apt_f (by decide) (by decide)).trans hk)]
    refine ok_V (As := [.int (nI 1), .int (nI 1), .int x, .int (nI (1 + dep))]) (b := 83) (st := []) mkX9_speak qX9_runBody_146 rfl (rc_83) rfl rfl rfl rfl (Nat.le_of_ble_eq_true rfl) (cv1_1_1 (b := (1 + b)) (dep := (1 + dep)) ((apt_f (by decide) (by decide)).trans hk) ((apt_f (by decide) (by decide)).trans hn) ((apt_f (by decide) (by decide)).trans hm) (apt_0 (by decide) hb) (by omega) (by omega)) ?_
    rw [show apt 84 83 0 (apt 84 83 0 α b [13]) (1 + b) [11, 10] = apt 84 83 0 α b [13, 11, 10] from apt_app (by simp)]
    refine ok_step (ps := []) (L' := [some (.ref 83), some (.int (nI 13)), some (.int (nI 0)), some (.int x), some (.int (nI (1 + dep)))]) (st' := [.int (nI (1 + dep)), .int x, .int (nI 2), .int ((apt 84 83 0 α b [13, 11, 10]) 83 2), .ref 83, .int ((x + nu) * nI 2)]) (σ' := (apt 84 83 0 α b [13, 11, 10], δ)) (pc' := 158) kX9_runBody_149 rfl rfl rf_a0 ?_
    try rw [(show (apt 84 83 0 α b [13, 11, 10]) 83 2 = nI 1 from (apt_f (by decide) (by decide)).trans hk)]
    refine ok_V (As := [.int (nI 1), .int (nI 2), .int x, .int (nI (1 + dep))]) (b := 83) (st := [.int ((x + nu) * nI 2)]) mkX9_speak qX9_runBody_158 rfl (rc_83) rfl rfl rfl rfl (Nat.le_of_ble_eq_true rfl) (cv1_2_1 (b := (3 + b)) (dep := (1 + dep)) ((apt_f (by decide) (by decide)).trans hk) ((apt_f (by decide) (by decide)).trans hn) ((apt_f (by decide) (by decide)).trans hm) (apt_0 (by decide) hb) (by omega) (by omega)) ?_
    rw [show apt 84 83 0 (apt 84 83 0 α b [13, 11, 10]) (3 + b) [12] = apt 84 83 0 α b [13, 11, 10, 12] from apt_app (by simp)]
    refine ok_step (ps := []) (L' := [some (.ref 83), some (.int (nI 13)), some (.int (nI 0)), some (.int x), some (.int (nI (1 + dep)))]) (st' := [.int (((x + nu) * nI 2) ^^^ (x - mn))]) (σ' := (apt 84 83 0 α b [13, 11, 10, 12], δ)) (pc' := 162) kX9_runBody_161 rfl rfl rf_a0 ?_
    refine ok_reti eX9_runBody_162 rfl ?_
    exact ⟨rfl, rfl⟩
  refine ok_V (As := [.int (nI 13), .int (nI 0), .int x, .int (nI (1 + dep))]) (b := 83) (st := []) mkX9_runBody qX9_speak_105 rfl (rc_83) rfl rfl rfl rfl (Nat.le_of_ble_eq_true rfl) (hc105) ?_
  refine ok_reti eX9_speak_108 rfl ?_
  exact ⟨rfl, rfl⟩
theorem cv1_3_1 {x : Int32} {b dep : Nat} (hk : α 83 2 = nI 1) (hn : α 83 3 = nu) (hm : α 83 4 = mn) (hb : α 83 0 = nI b) (hl : b + 5 ≤ 40) (hd : dep + 4 ≤ 30) : rf_At (rf_T Ln xs) MX9_speak 8 0 ([some (.ref 83), some (.int (nI 1)), some (.int (nI 3)), some (.int x), some (.int (nI dep)), none, none], [], 108, (α, δ)) (some (.int ((((x + nu) * nI 2) ^^^ (x - mn)) + nI 1))) 108 (apt 84 83 0 α b [20, 13, 11, 10, 12], δ) := by
  refine rf_pa ?_
  refine ok_step (ps := []) (L' := [some (.ref 83), some (.int (nI 1)), some (.int (nI 3)), some (.int x), some (.int (nI dep)), some (.int (nI 1)), some (.int (nI 0))]) (st' := []) (σ' := (α, δ)) (pc' := 6) kX9_speak_0 rfl rfl rf_a0 ?_
  refine ok_step (ps := []) (L' := [some (.ref 83), some (.int (nI 1)), some (.int (nI 3)), some (.int x), some (.int (nI dep)), some (.int (nI 1)), some (.int (nI 0))]) (st' := [.int (nI 8), .int (nI 0)]) (σ' := (α, δ)) (pc' := 10) kX9_speak_6 rfl rfl rf_a0 ?_
  refine ok_icmp_ge bX9_speak_10 (fun h10 => absurd h10 ((by decide))) (fun _ => ?_)
  refine ok_step (ps := [rf_in (((nI 1) * (nI 4)) + (nI 3)) 32]) (L' := [some (.ref 83), some (.int (nI 1)), some (.int (nI 3)), some (.int x), some (.int (nI dep)), some (.int (nI 1)), some (.int (nI 0))]) (st' := [.int (tBodies ((((nI 1) * (nI 4)) + (nI 3)).toNatClampNeg))]) (σ' := (α, δ)) (pc' := 23) kX9_speak_13 rfl rfl (rf_a1 (rf_in_n (a := 7) (by (try rw [(show ((nI 1) * (nI 4)) = nI 4 from rf_eq (rf_nmul (x := nI 1) (y := nI 4) rfl rfl) (by omega))]); (try rw [(show ((nI 4) + (nI 3)) = nI 7 from rf_eq (rf_nadd (x := nI 4) (y := nI 3) rfl rfl) (by omega))]); all_goals exact rfl) (by omega)) rf_a0) ?_
  try rw [(show ((nI 1) * (nI 4)) = nI 4 from rf_eq (rf_nmul (x := nI 1) (y := nI 4) rfl rfl) (by omega))]
  try rw [(show ((nI 4) + (nI 3)) = nI 7 from rf_eq (rf_nadd (x := nI 4) (y := nI 3) rfl rfl) (by omega))]
  try rw [(show (nI 7).toNatClampNeg = 7 from rf_cl_n rfl (by omega))]
  try rw [(show tBodies 7 = nI 20 from rfl)]
  refine ok_if_ne bX9_speak_23 (fun _ => ?_) (fun h23 => absurd h23 ((by decide)))
  refine ok_step (ps := []) (L' := [some (.ref 83), some (.int (nI 1)), some (.int (nI 3)), some (.int x), some (.int (nI dep)), some (.int (nI 1)), some (.int (nI 0))]) (st' := [.int (nI 30), .int (nI dep)]) (σ' := (α, δ)) (pc' := 44) kX9_speak_40 rfl rfl rf_a0 ?_
  refine ok_icmp_le bX9_speak_44 (fun _ => ?_) (fun h44 => absurd (nI_le (by omega) (by omega)) h44)
  refine ok_step (ps := [rf_in (((nI 1) * (nI 4)) + (nI 3)) 32]) (L' := [some (.ref 83), some (.int (nI 1)), some (.int (nI 3)), some (.int x), some (.int (nI dep)), some (.int (nI 1)), some (.int (tBodies ((((nI 1) * (nI 4)) + (nI 3)).toNatClampNeg)))]) (st' := [.int (nI 40), .int (α 83 0)]) (σ' := (α, δ)) (pc' := 67) kX9_speak_49 rfl rfl (rf_a1 (rf_in_n (a := 7) (by (try rw [(show ((nI 1) * (nI 4)) = nI 4 from rf_eq (rf_nmul (x := nI 1) (y := nI 4) rfl rfl) (by omega))]); (try rw [(show ((nI 4) + (nI 3)) = nI 7 from rf_eq (rf_nadd (x := nI 4) (y := nI 3) rfl rfl) (by omega))]); all_goals exact rfl) (by omega)) rf_a0) ?_
  try rw [(show ((nI 1) * (nI 4)) = nI 4 from rf_eq (rf_nmul (x := nI 1) (y := nI 4) rfl rfl) (by omega))]
  try rw [(show ((nI 4) + (nI 3)) = nI 7 from rf_eq (rf_nadd (x := nI 4) (y := nI 3) rfl rfl) (by omega))]
  try rw [(show (nI 7).toNatClampNeg = 7 from rf_cl_n rfl (by omega))]
  try rw [(show tBodies 7 = nI 20 from rfl)]
  try rw [(show α 83 0 = nI b from hb)]
  refine ok_icmp_ge bX9_speak_67 (fun h67 => absurd h67 (nI_ge (by omega) (by omega))) (fun _ => ?_)
  refine ok_step (ps := [rf_in (α 83 0) 40]) (L' := [some (.ref 83), some (.int (nI 1)), some (.int (nI 3)), some (.int x), some (.int (nI dep)), some (.int (nI 1)), some (.int (nI 20))]) (st' := []) (σ' := (rf_w (rf_w α 84 ((α 83 0).toNatClampNeg) (nI 20)) 83 0 (((rf_w α 84 ((α 83 0).toNatClampNeg) (nI 20)) 83 0) + (nI 1)), δ)) (pc' := 91) kX9_speak_70 rfl rfl (rf_a1 (rf_in_n (a := b) (by (try rw [(show α 83 0 = nI b from hb)]); all_goals exact rfl) (by omega)) rf_a0) ?_
  try rw [(show α 83 0 = nI b from hb)]
  try rw [(show (nI b).toNatClampNeg = b from rf_cl_n rfl (by omega))]
  try rw [(show (rf_w α 84 b (nI 20)) 83 0 = α 83 0 from by rw [rf_w_at, if_neg (fun h => absurd h.1 (by decide))])]
  try rw [(show α 83 0 = nI b from hb)]
  try rw [(show ((nI b) + (nI 1)) = nI (1 + b) from rf_eq (rf_nadd (x := nI b) (y := nI 1) rfl rfl) (by omega))]
  rw [show rf_w (rf_w α 84 b (nI 20)) 83 0 (nI (1 + b)) = apt 84 83 0 α b [20] from apt_w (L := []) (by simp) (by omega)]
  refine ok_step (ps := [rf_in (nI 1) 8]) (L' := [some (.ref 83), some (.int (nI 1)), some (.int (nI 3)), some (.int x), some (.int (nI dep)), some (.int (nI 1)), some (.int (nI 20))]) (st' := [.int ((nI dep) + (nI 1)), .int x, .int (tAbove ((nI 1).toNatClampNeg)), .int (nI 20), .ref 83]) (σ' := (apt 84 83 0 α b [20], δ)) (pc' := 105) kX9_speak_91 rfl rfl (rf_a1 (rf_in_n (a := 1) rfl (by omega)) rf_a0) ?_
  try rw [(show (nI 1).toNatClampNeg = 1 from rf_cl_n rfl (by omega))]
  try rw [(show tAbove 1 = nI 0 from rfl)]
  try rw [(show ((nI dep) + (nI 1)) = nI (1 + dep) from rf_eq (rf_nadd (x := nI dep) (y := nI 1) rfl rfl) (by omega))]
  have hc105 : rf_At (rf_T Ln xs) MX9_runBody 7 0 ([some (.ref 83), some (.int (nI 20)), some (.int (nI 0)), some (.int x), some (.int (nI (1 + dep)))], [], 108, (apt 84 83 0 α b [20], δ)) (some (.int ((((x + nu) * nI 2) ^^^ (x - mn)) + (nI 1)))) 108 (apt 84 83 0 α b [20, 13, 11, 10, 12], δ) := by
    refine rf_pa ?_
    refine ok_step (ps := []) (L' := [some (.ref 83), some (.int (nI 20)), some (.int (nI 0)), some (.int x), some (.int (nI (1 + dep)))]) (st' := [.int (nI 20)]) (σ' := (apt 84 83 0 α b [20], δ)) (pc' := 1) kX9_runBody_0 rfl rfl rf_a0 ?_
    refine ok_lkk (q := (20, 162)) (t := 163) bX9_runBody_1 (by decide) (by decide) (by decide) (by decide) ?_
    refine ok_step (ps := []) (L' := [some (.ref 83), some (.int (nI 20)), some (.int (nI 0)), some (.int x), some (.int (nI (1 + dep)))]) (st' := [.int (nI (1 + dep)), .int x, .int (nI 3), .int (nI 0), .ref 83]) (σ' := (apt 84 83 0 α b [20], δ)) (pc' := 169) kX9_runBody_163 rfl rfl rf_a0 ?_
    refine ok_V (As := [.int (nI 0), .int (nI 3), .int x, .int (nI (1 + dep))]) (b := 83) (st := []) mkX9_speak qX9_runBody_169 rfl (rc_83) rfl rfl rfl rfl (Nat.le_of_ble_eq_true rfl) (cv1_3_0 (b := (1 + b)) (dep := (1 + dep)) ((apt_f (by decide) (by decide)).trans hk) ((apt_f (by decide) (by decide)).trans hn) ((apt_f (by decide) (by decide)).trans hm) (apt_0 (by decide) hb) (by omega) (by omega)) ?_
    rw [show apt 84 83 0 (apt 84 83 0 α b [20]) (1 + b) [13, 11, 10, 12] = apt 84 83 0 α b [20, 13, 11, 10, 12] from apt_app (by simp)]
    refine ok_step (ps := []) (L' := [some (.ref 83), some (.int (nI 20)), some (.int (nI 0)), some (.int x), some (.int (nI (1 + dep)))]) (st' := [.int ((((x + nu) * nI 2) ^^^ (x - mn)) + (nI 1))]) (σ' := (apt 84 83 0 α b [20, 13, 11, 10, 12], δ)) (pc' := 174) kX9_runBody_172 rfl rfl rf_a0 ?_
    refine ok_reti eX9_runBody_174 rfl ?_
    exact ⟨rfl, rfl⟩
  refine ok_V (As := [.int (nI 20), .int (nI 0), .int x, .int (nI (1 + dep))]) (b := 83) (st := []) mkX9_runBody qX9_speak_105 rfl (rc_83) rfl rfl rfl rfl (Nat.le_of_ble_eq_true rfl) (hc105) ?_
  refine ok_reti eX9_speak_108 rfl ?_
  exact ⟨rfl, rfl⟩
theorem cv2_0_2 {x : Int32} {b dep : Nat} (hk : α 83 2 = nI 2) (hn : α 83 3 = nu) (hm : α 83 4 = mn) (hb : α 83 0 = nI b) (hl : b + 1 ≤ 40) (hd : dep + 1 ≤ 30) : rf_At (rf_T Ln xs) MX9_speak 2 0 ([some (.ref 83), some (.int (nI 2)), some (.int (nI 0)), some (.int x), some (.int (nI dep)), none, none], [], 108, (α, δ)) (some (.int (x + nu))) 108 (apt 84 83 0 α b [10], δ) := by
  refine rf_pa ?_
  refine ok_step (ps := []) (L' := [some (.ref 83), some (.int (nI 2)), some (.int (nI 0)), some (.int x), some (.int (nI dep)), some (.int (nI 2)), some (.int (nI 0))]) (st' := []) (σ' := (α, δ)) (pc' := 6) kX9_speak_0 rfl rfl rf_a0 ?_
  refine ok_step (ps := []) (L' := [some (.ref 83), some (.int (nI 2)), some (.int (nI 0)), some (.int x), some (.int (nI dep)), some (.int (nI 2)), some (.int (nI 0))]) (st' := [.int (nI 8), .int (nI 0)]) (σ' := (α, δ)) (pc' := 10) kX9_speak_6 rfl rfl rf_a0 ?_
  refine ok_icmp_ge bX9_speak_10 (fun h10 => absurd h10 ((by decide))) (fun _ => ?_)
  refine ok_step (ps := [rf_in (((nI 2) * (nI 4)) + (nI 0)) 32]) (L' := [some (.ref 83), some (.int (nI 2)), some (.int (nI 0)), some (.int x), some (.int (nI dep)), some (.int (nI 2)), some (.int (nI 0))]) (st' := [.int (tBodies ((((nI 2) * (nI 4)) + (nI 0)).toNatClampNeg))]) (σ' := (α, δ)) (pc' := 23) kX9_speak_13 rfl rfl (rf_a1 (rf_in_n (a := 8) (by (try rw [(show ((nI 2) * (nI 4)) = nI 8 from rf_eq (rf_nmul (x := nI 2) (y := nI 4) rfl rfl) (by omega))]); (try rw [(show ((nI 8) + (nI 0)) = nI 8 from rf_eq (rf_nadd (x := nI 8) (y := nI 0) rfl rfl) (by omega))]); all_goals exact rfl) (by omega)) rf_a0) ?_
  try rw [(show ((nI 2) * (nI 4)) = nI 8 from rf_eq (rf_nmul (x := nI 2) (y := nI 4) rfl rfl) (by omega))]
  try rw [(show ((nI 8) + (nI 0)) = nI 8 from rf_eq (rf_nadd (x := nI 8) (y := nI 0) rfl rfl) (by omega))]
  try rw [(show (nI 8).toNatClampNeg = 8 from rf_cl_n rfl (by omega))]
  try rw [(show tBodies 8 = nI 0 from rfl)]
  refine ok_if_ne bX9_speak_23 (fun h23 => absurd ((by decide)) h23) (fun _ => ?_)
  refine ok_step (ps := [rf_in (nI 2) 8]) (L' := [some (.ref 83), some (.int (nI 2)), some (.int (nI 0)), some (.int x), some (.int (nI dep)), some (.int (tAbove ((nI 2).toNatClampNeg))), some (.int ((nI 0) + (nI 1)))]) (st' := []) (σ' := (α, δ)) (pc' := 37) kX9_speak_26 rfl rfl (rf_a1 (rf_in_n (a := 2) rfl (by omega)) rf_a0) ?_
  try rw [(show (nI 2).toNatClampNeg = 2 from rf_cl_n rfl (by omega))]
  try rw [(show tAbove 2 = nI 0 from rfl)]
  try rw [(show ((nI 0) + (nI 1)) = nI 1 from rf_eq (rf_nadd (x := nI 0) (y := nI 1) rfl rfl) (by omega))]
  refine ok_goto bX9_speak_37 ?_
  refine ok_step (ps := []) (L' := [some (.ref 83), some (.int (nI 2)), some (.int (nI 0)), some (.int x), some (.int (nI dep)), some (.int (nI 0)), some (.int (nI 1))]) (st' := [.int (nI 8), .int (nI 1)]) (σ' := (α, δ)) (pc' := 10) kX9_speak_6 rfl rfl rf_a0 ?_
  refine ok_icmp_ge bX9_speak_10 (fun h10 => absurd h10 ((by decide))) (fun _ => ?_)
  refine ok_step (ps := [rf_in (((nI 0) * (nI 4)) + (nI 0)) 32]) (L' := [some (.ref 83), some (.int (nI 2)), some (.int (nI 0)), some (.int x), some (.int (nI dep)), some (.int (nI 0)), some (.int (nI 1))]) (st' := [.int (tBodies ((((nI 0) * (nI 4)) + (nI 0)).toNatClampNeg))]) (σ' := (α, δ)) (pc' := 23) kX9_speak_13 rfl rfl (rf_a1 (rf_in_n (a := 0) (by (try rw [(show ((nI 0) * (nI 4)) = nI 0 from rf_eq (rf_nmul (x := nI 0) (y := nI 4) rfl rfl) (by omega))]); (try rw [(show ((nI 0) + (nI 0)) = nI 0 from rf_eq (rf_nadd (x := nI 0) (y := nI 0) rfl rfl) (by omega))]); all_goals exact rfl) (by omega)) rf_a0) ?_
  try rw [(show ((nI 0) * (nI 4)) = nI 0 from rf_eq (rf_nmul (x := nI 0) (y := nI 4) rfl rfl) (by omega))]
  try rw [(show ((nI 0) + (nI 0)) = nI 0 from rf_eq (rf_nadd (x := nI 0) (y := nI 0) rfl rfl) (by omega))]
  try rw [(show (nI 0).toNatClampNeg = 0 from rf_cl_n rfl (by omega))]
  try rw [(show tBodies 0 = nI 10 from rfl)]
  refine ok_if_ne bX9_speak_23 (fun _ => ?_) (fun h23 => absurd h23 ((by decide)))
  refine ok_step (ps := []) (L' := [some (.ref 83), some (.int (nI 2)), some (.int (nI 0)), some (.int x), some (.int (nI dep)), some (.int (nI 0)), some (.int (nI 1))]) (st' := [.int (nI 30), .int (nI dep)]) (σ' := (α, δ)) (pc' := 44) kX9_speak_40 rfl rfl rf_a0 ?_
  refine ok_icmp_le bX9_speak_44 (fun _ => ?_) (fun h44 => absurd (nI_le (by omega) (by omega)) h44)
  refine ok_step (ps := [rf_in (((nI 0) * (nI 4)) + (nI 0)) 32]) (L' := [some (.ref 83), some (.int (nI 2)), some (.int (nI 0)), some (.int x), some (.int (nI dep)), some (.int (nI 0)), some (.int (tBodies ((((nI 0) * (nI 4)) + (nI 0)).toNatClampNeg)))]) (st' := [.int (nI 40), .int (α 83 0)]) (σ' := (α, δ)) (pc' := 67) kX9_speak_49 rfl rfl (rf_a1 (rf_in_n (a := 0) (by (try rw [(show ((nI 0) * (nI 4)) = nI 0 from rf_eq (rf_nmul (x := nI 0) (y := nI 4) rfl rfl) (by omega))]); (try rw [(show ((nI 0) + (nI 0)) = nI 0 from rf_eq (rf_nadd (x := nI 0) (y := nI 0) rfl rfl) (by omega))]); all_goals exact rfl) (by omega)) rf_a0) ?_
  try rw [(show ((nI 0) * (nI 4)) = nI 0 from rf_eq (rf_nmul (x := nI 0) (y := nI 4) rfl rfl) (by omega))]
  try rw [(show ((nI 0) + (nI 0)) = nI 0 from rf_eq (rf_nadd (x := nI 0) (y := nI 0) rfl rfl) (by omega))]
  try rw [(show (nI 0).toNatClampNeg = 0 from rf_cl_n rfl (by omega))]
  try rw [(show tBodies 0 = nI 10 from rfl)]
  try rw [(show α 83 0 = nI b from hb)]
  refine ok_icmp_ge bX9_speak_67 (fun h67 => absurd h67 (nI_ge (by omega) (by omega))) (fun _ => ?_)
  refine ok_step (ps := [rf_in (α 83 0) 40]) (L' := [some (.ref 83), some (.int (nI 2)), some (.int (nI 0)), some (.int x), some (.int (nI dep)), some (.int (nI 0)), some (.int (nI 10))]) (st' := []) (σ' := (rf_w (rf_w α 84 ((α 83 0).toNatClampNeg) (nI 10)) 83 0 (((rf_w α 84 ((α 83 0).toNatClampNeg) (nI 10)) 83 0) + (nI 1)), δ)) (pc' := 91) kX9_speak_70 rfl rfl (rf_a1 (rf_in_n (a := b) (by (try rw [(show α 83 0 = nI b from hb)]); all_goals exact rfl) (by omega)) rf_a0) ?_
  try rw [(show α 83 0 = nI b from hb)]
  try rw [(show (nI b).toNatClampNeg = b from rf_cl_n rfl (by omega))]
  try rw [(show (rf_w α 84 b (nI 10)) 83 0 = α 83 0 from by rw [rf_w_at, if_neg (fun h => absurd h.1 (by decide))])]
  try rw [(show α 83 0 = nI b from hb)]
  try rw [(show ((nI b) + (nI 1)) = nI (1 + b) from rf_eq (rf_nadd (x := nI b) (y := nI 1) rfl rfl) (by omega))]
  rw [show rf_w (rf_w α 84 b (nI 10)) 83 0 (nI (1 + b)) = apt 84 83 0 α b [10] from apt_w (L := []) (by simp) (by omega)]
  refine ok_step (ps := [rf_in (nI 0) 8]) (L' := [some (.ref 83), some (.int (nI 2)), some (.int (nI 0)), some (.int x), some (.int (nI dep)), some (.int (nI 0)), some (.int (nI 10))]) (st' := [.int ((nI dep) + (nI 1)), .int x, .int (tAbove ((nI 0).toNatClampNeg)), .int (nI 10), .ref 83]) (σ' := (apt 84 83 0 α b [10], δ)) (pc' := 105) kX9_speak_91 rfl rfl (rf_a1 (rf_in_n (a := 0) rfl (by omega)) rf_a0) ?_
  try rw [(show (nI 0).toNatClampNeg = 0 from rf_cl_n rfl (by omega))]
  try rw [(show tAbove 0 = nI 0 from rfl)]
  try rw [(show ((nI dep) + (nI 1)) = nI (1 + dep) from rf_eq (rf_nadd (x := nI dep) (y := nI 1) rfl rfl) (by omega))]
  have hc105 : rf_At (rf_T Ln xs) MX9_runBody 1 0 ([some (.ref 83), some (.int (nI 10)), some (.int (nI 0)), some (.int x), some (.int (nI (1 + dep)))], [], 108, (apt 84 83 0 α b [10], δ)) (some (.int (x + nu))) 108 (apt 84 83 0 α b [10], δ) := by
    refine rf_pa ?_
    refine ok_step (ps := []) (L' := [some (.ref 83), some (.int (nI 10)), some (.int (nI 0)), some (.int x), some (.int (nI (1 + dep)))]) (st' := [.int (nI 10)]) (σ' := (apt 84 83 0 α b [10], δ)) (pc' := 1) kX9_runBody_0 rfl rfl rf_a0 ?_
    refine ok_lkk (q := (10, 107)) (t := 108) bX9_runBody_1 (by decide) (by decide) (by decide) (by decide) ?_
    refine ok_step (ps := []) (L' := [some (.ref 83), some (.int (nI 10)), some (.int (nI 0)), some (.int x), some (.int (nI (1 + dep)))]) (st' := [.int (x + ((apt 84 83 0 α b [10]) 83 3))]) (σ' := (apt 84 83 0 α b [10], δ)) (pc' := 114) kX9_runBody_108 rfl rfl rf_a0 ?_
    try rw [(show (apt 84 83 0 α b [10]) 83 3 = nu from (apt_f (by decide) (by decide)).trans hn)]
    refine ok_reti eX9_runBody_114 rfl ?_
    exact ⟨rfl, rfl⟩
  refine ok_V (As := [.int (nI 10), .int (nI 0), .int x, .int (nI (1 + dep))]) (b := 83) (st := []) mkX9_runBody qX9_speak_105 rfl (rc_83) rfl rfl rfl rfl (Nat.le_of_ble_eq_true rfl) (hc105) ?_
  refine ok_reti eX9_speak_108 rfl ?_
  exact ⟨rfl, rfl⟩
theorem cv2_1_0 {x : Int32} {b dep : Nat} (hk : α 83 2 = nI 2) (hn : α 83 3 = nu) (hm : α 83 4 = mn) (hb : α 83 0 = nI b) (hl : b + 2 ≤ 40) (hd : dep + 2 ≤ 30) : rf_At (rf_T Ln xs) MX9_speak 4 0 ([some (.ref 83), some (.int (nI 0)), some (.int (nI 1)), some (.int x), some (.int (nI dep)), none, none], [], 108, (α, δ)) (some (.int ((x + nu) * nI 2))) 108 (apt 84 83 0 α b [11, 10], δ) := by
  refine rf_pa ?_
  refine ok_step (ps := []) (L' := [some (.ref 83), some (.int (nI 0)), some (.int (nI 1)), some (.int x), some (.int (nI dep)), some (.int (nI 0)), some (.int (nI 0))]) (st' := []) (σ' := (α, δ)) (pc' := 6) kX9_speak_0 rfl rfl rf_a0 ?_
  refine ok_step (ps := []) (L' := [some (.ref 83), some (.int (nI 0)), some (.int (nI 1)), some (.int x), some (.int (nI dep)), some (.int (nI 0)), some (.int (nI 0))]) (st' := [.int (nI 8), .int (nI 0)]) (σ' := (α, δ)) (pc' := 10) kX9_speak_6 rfl rfl rf_a0 ?_
  refine ok_icmp_ge bX9_speak_10 (fun h10 => absurd h10 ((by decide))) (fun _ => ?_)
  refine ok_step (ps := [rf_in (((nI 0) * (nI 4)) + (nI 1)) 32]) (L' := [some (.ref 83), some (.int (nI 0)), some (.int (nI 1)), some (.int x), some (.int (nI dep)), some (.int (nI 0)), some (.int (nI 0))]) (st' := [.int (tBodies ((((nI 0) * (nI 4)) + (nI 1)).toNatClampNeg))]) (σ' := (α, δ)) (pc' := 23) kX9_speak_13 rfl rfl (rf_a1 (rf_in_n (a := 1) (by (try rw [(show ((nI 0) * (nI 4)) = nI 0 from rf_eq (rf_nmul (x := nI 0) (y := nI 4) rfl rfl) (by omega))]); (try rw [(show ((nI 0) + (nI 1)) = nI 1 from rf_eq (rf_nadd (x := nI 0) (y := nI 1) rfl rfl) (by omega))]); all_goals exact rfl) (by omega)) rf_a0) ?_
  try rw [(show ((nI 0) * (nI 4)) = nI 0 from rf_eq (rf_nmul (x := nI 0) (y := nI 4) rfl rfl) (by omega))]
  try rw [(show ((nI 0) + (nI 1)) = nI 1 from rf_eq (rf_nadd (x := nI 0) (y := nI 1) rfl rfl) (by omega))]
  try rw [(show (nI 1).toNatClampNeg = 1 from rf_cl_n rfl (by omega))]
  try rw [(show tBodies 1 = nI 11 from rfl)]
  refine ok_if_ne bX9_speak_23 (fun _ => ?_) (fun h23 => absurd h23 ((by decide)))
  refine ok_step (ps := []) (L' := [some (.ref 83), some (.int (nI 0)), some (.int (nI 1)), some (.int x), some (.int (nI dep)), some (.int (nI 0)), some (.int (nI 0))]) (st' := [.int (nI 30), .int (nI dep)]) (σ' := (α, δ)) (pc' := 44) kX9_speak_40 rfl rfl rf_a0 ?_
  refine ok_icmp_le bX9_speak_44 (fun _ => ?_) (fun h44 => absurd (nI_le (by omega) (by omega)) h44)
  refine ok_step (ps := [rf_in (((nI 0) * (nI 4)) + (nI 1)) 32]) (L' := [some (.ref 83), some (.int (nI 0)), some (.int (nI 1)), some (.int x), some (.int (nI dep)), some (.int (nI 0)), some (.int (tBodies ((((nI 0) * (nI 4)) + (nI 1)).toNatClampNeg)))]) (st' := [.int (nI 40), .int (α 83 0)]) (σ' := (α, δ)) (pc' := 67) kX9_speak_49 rfl rfl (rf_a1 (rf_in_n (a := 1) (by (try rw [(show ((nI 0) * (nI 4)) = nI 0 from rf_eq (rf_nmul (x := nI 0) (y := nI 4) rfl rfl) (by omega))]); (try rw [(show ((nI 0) + (nI 1)) = nI 1 from rf_eq (rf_nadd (x := nI 0) (y := nI 1) rfl rfl) (by omega))]); all_goals exact rfl) (by omega)) rf_a0) ?_
  try rw [(show ((nI 0) * (nI 4)) = nI 0 from rf_eq (rf_nmul (x := nI 0) (y := nI 4) rfl rfl) (by omega))]
  try rw [(show ((nI 0) + (nI 1)) = nI 1 from rf_eq (rf_nadd (x := nI 0) (y := nI 1) rfl rfl) (by omega))]
  try rw [(show (nI 1).toNatClampNeg = 1 from rf_cl_n rfl (by omega))]
  try rw [(show tBodies 1 = nI 11 from rfl)]
  try rw [(show α 83 0 = nI b from hb)]
  refine ok_icmp_ge bX9_speak_67 (fun h67 => absurd h67 (nI_ge (by omega) (by omega))) (fun _ => ?_)
  refine ok_step (ps := [rf_in (α 83 0) 40]) (L' := [some (.ref 83), some (.int (nI 0)), some (.int (nI 1)), some (.int x), some (.int (nI dep)), some (.int (nI 0)), some (.int (nI 11))]) (st' := []) (σ' := (rf_w (rf_w α 84 ((α 83 0).toNatClampNeg) (nI 11)) 83 0 (((rf_w α 84 ((α 83 0).toNatClampNeg) (nI 11)) 83 0) + (nI 1)), δ)) (pc' := 91) kX9_speak_70 rfl rfl (rf_a1 (rf_in_n (a := b) (by (try rw [(show α 83 0 = nI b from hb)]); all_goals exact rfl) (by omega)) rf_a0) ?_
  try rw [(show α 83 0 = nI b from hb)]
  try rw [(show (nI b).toNatClampNeg = b from rf_cl_n rfl (by omega))]
  try rw [(show (rf_w α 84 b (nI 11)) 83 0 = α 83 0 from by rw [rf_w_at, if_neg (fun h => absurd h.1 (by decide))])]
  try rw [(show α 83 0 = nI b from hb)]
  try rw [(show ((nI b) + (nI 1)) = nI (1 + b) from rf_eq (rf_nadd (x := nI b) (y := nI 1) rfl rfl) (by omega))]
  rw [show rf_w (rf_w α 84 b (nI 11)) 83 0 (nI (1 + b)) = apt 84 83 0 α b [11] from apt_w (L := []) (by simp) (by omega)]
  refine ok_step (ps := [rf_in (nI 0) 8]) (L' := [some (.ref 83), some (.int (nI 0)), some (.int (nI 1)), some (.int x), some (.int (nI dep)), some (.int (nI 0)), some (.int (nI 11))]) (st' := [.int ((nI dep) + (nI 1)), .int x, .int (tAbove ((nI 0).toNatClampNeg)), .int (nI 11), .ref 83]) (σ' := (apt 84 83 0 α b [11], δ)) (pc' := 105) kX9_speak_91 rfl rfl (rf_a1 (rf_in_n (a := 0) rfl (by omega)) rf_a0) ?_
  try rw [(show (nI 0).toNatClampNeg = 0 from rf_cl_n rfl (by omega))]
  try rw [(show tAbove 0 = nI 0 from rfl)]
  try rw [(show ((nI dep) + (nI 1)) = nI (1 + dep) from rf_eq (rf_nadd (x := nI dep) (y := nI 1) rfl rfl) (by omega))]
  have hc105 : rf_At (rf_T Ln xs) MX9_runBody 3 0 ([some (.ref 83), some (.int (nI 11)), some (.int (nI 0)), some (.int x), some (.int (nI (1 + dep)))], [], 108, (apt 84 83 0 α b [11], δ)) (some (.int ((x + nu) * (nI 2)))) 108 (apt 84 83 0 α b [11, 10], δ) := by
    refine rf_pa ?_
    refine ok_step (ps := []) (L' := [some (.ref 83), some (.int (nI 11)), some (.int (nI 0)), some (.int x), some (.int (nI (1 + dep)))]) (st' := [.int (nI 11)]) (σ' := (apt 84 83 0 α b [11], δ)) (pc' := 1) kX9_runBody_0 rfl rfl rf_a0 ?_
    refine ok_lkk (q := (11, 114)) (t := 115) bX9_runBody_1 (by decide) (by decide) (by decide) (by decide) ?_
    refine ok_step (ps := []) (L' := [some (.ref 83), some (.int (nI 11)), some (.int (nI 0)), some (.int x), some (.int (nI (1 + dep)))]) (st' := [.int (nI (1 + dep)), .int x, .int (nI 0), .int ((apt 84 83 0 α b [11]) 83 2), .ref 83]) (σ' := (apt 84 83 0 α b [11], δ)) (pc' := 124) kX9_runBody_115 rfl rfl rf_a0 ?_
    try rw [(show (apt 84 83 0 α b [11]) 83 2 = nI 2 from (apt_f (by decide) (by decide)).trans hk)]
    refine ok_V (As := [.int (nI 2), .int (nI 0), .int x, .int (nI (1 + dep))]) (b := 83) (st := []) mkX9_speak qX9_runBody_124 rfl (rc_83) rfl rfl rfl rfl (Nat.le_of_ble_eq_true rfl) (cv2_0_2 (b := (1 + b)) (dep := (1 + dep)) ((apt_f (by decide) (by decide)).trans hk) ((apt_f (by decide) (by decide)).trans hn) ((apt_f (by decide) (by decide)).trans hm) (apt_0 (by decide) hb) (by omega) (by omega)) ?_
    rw [show apt 84 83 0 (apt 84 83 0 α b [11]) (1 + b) [10] = apt 84 83 0 α b [11, 10] from apt_app (by simp)]
    refine ok_step (ps := []) (L' := [some (.ref 83), some (.int (nI 11)), some (.int (nI 0)), some (.int x), some (.int (nI (1 + dep)))]) (st' := [.int ((x + nu) * (nI 2))]) (σ' := (apt 84 83 0 α b [11, 10], δ)) (pc' := 129) kX9_runBody_127 rfl rfl rf_a0 ?_
    refine ok_reti eX9_runBody_129 rfl ?_
    exact ⟨rfl, rfl⟩
  refine ok_V (As := [.int (nI 11), .int (nI 0), .int x, .int (nI (1 + dep))]) (b := 83) (st := []) mkX9_runBody qX9_speak_105 rfl (rc_83) rfl rfl rfl rfl (Nat.le_of_ble_eq_true rfl) (hc105) ?_
  refine ok_reti eX9_speak_108 rfl ?_
  exact ⟨rfl, rfl⟩
theorem cv2_2_2 {x : Int32} {b dep : Nat} (hk : α 83 2 = nI 2) (hn : α 83 3 = nu) (hm : α 83 4 = mn) (hb : α 83 0 = nI b) (hl : b + 1 ≤ 40) (hd : dep + 1 ≤ 30) : rf_At (rf_T Ln xs) MX9_speak 2 0 ([some (.ref 83), some (.int (nI 2)), some (.int (nI 2)), some (.int x), some (.int (nI dep)), none, none], [], 108, (α, δ)) (some (.int (x - mn))) 108 (apt 84 83 0 α b [12], δ) := by
  refine rf_pa ?_
  refine ok_step (ps := []) (L' := [some (.ref 83), some (.int (nI 2)), some (.int (nI 2)), some (.int x), some (.int (nI dep)), some (.int (nI 2)), some (.int (nI 0))]) (st' := []) (σ' := (α, δ)) (pc' := 6) kX9_speak_0 rfl rfl rf_a0 ?_
  refine ok_step (ps := []) (L' := [some (.ref 83), some (.int (nI 2)), some (.int (nI 2)), some (.int x), some (.int (nI dep)), some (.int (nI 2)), some (.int (nI 0))]) (st' := [.int (nI 8), .int (nI 0)]) (σ' := (α, δ)) (pc' := 10) kX9_speak_6 rfl rfl rf_a0 ?_
  refine ok_icmp_ge bX9_speak_10 (fun h10 => absurd h10 ((by decide))) (fun _ => ?_)
  refine ok_step (ps := [rf_in (((nI 2) * (nI 4)) + (nI 2)) 32]) (L' := [some (.ref 83), some (.int (nI 2)), some (.int (nI 2)), some (.int x), some (.int (nI dep)), some (.int (nI 2)), some (.int (nI 0))]) (st' := [.int (tBodies ((((nI 2) * (nI 4)) + (nI 2)).toNatClampNeg))]) (σ' := (α, δ)) (pc' := 23) kX9_speak_13 rfl rfl (rf_a1 (rf_in_n (a := 10) (by (try rw [(show ((nI 2) * (nI 4)) = nI 8 from rf_eq (rf_nmul (x := nI 2) (y := nI 4) rfl rfl) (by omega))]); (try rw [(show ((nI 8) + (nI 2)) = nI 10 from rf_eq (rf_nadd (x := nI 8) (y := nI 2) rfl rfl) (by omega))]); all_goals exact rfl) (by omega)) rf_a0) ?_
  try rw [(show ((nI 2) * (nI 4)) = nI 8 from rf_eq (rf_nmul (x := nI 2) (y := nI 4) rfl rfl) (by omega))]
  try rw [(show ((nI 8) + (nI 2)) = nI 10 from rf_eq (rf_nadd (x := nI 8) (y := nI 2) rfl rfl) (by omega))]
  try rw [(show (nI 10).toNatClampNeg = 10 from rf_cl_n rfl (by omega))]
  try rw [(show tBodies 10 = nI 0 from rfl)]
  refine ok_if_ne bX9_speak_23 (fun h23 => absurd ((by decide)) h23) (fun _ => ?_)
  refine ok_step (ps := [rf_in (nI 2) 8]) (L' := [some (.ref 83), some (.int (nI 2)), some (.int (nI 2)), some (.int x), some (.int (nI dep)), some (.int (tAbove ((nI 2).toNatClampNeg))), some (.int ((nI 0) + (nI 1)))]) (st' := []) (σ' := (α, δ)) (pc' := 37) kX9_speak_26 rfl rfl (rf_a1 (rf_in_n (a := 2) rfl (by omega)) rf_a0) ?_
  try rw [(show (nI 2).toNatClampNeg = 2 from rf_cl_n rfl (by omega))]
  try rw [(show tAbove 2 = nI 0 from rfl)]
  try rw [(show ((nI 0) + (nI 1)) = nI 1 from rf_eq (rf_nadd (x := nI 0) (y := nI 1) rfl rfl) (by omega))]
  refine ok_goto bX9_speak_37 ?_
  refine ok_step (ps := []) (L' := [some (.ref 83), some (.int (nI 2)), some (.int (nI 2)), some (.int x), some (.int (nI dep)), some (.int (nI 0)), some (.int (nI 1))]) (st' := [.int (nI 8), .int (nI 1)]) (σ' := (α, δ)) (pc' := 10) kX9_speak_6 rfl rfl rf_a0 ?_
  refine ok_icmp_ge bX9_speak_10 (fun h10 => absurd h10 ((by decide))) (fun _ => ?_)
  refine ok_step (ps := [rf_in (((nI 0) * (nI 4)) + (nI 2)) 32]) (L' := [some (.ref 83), some (.int (nI 2)), some (.int (nI 2)), some (.int x), some (.int (nI dep)), some (.int (nI 0)), some (.int (nI 1))]) (st' := [.int (tBodies ((((nI 0) * (nI 4)) + (nI 2)).toNatClampNeg))]) (σ' := (α, δ)) (pc' := 23) kX9_speak_13 rfl rfl (rf_a1 (rf_in_n (a := 2) (by (try rw [(show ((nI 0) * (nI 4)) = nI 0 from rf_eq (rf_nmul (x := nI 0) (y := nI 4) rfl rfl) (by omega))]); (try rw [(show ((nI 0) + (nI 2)) = nI 2 from rf_eq (rf_nadd (x := nI 0) (y := nI 2) rfl rfl) (by omega))]); all_goals exact rfl) (by omega)) rf_a0) ?_
  try rw [(show ((nI 0) * (nI 4)) = nI 0 from rf_eq (rf_nmul (x := nI 0) (y := nI 4) rfl rfl) (by omega))]
  try rw [(show ((nI 0) + (nI 2)) = nI 2 from rf_eq (rf_nadd (x := nI 0) (y := nI 2) rfl rfl) (by omega))]
  try rw [(show (nI 2).toNatClampNeg = 2 from rf_cl_n rfl (by omega))]
  try rw [(show tBodies 2 = nI 12 from rfl)]
  refine ok_if_ne bX9_speak_23 (fun _ => ?_) (fun h23 => absurd h23 ((by decide)))
  refine ok_step (ps := []) (L' := [some (.ref 83), some (.int (nI 2)), some (.int (nI 2)), some (.int x), some (.int (nI dep)), some (.int (nI 0)), some (.int (nI 1))]) (st' := [.int (nI 30), .int (nI dep)]) (σ' := (α, δ)) (pc' := 44) kX9_speak_40 rfl rfl rf_a0 ?_
  refine ok_icmp_le bX9_speak_44 (fun _ => ?_) (fun h44 => absurd (nI_le (by omega) (by omega)) h44)
  refine ok_step (ps := [rf_in (((nI 0) * (nI 4)) + (nI 2)) 32]) (L' := [some (.ref 83), some (.int (nI 2)), some (.int (nI 2)), some (.int x), some (.int (nI dep)), some (.int (nI 0)), some (.int (tBodies ((((nI 0) * (nI 4)) + (nI 2)).toNatClampNeg)))]) (st' := [.int (nI 40), .int (α 83 0)]) (σ' := (α, δ)) (pc' := 67) kX9_speak_49 rfl rfl (rf_a1 (rf_in_n (a := 2) (by (try rw [(show ((nI 0) * (nI 4)) = nI 0 from rf_eq (rf_nmul (x := nI 0) (y := nI 4) rfl rfl) (by omega))]); (try rw [(show ((nI 0) + (nI 2)) = nI 2 from rf_eq (rf_nadd (x := nI 0) (y := nI 2) rfl rfl) (by omega))]); all_goals exact rfl) (by omega)) rf_a0) ?_
  try rw [(show ((nI 0) * (nI 4)) = nI 0 from rf_eq (rf_nmul (x := nI 0) (y := nI 4) rfl rfl) (by omega))]
  try rw [(show ((nI 0) + (nI 2)) = nI 2 from rf_eq (rf_nadd (x := nI 0) (y := nI 2) rfl rfl) (by omega))]
  try rw [(show (nI 2).toNatClampNeg = 2 from rf_cl_n rfl (by omega))]
  try rw [(show tBodies 2 = nI 12 from rfl)]
  try rw [(show α 83 0 = nI b from hb)]
  refine ok_icmp_ge bX9_speak_67 (fun h67 => absurd h67 (nI_ge (by omega) (by omega))) (fun _ => ?_)
  refine ok_step (ps := [rf_in (α 83 0) 40]) (L' := [some (.ref 83), some (.int (nI 2)), some (.int (nI 2)), some (.int x), some (.int (nI dep)), some (.int (nI 0)), some (.int (nI 12))]) (st' := []) (σ' := (rf_w (rf_w α 84 ((α 83 0).toNatClampNeg) (nI 12)) 83 0 (((rf_w α 84 ((α 83 0).toNatClampNeg) (nI 12)) 83 0) + (nI 1)), δ)) (pc' := 91) kX9_speak_70 rfl rfl (rf_a1 (rf_in_n (a := b) (by (try rw [(show α 83 0 = nI b from hb)]); all_goals exact rfl) (by omega)) rf_a0) ?_
  try rw [(show α 83 0 = nI b from hb)]
  try rw [(show (nI b).toNatClampNeg = b from rf_cl_n rfl (by omega))]
  try rw [(show (rf_w α 84 b (nI 12)) 83 0 = α 83 0 from by rw [rf_w_at, if_neg (fun h => absurd h.1 (by decide))])]
  try rw [(show α 83 0 = nI b from hb)]
  try rw [(show ((nI b) + (nI 1)) = nI (1 + b) from rf_eq (rf_nadd (x := nI b) (y := nI 1) rfl rfl) (by omega))]
  rw [show rf_w (rf_w α 84 b (nI 12)) 83 0 (nI (1 + b)) = apt 84 83 0 α b [12] from apt_w (L := []) (by simp) (by omega)]
  refine ok_step (ps := [rf_in (nI 0) 8]) (L' := [some (.ref 83), some (.int (nI 2)), some (.int (nI 2)), some (.int x), some (.int (nI dep)), some (.int (nI 0)), some (.int (nI 12))]) (st' := [.int ((nI dep) + (nI 1)), .int x, .int (tAbove ((nI 0).toNatClampNeg)), .int (nI 12), .ref 83]) (σ' := (apt 84 83 0 α b [12], δ)) (pc' := 105) kX9_speak_91 rfl rfl (rf_a1 (rf_in_n (a := 0) rfl (by omega)) rf_a0) ?_
  try rw [(show (nI 0).toNatClampNeg = 0 from rf_cl_n rfl (by omega))]
  try rw [(show tAbove 0 = nI 0 from rfl)]
  try rw [(show ((nI dep) + (nI 1)) = nI (1 + dep) from rf_eq (rf_nadd (x := nI dep) (y := nI 1) rfl rfl) (by omega))]
  have hc105 : rf_At (rf_T Ln xs) MX9_runBody 1 0 ([some (.ref 83), some (.int (nI 12)), some (.int (nI 0)), some (.int x), some (.int (nI (1 + dep)))], [], 108, (apt 84 83 0 α b [12], δ)) (some (.int (x - mn))) 108 (apt 84 83 0 α b [12], δ) := by
    refine rf_pa ?_
    refine ok_step (ps := []) (L' := [some (.ref 83), some (.int (nI 12)), some (.int (nI 0)), some (.int x), some (.int (nI (1 + dep)))]) (st' := [.int (nI 12)]) (σ' := (apt 84 83 0 α b [12], δ)) (pc' := 1) kX9_runBody_0 rfl rfl rf_a0 ?_
    refine ok_lkk (q := (12, 129)) (t := 130) bX9_runBody_1 (by decide) (by decide) (by decide) (by decide) ?_
    refine ok_step (ps := []) (L' := [some (.ref 83), some (.int (nI 12)), some (.int (nI 0)), some (.int x), some (.int (nI (1 + dep)))]) (st' := [.int (x - ((apt 84 83 0 α b [12]) 83 4))]) (σ' := (apt 84 83 0 α b [12], δ)) (pc' := 136) kX9_runBody_130 rfl rfl rf_a0 ?_
    try rw [(show (apt 84 83 0 α b [12]) 83 4 = mn from (apt_f (by decide) (by decide)).trans hm)]
    refine ok_reti eX9_runBody_136 rfl ?_
    exact ⟨rfl, rfl⟩
  refine ok_V (As := [.int (nI 12), .int (nI 0), .int x, .int (nI (1 + dep))]) (b := 83) (st := []) mkX9_runBody qX9_speak_105 rfl (rc_83) rfl rfl rfl rfl (Nat.le_of_ble_eq_true rfl) (hc105) ?_
  refine ok_reti eX9_speak_108 rfl ?_
  exact ⟨rfl, rfl⟩
theorem cv2_1_2 {x : Int32} {b dep : Nat} (hk : α 83 2 = nI 2) (hn : α 83 3 = nu) (hm : α 83 4 = mn) (hb : α 83 0 = nI b) (hl : b + 4 ≤ 40) (hd : dep + 3 ≤ 30) : rf_At (rf_T Ln xs) MX9_speak 6 0 ([some (.ref 83), some (.int (nI 2)), some (.int (nI 1)), some (.int x), some (.int (nI dep)), none, none], [], 108, (α, δ)) (some (.int (((x + nu) * nI 2) - ((nI 1) - mn)))) 108 (apt 84 83 0 α b [30, 11, 10, 12], δ) := by
  refine rf_pa ?_
  refine ok_step (ps := []) (L' := [some (.ref 83), some (.int (nI 2)), some (.int (nI 1)), some (.int x), some (.int (nI dep)), some (.int (nI 2)), some (.int (nI 0))]) (st' := []) (σ' := (α, δ)) (pc' := 6) kX9_speak_0 rfl rfl rf_a0 ?_
  refine ok_step (ps := []) (L' := [some (.ref 83), some (.int (nI 2)), some (.int (nI 1)), some (.int x), some (.int (nI dep)), some (.int (nI 2)), some (.int (nI 0))]) (st' := [.int (nI 8), .int (nI 0)]) (σ' := (α, δ)) (pc' := 10) kX9_speak_6 rfl rfl rf_a0 ?_
  refine ok_icmp_ge bX9_speak_10 (fun h10 => absurd h10 ((by decide))) (fun _ => ?_)
  refine ok_step (ps := [rf_in (((nI 2) * (nI 4)) + (nI 1)) 32]) (L' := [some (.ref 83), some (.int (nI 2)), some (.int (nI 1)), some (.int x), some (.int (nI dep)), some (.int (nI 2)), some (.int (nI 0))]) (st' := [.int (tBodies ((((nI 2) * (nI 4)) + (nI 1)).toNatClampNeg))]) (σ' := (α, δ)) (pc' := 23) kX9_speak_13 rfl rfl (rf_a1 (rf_in_n (a := 9) (by (try rw [(show ((nI 2) * (nI 4)) = nI 8 from rf_eq (rf_nmul (x := nI 2) (y := nI 4) rfl rfl) (by omega))]); (try rw [(show ((nI 8) + (nI 1)) = nI 9 from rf_eq (rf_nadd (x := nI 8) (y := nI 1) rfl rfl) (by omega))]); all_goals exact rfl) (by omega)) rf_a0) ?_
  try rw [(show ((nI 2) * (nI 4)) = nI 8 from rf_eq (rf_nmul (x := nI 2) (y := nI 4) rfl rfl) (by omega))]
  try rw [(show ((nI 8) + (nI 1)) = nI 9 from rf_eq (rf_nadd (x := nI 8) (y := nI 1) rfl rfl) (by omega))]
  try rw [(show (nI 9).toNatClampNeg = 9 from rf_cl_n rfl (by omega))]
  try rw [(show tBodies 9 = nI 30 from rfl)]
  refine ok_if_ne bX9_speak_23 (fun _ => ?_) (fun h23 => absurd h23 ((by decide)))
  refine ok_step (ps := []) (L' := [some (.ref 83), some (.int (nI 2)), some (.int (nI 1)), some (.int x), some (.int (nI dep)), some (.int (nI 2)), some (.int (nI 0))]) (st' := [.int (nI 30), .int (nI dep)]) (σ' := (α, δ)) (pc' := 44) kX9_speak_40 rfl rfl rf_a0 ?_
  refine ok_icmp_le bX9_speak_44 (fun _ => ?_) (fun h44 => absurd (nI_le (by omega) (by omega)) h44)
  refine ok_step (ps := [rf_in (((nI 2) * (nI 4)) + (nI 1)) 32]) (L' := [some (.ref 83), some (.int (nI 2)), some (.int (nI 1)), some (.int x), some (.int (nI dep)), some (.int (nI 2)), some (.int (tBodies ((((nI 2) * (nI 4)) + (nI 1)).toNatClampNeg)))]) (st' := [.int (nI 40), .int (α 83 0)]) (σ' := (α, δ)) (pc' := 67) kX9_speak_49 rfl rfl (rf_a1 (rf_in_n (a := 9) (by (try rw [(show ((nI 2) * (nI 4)) = nI 8 from rf_eq (rf_nmul (x := nI 2) (y := nI 4) rfl rfl) (by omega))]); (try rw [(show ((nI 8) + (nI 1)) = nI 9 from rf_eq (rf_nadd (x := nI 8) (y := nI 1) rfl rfl) (by omega))]); all_goals exact rfl) (by omega)) rf_a0) ?_
  try rw [(show ((nI 2) * (nI 4)) = nI 8 from rf_eq (rf_nmul (x := nI 2) (y := nI 4) rfl rfl) (by omega))]
  try rw [(show ((nI 8) + (nI 1)) = nI 9 from rf_eq (rf_nadd (x := nI 8) (y := nI 1) rfl rfl) (by omega))]
  try rw [(show (nI 9).toNatClampNeg = 9 from rf_cl_n rfl (by omega))]
  try rw [(show tBodies 9 = nI 30 from rfl)]
  try rw [(show α 83 0 = nI b from hb)]
  refine ok_icmp_ge bX9_speak_67 (fun h67 => absurd h67 (nI_ge (by omega) (by omega))) (fun _ => ?_)
  refine ok_step (ps := [rf_in (α 83 0) 40]) (L' := [some (.ref 83), some (.int (nI 2)), some (.int (nI 1)), some (.int x), some (.int (nI dep)), some (.int (nI 2)), some (.int (nI 30))]) (st' := []) (σ' := (rf_w (rf_w α 84 ((α 83 0).toNatClampNeg) (nI 30)) 83 0 (((rf_w α 84 ((α 83 0).toNatClampNeg) (nI 30)) 83 0) + (nI 1)), δ)) (pc' := 91) kX9_speak_70 rfl rfl (rf_a1 (rf_in_n (a := b) (by (try rw [(show α 83 0 = nI b from hb)]); all_goals exact rfl) (by omega)) rf_a0) ?_
  try rw [(show α 83 0 = nI b from hb)]
  try rw [(show (nI b).toNatClampNeg = b from rf_cl_n rfl (by omega))]
  try rw [(show (rf_w α 84 b (nI 30)) 83 0 = α 83 0 from by rw [rf_w_at, if_neg (fun h => absurd h.1 (by decide))])]
  try rw [(show α 83 0 = nI b from hb)]
  try rw [(show ((nI b) + (nI 1)) = nI (1 + b) from rf_eq (rf_nadd (x := nI b) (y := nI 1) rfl rfl) (by omega))]
  rw [show rf_w (rf_w α 84 b (nI 30)) 83 0 (nI (1 + b)) = apt 84 83 0 α b [30] from apt_w (L := []) (by simp) (by omega)]
  refine ok_step (ps := [rf_in (nI 2) 8]) (L' := [some (.ref 83), some (.int (nI 2)), some (.int (nI 1)), some (.int x), some (.int (nI dep)), some (.int (nI 2)), some (.int (nI 30))]) (st' := [.int ((nI dep) + (nI 1)), .int x, .int (tAbove ((nI 2).toNatClampNeg)), .int (nI 30), .ref 83]) (σ' := (apt 84 83 0 α b [30], δ)) (pc' := 105) kX9_speak_91 rfl rfl (rf_a1 (rf_in_n (a := 2) rfl (by omega)) rf_a0) ?_
  try rw [(show (nI 2).toNatClampNeg = 2 from rf_cl_n rfl (by omega))]
  try rw [(show tAbove 2 = nI 0 from rfl)]
  try rw [(show ((nI dep) + (nI 1)) = nI (1 + dep) from rf_eq (rf_nadd (x := nI dep) (y := nI 1) rfl rfl) (by omega))]
  have hc105 : rf_At (rf_T Ln xs) MX9_runBody 5 0 ([some (.ref 83), some (.int (nI 30)), some (.int (nI 0)), some (.int x), some (.int (nI (1 + dep)))], [], 108, (apt 84 83 0 α b [30], δ)) (some (.int (((x + nu) * nI 2) - ((nI 1) - mn)))) 108 (apt 84 83 0 α b [30, 11, 10, 12], δ) := by
    refine rf_pa ?_
    refine ok_step (ps := []) (L' := [some (.ref 83), some (.int (nI 30)), some (.int (nI 0)), some (.int x), some (.int (nI (1 + dep)))]) (st' := [.int (nI 30)]) (σ' := (apt 84 83 0 α b [30], δ)) (pc' := 1) kX9_runBody_0 rfl rfl rf_a0 ?_
    refine ok_lkk (q := (30, 174)) (t := 175) bX9_runBody_1 (by decide) (by decide) (by decide) (by decide) ?_
    refine ok_step (ps := []) (L' := [some (.ref 83), some (.int (nI 30)), some (.int (nI 0)), some (.int x), some (.int (nI (1 + dep)))]) (st' := [.int (nI (1 + dep)), .int x, .int (nI 1), .int (nI 0), .ref 83]) (σ' := (apt 84 83 0 α b [30], δ)) (pc' := 181) kX9_runBody_175 rfl rfl rf_a0 ?_
    refine ok_V (As := [.int (nI 0), .int (nI 1), .int x, .int (nI (1 + dep))]) (b := 83) (st := []) mkX9_speak qX9_runBody_181 rfl (rc_83) rfl rfl rfl rfl (Nat.le_of_ble_eq_true rfl) (cv2_1_0 (b := (1 + b)) (dep := (1 + dep)) ((apt_f (by decide) (by decide)).trans hk) ((apt_f (by decide) (by decide)).trans hn) ((apt_f (by decide) (by decide)).trans hm) (apt_0 (by decide) hb) (by omega) (by omega)) ?_
    rw [show apt 84 83 0 (apt 84 83 0 α b [30]) (1 + b) [11, 10] = apt 84 83 0 α b [30, 11, 10] from apt_app (by simp)]
    refine ok_step (ps := []) (L' := [some (.ref 83), some (.int (nI 30)), some (.int (nI 0)), some (.int x), some (.int (nI (1 + dep)))]) (st' := [.int (nI (1 + dep)), .int (nI 1), .int (nI 2), .int ((apt 84 83 0 α b [30, 11, 10]) 83 2), .ref 83, .int ((x + nu) * nI 2)]) (σ' := (apt 84 83 0 α b [30, 11, 10], δ)) (pc' := 193) kX9_runBody_184 rfl rfl rf_a0 ?_
    try rw [(show (apt 84 83 0 α b [30, 11, 10]) 83 2 = nI 2 from (apt_f (by decide) (by decide)).trans hk)]
    refine ok_V (As := [.int (nI 2), .int (nI 2), .int (nI 1), .int (nI (1 + dep))]) (b := 83) (st := [.int ((x + nu) * nI 2)]) mkX9_speak qX9_runBody_193 rfl (rc_83) rfl rfl rfl rfl (Nat.le_of_ble_eq_true rfl) (cv2_2_2 (b := (3 + b)) (dep := (1 + dep)) ((apt_f (by decide) (by decide)).trans hk) ((apt_f (by decide) (by decide)).trans hn) ((apt_f (by decide) (by decide)).trans hm) (apt_0 (by decide) hb) (by omega) (by omega)) ?_
    rw [show apt 84 83 0 (apt 84 83 0 α b [30, 11, 10]) (3 + b) [12] = apt 84 83 0 α b [30, 11, 10, 12] from apt_app (by simp)]
    refine ok_step (ps := []) (L' := [some (.ref 83), some (.int (nI 30)), some (.int (nI 0)), some (.int x), some (.int (nI (1 + dep)))]) (st' := [.int (((x + nu) * nI 2) - ((nI 1) - mn))]) (σ' := (apt 84 83 0 α b [30, 11, 10, 12], δ)) (pc' := 197) kX9_runBody_196 rfl rfl rf_a0 ?_
    refine ok_reti eX9_runBody_197 rfl ?_
    exact ⟨rfl, rfl⟩
  refine ok_V (As := [.int (nI 30), .int (nI 0), .int x, .int (nI (1 + dep))]) (b := 83) (st := []) mkX9_runBody qX9_speak_105 rfl (rc_83) rfl rfl rfl rfl (Nat.le_of_ble_eq_true rfl) (hc105) ?_
  refine ok_reti eX9_speak_108 rfl ?_
  exact ⟨rfl, rfl⟩
theorem cv2_3_2 {x : Int32} {b dep : Nat} (hk : α 83 2 = nI 2) (hn : α 83 3 = nu) (hm : α 83 4 = mn) (hb : α 83 0 = nI b) (hl : b + 6 ≤ 40) (hd : dep + 4 ≤ 30) : rf_At (rf_T Ln xs) MX9_speak 8 0 ([some (.ref 83), some (.int (nI 2)), some (.int (nI 3)), some (.int x), some (.int (nI dep)), none, none], [], 108, (α, δ)) (some (.int ((((x + nu) * nI 2) - ((nI 1) - mn)) ^^^ (x - mn)))) 108 (apt 84 83 0 α b [13, 30, 11, 10, 12, 12], δ) := by
  refine rf_pa ?_
  refine ok_step (ps := []) (L' := [some (.ref 83), some (.int (nI 2)), some (.int (nI 3)), some (.int x), some (.int (nI dep)), some (.int (nI 2)), some (.int (nI 0))]) (st' := []) (σ' := (α, δ)) (pc' := 6) kX9_speak_0 rfl rfl rf_a0 ?_
  refine ok_step (ps := []) (L' := [some (.ref 83), some (.int (nI 2)), some (.int (nI 3)), some (.int x), some (.int (nI dep)), some (.int (nI 2)), some (.int (nI 0))]) (st' := [.int (nI 8), .int (nI 0)]) (σ' := (α, δ)) (pc' := 10) kX9_speak_6 rfl rfl rf_a0 ?_
  refine ok_icmp_ge bX9_speak_10 (fun h10 => absurd h10 ((by decide))) (fun _ => ?_)
  refine ok_step (ps := [rf_in (((nI 2) * (nI 4)) + (nI 3)) 32]) (L' := [some (.ref 83), some (.int (nI 2)), some (.int (nI 3)), some (.int x), some (.int (nI dep)), some (.int (nI 2)), some (.int (nI 0))]) (st' := [.int (tBodies ((((nI 2) * (nI 4)) + (nI 3)).toNatClampNeg))]) (σ' := (α, δ)) (pc' := 23) kX9_speak_13 rfl rfl (rf_a1 (rf_in_n (a := 11) (by (try rw [(show ((nI 2) * (nI 4)) = nI 8 from rf_eq (rf_nmul (x := nI 2) (y := nI 4) rfl rfl) (by omega))]); (try rw [(show ((nI 8) + (nI 3)) = nI 11 from rf_eq (rf_nadd (x := nI 8) (y := nI 3) rfl rfl) (by omega))]); all_goals exact rfl) (by omega)) rf_a0) ?_
  try rw [(show ((nI 2) * (nI 4)) = nI 8 from rf_eq (rf_nmul (x := nI 2) (y := nI 4) rfl rfl) (by omega))]
  try rw [(show ((nI 8) + (nI 3)) = nI 11 from rf_eq (rf_nadd (x := nI 8) (y := nI 3) rfl rfl) (by omega))]
  try rw [(show (nI 11).toNatClampNeg = 11 from rf_cl_n rfl (by omega))]
  try rw [(show tBodies 11 = nI 0 from rfl)]
  refine ok_if_ne bX9_speak_23 (fun h23 => absurd ((by decide)) h23) (fun _ => ?_)
  refine ok_step (ps := [rf_in (nI 2) 8]) (L' := [some (.ref 83), some (.int (nI 2)), some (.int (nI 3)), some (.int x), some (.int (nI dep)), some (.int (tAbove ((nI 2).toNatClampNeg))), some (.int ((nI 0) + (nI 1)))]) (st' := []) (σ' := (α, δ)) (pc' := 37) kX9_speak_26 rfl rfl (rf_a1 (rf_in_n (a := 2) rfl (by omega)) rf_a0) ?_
  try rw [(show (nI 2).toNatClampNeg = 2 from rf_cl_n rfl (by omega))]
  try rw [(show tAbove 2 = nI 0 from rfl)]
  try rw [(show ((nI 0) + (nI 1)) = nI 1 from rf_eq (rf_nadd (x := nI 0) (y := nI 1) rfl rfl) (by omega))]
  refine ok_goto bX9_speak_37 ?_
  refine ok_step (ps := []) (L' := [some (.ref 83), some (.int (nI 2)), some (.int (nI 3)), some (.int x), some (.int (nI dep)), some (.int (nI 0)), some (.int (nI 1))]) (st' := [.int (nI 8), .int (nI 1)]) (σ' := (α, δ)) (pc' := 10) kX9_speak_6 rfl rfl rf_a0 ?_
  refine ok_icmp_ge bX9_speak_10 (fun h10 => absurd h10 ((by decide))) (fun _ => ?_)
  refine ok_step (ps := [rf_in (((nI 0) * (nI 4)) + (nI 3)) 32]) (L' := [some (.ref 83), some (.int (nI 2)), some (.int (nI 3)), some (.int x), some (.int (nI dep)), some (.int (nI 0)), some (.int (nI 1))]) (st' := [.int (tBodies ((((nI 0) * (nI 4)) + (nI 3)).toNatClampNeg))]) (σ' := (α, δ)) (pc' := 23) kX9_speak_13 rfl rfl (rf_a1 (rf_in_n (a := 3) (by (try rw [(show ((nI 0) * (nI 4)) = nI 0 from rf_eq (rf_nmul (x := nI 0) (y := nI 4) rfl rfl) (by omega))]); (try rw [(show ((nI 0) + (nI 3)) = nI 3 from rf_eq (rf_nadd (x := nI 0) (y := nI 3) rfl rfl) (by omega))]); all_goals exact rfl) (by omega)) rf_a0) ?_
  try rw [(show ((nI 0) * (nI 4)) = nI 0 from rf_eq (rf_nmul (x := nI 0) (y := nI 4) rfl rfl) (by omega))]
  try rw [(show ((nI 0) + (nI 3)) = nI 3 from rf_eq (rf_nadd (x := nI 0) (y := nI 3) rfl rfl) (by omega))]
  try rw [(show (nI 3).toNatClampNeg = 3 from rf_cl_n rfl (by omega))]
  try rw [(show tBodies 3 = nI 13 from rfl)]
  refine ok_if_ne bX9_speak_23 (fun _ => ?_) (fun h23 => absurd h23 ((by decide)))
  refine ok_step (ps := []) (L' := [some (.ref 83), some (.int (nI 2)), some (.int (nI 3)), some (.int x), some (.int (nI dep)), some (.int (nI 0)), some (.int (nI 1))]) (st' := [.int (nI 30), .int (nI dep)]) (σ' := (α, δ)) (pc' := 44) kX9_speak_40 rfl rfl rf_a0 ?_
  refine ok_icmp_le bX9_speak_44 (fun _ => ?_) (fun h44 => absurd (nI_le (by omega) (by omega)) h44)
  refine ok_step (ps := [rf_in (((nI 0) * (nI 4)) + (nI 3)) 32]) (L' := [some (.ref 83), some (.int (nI 2)), some (.int (nI 3)), some (.int x), some (.int (nI dep)), some (.int (nI 0)), some (.int (tBodies ((((nI 0) * (nI 4)) + (nI 3)).toNatClampNeg)))]) (st' := [.int (nI 40), .int (α 83 0)]) (σ' := (α, δ)) (pc' := 67) kX9_speak_49 rfl rfl (rf_a1 (rf_in_n (a := 3) (by (try rw [(show ((nI 0) * (nI 4)) = nI 0 from rf_eq (rf_nmul (x := nI 0) (y := nI 4) rfl rfl) (by omega))]); (try rw [(show ((nI 0) + (nI 3)) = nI 3 from rf_eq (rf_nadd (x := nI 0) (y := nI 3) rfl rfl) (by omega))]); all_goals exact rfl) (by omega)) rf_a0) ?_
  try rw [(show ((nI 0) * (nI 4)) = nI 0 from rf_eq (rf_nmul (x := nI 0) (y := nI 4) rfl rfl) (by omega))]
  try rw [(show ((nI 0) + (nI 3)) = nI 3 from rf_eq (rf_nadd (x := nI 0) (y := nI 3) rfl rfl) (by omega))]
  try rw [(show (nI 3).toNatClampNeg = 3 from rf_cl_n rfl (by omega))]
  try rw [(show tBodies 3 = nI 13 from rfl)]
  try rw [(show α 83 0 = nI b from hb)]
  refine ok_icmp_ge bX9_speak_67 (fun h67 => absurd h67 (nI_ge (by omega) (by omega))) (fun _ => ?_)
  refine ok_step (ps := [rf_in (α 83 0) 40]) (L' := [some (.ref 83), some (.int (nI 2)), some (.int (nI 3)), some (.int x), some (.int (nI dep)), some (.int (nI 0)), some (.int (nI 13))]) (st' := []) (σ' := (rf_w (rf_w α 84 ((α 83 0).toNatClampNeg) (nI 13)) 83 0 (((rf_w α 84 ((α 83 0).toNatClampNeg) (nI 13)) 83 0) + (nI 1)), δ)) (pc' := 91) kX9_speak_70 rfl rfl (rf_a1 (rf_in_n (a := b) (by (try rw [(show α 83 0 = nI b from hb)]); all_goals exact rfl) (by omega)) rf_a0) ?_
  try rw [(show α 83 0 = nI b from hb)]
  try rw [(show (nI b).toNatClampNeg = b from rf_cl_n rfl (by omega))]
  try rw [(show (rf_w α 84 b (nI 13)) 83 0 = α 83 0 from by rw [rf_w_at, if_neg (fun h => absurd h.1 (by decide))])]
  try rw [(show α 83 0 = nI b from hb)]
  try rw [(show ((nI b) + (nI 1)) = nI (1 + b) from rf_eq (rf_nadd (x := nI b) (y := nI 1) rfl rfl) (by omega))]
  rw [show rf_w (rf_w α 84 b (nI 13)) 83 0 (nI (1 + b)) = apt 84 83 0 α b [13] from apt_w (L := []) (by simp) (by omega)]
  refine ok_step (ps := [rf_in (nI 0) 8]) (L' := [some (.ref 83), some (.int (nI 2)), some (.int (nI 3)), some (.int x), some (.int (nI dep)), some (.int (nI 0)), some (.int (nI 13))]) (st' := [.int ((nI dep) + (nI 1)), .int x, .int (tAbove ((nI 0).toNatClampNeg)), .int (nI 13), .ref 83]) (σ' := (apt 84 83 0 α b [13], δ)) (pc' := 105) kX9_speak_91 rfl rfl (rf_a1 (rf_in_n (a := 0) rfl (by omega)) rf_a0) ?_
  try rw [(show (nI 0).toNatClampNeg = 0 from rf_cl_n rfl (by omega))]
  try rw [(show tAbove 0 = nI 0 from rfl)]
  try rw [(show ((nI dep) + (nI 1)) = nI (1 + dep) from rf_eq (rf_nadd (x := nI dep) (y := nI 1) rfl rfl) (by omega))]
  have hc105 : rf_At (rf_T Ln xs) MX9_runBody 7 0 ([some (.ref 83), some (.int (nI 13)), some (.int (nI 0)), some (.int x), some (.int (nI (1 + dep)))], [], 108, (apt 84 83 0 α b [13], δ)) (some (.int ((((x + nu) * nI 2) - ((nI 1) - mn)) ^^^ (x - mn)))) 108 (apt 84 83 0 α b [13, 30, 11, 10, 12, 12], δ) := by
    refine rf_pa ?_
    refine ok_step (ps := []) (L' := [some (.ref 83), some (.int (nI 13)), some (.int (nI 0)), some (.int x), some (.int (nI (1 + dep)))]) (st' := [.int (nI 13)]) (σ' := (apt 84 83 0 α b [13], δ)) (pc' := 1) kX9_runBody_0 rfl rfl rf_a0 ?_
    refine ok_lkk (q := (13, 136)) (t := 137) bX9_runBody_1 (by decide) (by decide) (by decide) (by decide) ?_
    refine ok_step (ps := []) (L' := [some (.ref 83), some (.int (nI 13)), some (.int (nI 0)), some (.int x), some (.int (nI (1 + dep)))]) (st' := [.int (nI (1 + dep)), .int x, .int (nI 1), .int ((apt 84 83 0 α b [13]) 83 2), .ref 83]) (σ' := (apt 84 83 0 α b [13], δ)) (pc' := 146) kX9_runBody_137 rfl rfl rf_a0 ?_
    try rw [(show (apt 84 83 0 α b [13]) 83 2 = nI 2 from (apt_f (by decide) (by decide)).trans hk)]
    refine ok_V (As := [.int (nI 2), .int (nI 1), .int x, .int (nI (1 + dep))]) (b := 83) (st := []) mkX9_speak qX9_runBody_146 rfl (rc_83) rfl rfl rfl rfl (Nat.le_of_ble_eq_true rfl) (cv2_1_2 (b := (1 + b)) (dep := (1 + dep)) ((apt_f (by decide) (by decide)).trans hk) ((apt_f (by decide) (by decide)).trans hn) ((apt_f (by decide) (by decide)).trans hm) (apt_0 (by decide) hb) (by omega) (by omega)) ?_
    rw [show apt 84 83 0 (apt 84 83 0 α b [13]) (1 + b) [30, 11, 10, 12] = apt 84 83 0 α b [13, 30, 11, 10, 12] from apt_app (by simp)]
    refine ok_step (ps := []) (L' := [some (.ref 83), some (.int (nI 13)), some (.int (nI 0)), some (.int x), some (.int (nI (1 + dep)))]) (st' := [.int (nI (1 + dep)), .int x, .int (nI 2), .int ((apt 84 83 0 α b [13, 30, 11, 10, 12]) 83 2), .ref 83, .int (((x + nu) * nI 2) - ((nI 1) - mn))]) (σ' := (apt 84 83 0 α b [13, 30, 11, 10, 12], δ)) (pc' := 158) kX9_runBody_149 rfl rfl rf_a0 ?_
    try rw [(show (apt 84 83 0 α b [13, 30, 11, 10, 12]) 83 2 = nI 2 from (apt_f (by decide) (by decide)).trans hk)]
    refine ok_V (As := [.int (nI 2), .int (nI 2), .int x, .int (nI (1 + dep))]) (b := 83) (st := [.int (((x + nu) * nI 2) - ((nI 1) - mn))]) mkX9_speak qX9_runBody_158 rfl (rc_83) rfl rfl rfl rfl (Nat.le_of_ble_eq_true rfl) (cv2_2_2 (b := (5 + b)) (dep := (1 + dep)) ((apt_f (by decide) (by decide)).trans hk) ((apt_f (by decide) (by decide)).trans hn) ((apt_f (by decide) (by decide)).trans hm) (apt_0 (by decide) hb) (by omega) (by omega)) ?_
    rw [show apt 84 83 0 (apt 84 83 0 α b [13, 30, 11, 10, 12]) (5 + b) [12] = apt 84 83 0 α b [13, 30, 11, 10, 12, 12] from apt_app (by simp)]
    refine ok_step (ps := []) (L' := [some (.ref 83), some (.int (nI 13)), some (.int (nI 0)), some (.int x), some (.int (nI (1 + dep)))]) (st' := [.int ((((x + nu) * nI 2) - ((nI 1) - mn)) ^^^ (x - mn))]) (σ' := (apt 84 83 0 α b [13, 30, 11, 10, 12, 12], δ)) (pc' := 162) kX9_runBody_161 rfl rfl rf_a0 ?_
    refine ok_reti eX9_runBody_162 rfl ?_
    exact ⟨rfl, rfl⟩
  refine ok_V (As := [.int (nI 13), .int (nI 0), .int x, .int (nI (1 + dep))]) (b := 83) (st := []) mkX9_runBody qX9_speak_105 rfl (rc_83) rfl rfl rfl rfl (Nat.le_of_ble_eq_true rfl) (hc105) ?_
  refine ok_reti eX9_speak_108 rfl ?_
  exact ⟨rfl, rfl⟩
theorem cv3_0_3 {x : Int32} {b dep : Nat} (hk : α 83 2 = nI 3) (hn : α 83 3 = nu) (hm : α 83 4 = mn) (hb : α 83 0 = nI b) (hl : b + 1 ≤ 40) (hd : dep + 1 ≤ 30) : rf_At (rf_T Ln xs) MX9_speak 2 0 ([some (.ref 83), some (.int (nI 3)), some (.int (nI 0)), some (.int x), some (.int (nI dep)), none, none], [], 108, (α, δ)) (some (.int (x + nu))) 108 (apt 84 83 0 α b [10], δ) := by
  refine rf_pa ?_
  refine ok_step (ps := []) (L' := [some (.ref 83), some (.int (nI 3)), some (.int (nI 0)), some (.int x), some (.int (nI dep)), some (.int (nI 3)), some (.int (nI 0))]) (st' := []) (σ' := (α, δ)) (pc' := 6) kX9_speak_0 rfl rfl rf_a0 ?_
  refine ok_step (ps := []) (L' := [some (.ref 83), some (.int (nI 3)), some (.int (nI 0)), some (.int x), some (.int (nI dep)), some (.int (nI 3)), some (.int (nI 0))]) (st' := [.int (nI 8), .int (nI 0)]) (σ' := (α, δ)) (pc' := 10) kX9_speak_6 rfl rfl rf_a0 ?_
  refine ok_icmp_ge bX9_speak_10 (fun h10 => absurd h10 ((by decide))) (fun _ => ?_)
  refine ok_step (ps := [rf_in (((nI 3) * (nI 4)) + (nI 0)) 32]) (L' := [some (.ref 83), some (.int (nI 3)), some (.int (nI 0)), some (.int x), some (.int (nI dep)), some (.int (nI 3)), some (.int (nI 0))]) (st' := [.int (tBodies ((((nI 3) * (nI 4)) + (nI 0)).toNatClampNeg))]) (σ' := (α, δ)) (pc' := 23) kX9_speak_13 rfl rfl (rf_a1 (rf_in_n (a := 12) (by (try rw [(show ((nI 3) * (nI 4)) = nI 12 from rf_eq (rf_nmul (x := nI 3) (y := nI 4) rfl rfl) (by omega))]); (try rw [(show ((nI 12) + (nI 0)) = nI 12 from rf_eq (rf_nadd (x := nI 12) (y := nI 0) rfl rfl) (by omega))]); all_goals exact rfl) (by omega)) rf_a0) ?_
  try rw [(show ((nI 3) * (nI 4)) = nI 12 from rf_eq (rf_nmul (x := nI 3) (y := nI 4) rfl rfl) (by omega))]
  try rw [(show ((nI 12) + (nI 0)) = nI 12 from rf_eq (rf_nadd (x := nI 12) (y := nI 0) rfl rfl) (by omega))]
  try rw [(show (nI 12).toNatClampNeg = 12 from rf_cl_n rfl (by omega))]
  try rw [(show tBodies 12 = nI 0 from rfl)]
  refine ok_if_ne bX9_speak_23 (fun h23 => absurd ((by decide)) h23) (fun _ => ?_)
  refine ok_step (ps := [rf_in (nI 3) 8]) (L' := [some (.ref 83), some (.int (nI 3)), some (.int (nI 0)), some (.int x), some (.int (nI dep)), some (.int (tAbove ((nI 3).toNatClampNeg))), some (.int ((nI 0) + (nI 1)))]) (st' := []) (σ' := (α, δ)) (pc' := 37) kX9_speak_26 rfl rfl (rf_a1 (rf_in_n (a := 3) rfl (by omega)) rf_a0) ?_
  try rw [(show (nI 3).toNatClampNeg = 3 from rf_cl_n rfl (by omega))]
  try rw [(show tAbove 3 = nI 2 from rfl)]
  try rw [(show ((nI 0) + (nI 1)) = nI 1 from rf_eq (rf_nadd (x := nI 0) (y := nI 1) rfl rfl) (by omega))]
  refine ok_goto bX9_speak_37 ?_
  refine ok_step (ps := []) (L' := [some (.ref 83), some (.int (nI 3)), some (.int (nI 0)), some (.int x), some (.int (nI dep)), some (.int (nI 2)), some (.int (nI 1))]) (st' := [.int (nI 8), .int (nI 1)]) (σ' := (α, δ)) (pc' := 10) kX9_speak_6 rfl rfl rf_a0 ?_
  refine ok_icmp_ge bX9_speak_10 (fun h10 => absurd h10 ((by decide))) (fun _ => ?_)
  refine ok_step (ps := [rf_in (((nI 2) * (nI 4)) + (nI 0)) 32]) (L' := [some (.ref 83), some (.int (nI 3)), some (.int (nI 0)), some (.int x), some (.int (nI dep)), some (.int (nI 2)), some (.int (nI 1))]) (st' := [.int (tBodies ((((nI 2) * (nI 4)) + (nI 0)).toNatClampNeg))]) (σ' := (α, δ)) (pc' := 23) kX9_speak_13 rfl rfl (rf_a1 (rf_in_n (a := 8) (by (try rw [(show ((nI 2) * (nI 4)) = nI 8 from rf_eq (rf_nmul (x := nI 2) (y := nI 4) rfl rfl) (by omega))]); (try rw [(show ((nI 8) + (nI 0)) = nI 8 from rf_eq (rf_nadd (x := nI 8) (y := nI 0) rfl rfl) (by omega))]); all_goals exact rfl) (by omega)) rf_a0) ?_
  try rw [(show ((nI 2) * (nI 4)) = nI 8 from rf_eq (rf_nmul (x := nI 2) (y := nI 4) rfl rfl) (by omega))]
  try rw [(show ((nI 8) + (nI 0)) = nI 8 from rf_eq (rf_nadd (x := nI 8) (y := nI 0) rfl rfl) (by omega))]
  try rw [(show (nI 8).toNatClampNeg = 8 from rf_cl_n rfl (by omega))]
  try rw [(show tBodies 8 = nI 0 from rfl)]
  refine ok_if_ne bX9_speak_23 (fun h23 => absurd ((by decide)) h23) (fun _ => ?_)
  refine ok_step (ps := [rf_in (nI 2) 8]) (L' := [some (.ref 83), some (.int (nI 3)), some (.int (nI 0)), some (.int x), some (.int (nI dep)), some (.int (tAbove ((nI 2).toNatClampNeg))), some (.int ((nI 1) + (nI 1)))]) (st' := []) (σ' := (α, δ)) (pc' := 37) kX9_speak_26 rfl rfl (rf_a1 (rf_in_n (a := 2) rfl (by omega)) rf_a0) ?_
  try rw [(show (nI 2).toNatClampNeg = 2 from rf_cl_n rfl (by omega))]
  try rw [(show tAbove 2 = nI 0 from rfl)]
  try rw [(show ((nI 1) + (nI 1)) = nI 2 from rf_eq (rf_nadd (x := nI 1) (y := nI 1) rfl rfl) (by omega))]
  refine ok_goto bX9_speak_37 ?_
  refine ok_step (ps := []) (L' := [some (.ref 83), some (.int (nI 3)), some (.int (nI 0)), some (.int x), some (.int (nI dep)), some (.int (nI 0)), some (.int (nI 2))]) (st' := [.int (nI 8), .int (nI 2)]) (σ' := (α, δ)) (pc' := 10) kX9_speak_6 rfl rfl rf_a0 ?_
  refine ok_icmp_ge bX9_speak_10 (fun h10 => absurd h10 ((by decide))) (fun _ => ?_)
  refine ok_step (ps := [rf_in (((nI 0) * (nI 4)) + (nI 0)) 32]) (L' := [some (.ref 83), some (.int (nI 3)), some (.int (nI 0)), some (.int x), some (.int (nI dep)), some (.int (nI 0)), some (.int (nI 2))]) (st' := [.int (tBodies ((((nI 0) * (nI 4)) + (nI 0)).toNatClampNeg))]) (σ' := (α, δ)) (pc' := 23) kX9_speak_13 rfl rfl (rf_a1 (rf_in_n (a := 0) (by (try rw [(show ((nI 0) * (nI 4)) = nI 0 from rf_eq (rf_nmul (x := nI 0) (y := nI 4) rfl rfl) (by omega))]); (try rw [(show ((nI 0) + (nI 0)) = nI 0 from rf_eq (rf_nadd (x := nI 0) (y := nI 0) rfl rfl) (by omega))]); all_goals exact rfl) (by omega)) rf_a0) ?_
  try rw [(show ((nI 0) * (nI 4)) = nI 0 from rf_eq (rf_nmul (x := nI 0) (y := nI 4) rfl rfl) (by omega))]
  try rw [(show ((nI 0) + (nI 0)) = nI 0 from rf_eq (rf_nadd (x := nI 0) (y := nI 0) rfl rfl) (by omega))]
  try rw [(show (nI 0).toNatClampNeg = 0 from rf_cl_n rfl (by omega))]
  try rw [(show tBodies 0 = nI 10 from rfl)]
  refine ok_if_ne bX9_speak_23 (fun _ => ?_) (fun h23 => absurd h23 ((by decide)))
  refine ok_step (ps := []) (L' := [some (.ref 83), some (.int (nI 3)), some (.int (nI 0)), some (.int x), some (.int (nI dep)), some (.int (nI 0)), some (.int (nI 2))]) (st' := [.int (nI 30), .int (nI dep)]) (σ' := (α, δ)) (pc' := 44) kX9_speak_40 rfl rfl rf_a0 ?_
  refine ok_icmp_le bX9_speak_44 (fun _ => ?_) (fun h44 => absurd (nI_le (by omega) (by omega)) h44)
  refine ok_step (ps := [rf_in (((nI 0) * (nI 4)) + (nI 0)) 32]) (L' := [some (.ref 83), some (.int (nI 3)), some (.int (nI 0)), some (.int x), some (.int (nI dep)), some (.int (nI 0)), some (.int (tBodies ((((nI 0) * (nI 4)) + (nI 0)).toNatClampNeg)))]) (st' := [.int (nI 40), .int (α 83 0)]) (σ' := (α, δ)) (pc' := 67) kX9_speak_49 rfl rfl (rf_a1 (rf_in_n (a := 0) (by (try rw [(show ((nI 0) * (nI 4)) = nI 0 from rf_eq (rf_nmul (x := nI 0) (y := nI 4) rfl rfl) (by omega))]); (try rw [(show ((nI 0) + (nI 0)) = nI 0 from rf_eq (rf_nadd (x := nI 0) (y := nI 0) rfl rfl) (by omega))]); all_goals exact rfl) (by omega)) rf_a0) ?_
  try rw [(show ((nI 0) * (nI 4)) = nI 0 from rf_eq (rf_nmul (x := nI 0) (y := nI 4) rfl rfl) (by omega))]
  try rw [(show ((nI 0) + (nI 0)) = nI 0 from rf_eq (rf_nadd (x := nI 0) (y := nI 0) rfl rfl) (by omega))]
  try rw [(show (nI 0).toNatClampNeg = 0 from rf_cl_n rfl (by omega))]
  try rw [(show tBodies 0 = nI 10 from rfl)]
  try rw [(show α 83 0 = nI b from hb)]
  refine ok_icmp_ge bX9_speak_67 (fun h67 => absurd h67 (nI_ge (by omega) (by omega))) (fun _ => ?_)
  refine ok_step (ps := [rf_in (α 83 0) 40]) (L' := [some (.ref 83), some (.int (nI 3)), some (.int (nI 0)), some (.int x), some (.int (nI dep)), some (.int (nI 0)), some (.int (nI 10))]) (st' := []) (σ' := (rf_w (rf_w α 84 ((α 83 0).toNatClampNeg) (nI 10)) 83 0 (((rf_w α 84 ((α 83 0).toNatClampNeg) (nI 10)) 83 0) + (nI 1)), δ)) (pc' := 91) kX9_speak_70 rfl rfl (rf_a1 (rf_in_n (a := b) (by (try rw [(show α 83 0 = nI b from hb)]); all_goals exact rfl) (by omega)) rf_a0) ?_
  try rw [(show α 83 0 = nI b from hb)]
  try rw [(show (nI b).toNatClampNeg = b from rf_cl_n rfl (by omega))]
  try rw [(show (rf_w α 84 b (nI 10)) 83 0 = α 83 0 from by rw [rf_w_at, if_neg (fun h => absurd h.1 (by decide))])]
  try rw [(show α 83 0 = nI b from hb)]
  try rw [(show ((nI b) + (nI 1)) = nI (1 + b) from rf_eq (rf_nadd (x := nI b) (y := nI 1) rfl rfl) (by omega))]
  rw [show rf_w (rf_w α 84 b (nI 10)) 83 0 (nI (1 + b)) = apt 84 83 0 α b [10] from apt_w (L := []) (by simp) (by omega)]
  refine ok_step (ps := [rf_in (nI 0) 8]) (L' := [some (.ref 83), some (.int (nI 3)), some (.int (nI 0)), some (.int x), some (.int (nI dep)), some (.int (nI 0)), some (.int (nI 10))]) (st' := [.int ((nI dep) + (nI 1)), .int x, .int (tAbove ((nI 0).toNatClampNeg)), .int (nI 10), .ref 83]) (σ' := (apt 84 83 0 α b [10], δ)) (pc' := 105) kX9_speak_91 rfl rfl (rf_a1 (rf_in_n (a := 0) rfl (by omega)) rf_a0) ?_
  try rw [(show (nI 0).toNatClampNeg = 0 from rf_cl_n rfl (by omega))]
  try rw [(show tAbove 0 = nI 0 from rfl)]
  try rw [(show ((nI dep) + (nI 1)) = nI (1 + dep) from rf_eq (rf_nadd (x := nI dep) (y := nI 1) rfl rfl) (by omega))]
  have hc105 : rf_At (rf_T Ln xs) MX9_runBody 1 0 ([some (.ref 83), some (.int (nI 10)), some (.int (nI 0)), some (.int x), some (.int (nI (1 + dep)))], [], 108, (apt 84 83 0 α b [10], δ)) (some (.int (x + nu))) 108 (apt 84 83 0 α b [10], δ) := by
    refine rf_pa ?_
    refine ok_step (ps := []) (L' := [some (.ref 83), some (.int (nI 10)), some (.int (nI 0)), some (.int x), some (.int (nI (1 + dep)))]) (st' := [.int (nI 10)]) (σ' := (apt 84 83 0 α b [10], δ)) (pc' := 1) kX9_runBody_0 rfl rfl rf_a0 ?_
    refine ok_lkk (q := (10, 107)) (t := 108) bX9_runBody_1 (by decide) (by decide) (by decide) (by decide) ?_
    refine ok_step (ps := []) (L' := [some (.ref 83), some (.int (nI 10)), some (.int (nI 0)), some (.int x), some (.int (nI (1 + dep)))]) (st' := [.int (x + ((apt 84 83 0 α b [10]) 83 3))]) (σ' := (apt 84 83 0 α b [10], δ)) (pc' := 114) kX9_runBody_108 rfl rfl rf_a0 ?_
    try rw [(show (apt 84 83 0 α b [10]) 83 3 = nu from (apt_f (by decide) (by decide)).trans hn)]
    refine ok_reti eX9_runBody_114 rfl ?_
    exact ⟨rfl, rfl⟩
  refine ok_V (As := [.int (nI 10), .int (nI 0), .int x, .int (nI (1 + dep))]) (b := 83) (st := []) mkX9_runBody qX9_speak_105 rfl (rc_83) rfl rfl rfl rfl (Nat.le_of_ble_eq_true rfl) (hc105) ?_
  refine ok_reti eX9_speak_108 rfl ?_
  exact ⟨rfl, rfl⟩
theorem cv3_1_0 {x : Int32} {b dep : Nat} (hk : α 83 2 = nI 3) (hn : α 83 3 = nu) (hm : α 83 4 = mn) (hb : α 83 0 = nI b) (hl : b + 2 ≤ 40) (hd : dep + 2 ≤ 30) : rf_At (rf_T Ln xs) MX9_speak 4 0 ([some (.ref 83), some (.int (nI 0)), some (.int (nI 1)), some (.int x), some (.int (nI dep)), none, none], [], 108, (α, δ)) (some (.int ((x + nu) * nI 2))) 108 (apt 84 83 0 α b [11, 10], δ) := by
  refine rf_pa ?_
  refine ok_step (ps := []) (L' := [some (.ref 83), some (.int (nI 0)), some (.int (nI 1)), some (.int x), some (.int (nI dep)), some (.int (nI 0)), some (.int (nI 0))]) (st' := []) (σ' := (α, δ)) (pc' := 6) kX9_speak_0 rfl rfl rf_a0 ?_
  refine ok_step (ps := []) (L' := [some (.ref 83), some (.int (nI 0)), some (.int (nI 1)), some (.int x), some (.int (nI dep)), some (.int (nI 0)), some (.int (nI 0))]) (st' := [.int (nI 8), .int (nI 0)]) (σ' := (α, δ)) (pc' := 10) kX9_speak_6 rfl rfl rf_a0 ?_
  refine ok_icmp_ge bX9_speak_10 (fun h10 => absurd h10 ((by decide))) (fun _ => ?_)
  refine ok_step (ps := [rf_in (((nI 0) * (nI 4)) + (nI 1)) 32]) (L' := [some (.ref 83), some (.int (nI 0)), some (.int (nI 1)), some (.int x), some (.int (nI dep)), some (.int (nI 0)), some (.int (nI 0))]) (st' := [.int (tBodies ((((nI 0) * (nI 4)) + (nI 1)).toNatClampNeg))]) (σ' := (α, δ)) (pc' := 23) kX9_speak_13 rfl rfl (rf_a1 (rf_in_n (a := 1) (by (try rw [(show ((nI 0) * (nI 4)) = nI 0 from rf_eq (rf_nmul (x := nI 0) (y := nI 4) rfl rfl) (by omega))]); (try rw [(show ((nI 0) + (nI 1)) = nI 1 from rf_eq (rf_nadd (x := nI 0) (y := nI 1) rfl rfl) (by omega))]); all_goals exact rfl) (by omega)) rf_a0) ?_
  try rw [(show ((nI 0) * (nI 4)) = nI 0 from rf_eq (rf_nmul (x := nI 0) (y := nI 4) rfl rfl) (by omega))]
  try rw [(show ((nI 0) + (nI 1)) = nI 1 from rf_eq (rf_nadd (x := nI 0) (y := nI 1) rfl rfl) (by omega))]
  try rw [(show (nI 1).toNatClampNeg = 1 from rf_cl_n rfl (by omega))]
  try rw [(show tBodies 1 = nI 11 from rfl)]
  refine ok_if_ne bX9_speak_23 (fun _ => ?_) (fun h23 => absurd h23 ((by decide)))
  refine ok_step (ps := []) (L' := [some (.ref 83), some (.int (nI 0)), some (.int (nI 1)), some (.int x), some (.int (nI dep)), some (.int (nI 0)), some (.int (nI 0))]) (st' := [.int (nI 30), .int (nI dep)]) (σ' := (α, δ)) (pc' := 44) kX9_speak_40 rfl rfl rf_a0 ?_
  refine ok_icmp_le bX9_speak_44 (fun _ => ?_) (fun h44 => absurd (nI_le (by omega) (by omega)) h44)
  refine ok_step (ps := [rf_in (((nI 0) * (nI 4)) + (nI 1)) 32]) (L' := [some (.ref 83), some (.int (nI 0)), some (.int (nI 1)), some (.int x), some (.int (nI dep)), some (.int (nI 0)), some (.int (tBodies ((((nI 0) * (nI 4)) + (nI 1)).toNatClampNeg)))]) (st' := [.int (nI 40), .int (α 83 0)]) (σ' := (α, δ)) (pc' := 67) kX9_speak_49 rfl rfl (rf_a1 (rf_in_n (a := 1) (by (try rw [(show ((nI 0) * (nI 4)) = nI 0 from rf_eq (rf_nmul (x := nI 0) (y := nI 4) rfl rfl) (by omega))]); (try rw [(show ((nI 0) + (nI 1)) = nI 1 from rf_eq (rf_nadd (x := nI 0) (y := nI 1) rfl rfl) (by omega))]); all_goals exact rfl) (by omega)) rf_a0) ?_
  try rw [(show ((nI 0) * (nI 4)) = nI 0 from rf_eq (rf_nmul (x := nI 0) (y := nI 4) rfl rfl) (by omega))]
  try rw [(show ((nI 0) + (nI 1)) = nI 1 from rf_eq (rf_nadd (x := nI 0) (y := nI 1) rfl rfl) (by omega))]
  try rw [(show (nI 1).toNatClampNeg = 1 from rf_cl_n rfl (by omega))]
  try rw [(show tBodies 1 = nI 11 from rfl)]
  try rw [(show α 83 0 = nI b from hb)]
  refine ok_icmp_ge bX9_speak_67 (fun h67 => absurd h67 (nI_ge (by omega) (by omega))) (fun _ => ?_)
  refine ok_step (ps := [rf_in (α 83 0) 40]) (L' := [some (.ref 83), some (.int (nI 0)), some (.int (nI 1)), some (.int x), some (.int (nI dep)), some (.int (nI 0)), some (.int (nI 11))]) (st' := []) (σ' := (rf_w (rf_w α 84 ((α 83 0).toNatClampNeg) (nI 11)) 83 0 (((rf_w α 84 ((α 83 0).toNatClampNeg) (nI 11)) 83 0) + (nI 1)), δ)) (pc' := 91) kX9_speak_70 rfl rfl (rf_a1 (rf_in_n (a := b) (by (try rw [(show α 83 0 = nI b from hb)]); all_goals exact rfl) (by omega)) rf_a0) ?_
  try rw [(show α 83 0 = nI b from hb)]
  try rw [(show (nI b).toNatClampNeg = b from rf_cl_n rfl (by omega))]
  try rw [(show (rf_w α 84 b (nI 11)) 83 0 = α 83 0 from by rw [rf_w_at, if_neg (fun h => absurd h.1 (by decide))])]
  try rw [(show α 83 0 = nI b from hb)]
  try rw [(show ((nI b) + (nI 1)) = nI (1 + b) from rf_eq (rf_nadd (x := nI b) (y := nI 1) rfl rfl) (by omega))]
  rw [show rf_w (rf_w α 84 b (nI 11)) 83 0 (nI (1 + b)) = apt 84 83 0 α b [11] from apt_w (L := []) (by simp) (by omega)]
  refine ok_step (ps := [rf_in (nI 0) 8]) (L' := [some (.ref 83), some (.int (nI 0)), some (.int (nI 1)), some (.int x), some (.int (nI dep)), some (.int (nI 0)), some (.int (nI 11))]) (st' := [.int ((nI dep) + (nI 1)), .int x, .int (tAbove ((nI 0).toNatClampNeg)), .int (nI 11), .ref 83]) (σ' := (apt 84 83 0 α b [11], δ)) (pc' := 105) kX9_speak_91 rfl rfl (rf_a1 (rf_in_n (a := 0) rfl (by omega)) rf_a0) ?_
  try rw [(show (nI 0).toNatClampNeg = 0 from rf_cl_n rfl (by omega))]
  try rw [(show tAbove 0 = nI 0 from rfl)]
  try rw [(show ((nI dep) + (nI 1)) = nI (1 + dep) from rf_eq (rf_nadd (x := nI dep) (y := nI 1) rfl rfl) (by omega))]
  have hc105 : rf_At (rf_T Ln xs) MX9_runBody 3 0 ([some (.ref 83), some (.int (nI 11)), some (.int (nI 0)), some (.int x), some (.int (nI (1 + dep)))], [], 108, (apt 84 83 0 α b [11], δ)) (some (.int ((x + nu) * (nI 2)))) 108 (apt 84 83 0 α b [11, 10], δ) := by
    refine rf_pa ?_
    refine ok_step (ps := []) (L' := [some (.ref 83), some (.int (nI 11)), some (.int (nI 0)), some (.int x), some (.int (nI (1 + dep)))]) (st' := [.int (nI 11)]) (σ' := (apt 84 83 0 α b [11], δ)) (pc' := 1) kX9_runBody_0 rfl rfl rf_a0 ?_
    refine ok_lkk (q := (11, 114)) (t := 115) bX9_runBody_1 (by decide) (by decide) (by decide) (by decide) ?_
    refine ok_step (ps := []) (L' := [some (.ref 83), some (.int (nI 11)), some (.int (nI 0)), some (.int x), some (.int (nI (1 + dep)))]) (st' := [.int (nI (1 + dep)), .int x, .int (nI 0), .int ((apt 84 83 0 α b [11]) 83 2), .ref 83]) (σ' := (apt 84 83 0 α b [11], δ)) (pc' := 124) kX9_runBody_115 rfl rfl rf_a0 ?_
    try rw [(show (apt 84 83 0 α b [11]) 83 2 = nI 3 from (apt_f (by decide) (by decide)).trans hk)]
    refine ok_V (As := [.int (nI 3), .int (nI 0), .int x, .int (nI (1 + dep))]) (b := 83) (st := []) mkX9_speak qX9_runBody_124 rfl (rc_83) rfl rfl rfl rfl (Nat.le_of_ble_eq_true rfl) (cv3_0_3 (b := (1 + b)) (dep := (1 + dep)) ((apt_f (by decide) (by decide)).trans hk) ((apt_f (by decide) (by decide)).trans hn) ((apt_f (by decide) (by decide)).trans hm) (apt_0 (by decide) hb) (by omega) (by omega)) ?_
    rw [show apt 84 83 0 (apt 84 83 0 α b [11]) (1 + b) [10] = apt 84 83 0 α b [11, 10] from apt_app (by simp)]
    refine ok_step (ps := []) (L' := [some (.ref 83), some (.int (nI 11)), some (.int (nI 0)), some (.int x), some (.int (nI (1 + dep)))]) (st' := [.int ((x + nu) * (nI 2))]) (σ' := (apt 84 83 0 α b [11, 10], δ)) (pc' := 129) kX9_runBody_127 rfl rfl rf_a0 ?_
    refine ok_reti eX9_runBody_129 rfl ?_
    exact ⟨rfl, rfl⟩
  refine ok_V (As := [.int (nI 11), .int (nI 0), .int x, .int (nI (1 + dep))]) (b := 83) (st := []) mkX9_runBody qX9_speak_105 rfl (rc_83) rfl rfl rfl rfl (Nat.le_of_ble_eq_true rfl) (hc105) ?_
  refine ok_reti eX9_speak_108 rfl ?_
  exact ⟨rfl, rfl⟩
theorem cv3_2_2 {x : Int32} {b dep : Nat} (hk : α 83 2 = nI 3) (hn : α 83 3 = nu) (hm : α 83 4 = mn) (hb : α 83 0 = nI b) (hl : b + 1 ≤ 40) (hd : dep + 1 ≤ 30) : rf_At (rf_T Ln xs) MX9_speak 2 0 ([some (.ref 83), some (.int (nI 2)), some (.int (nI 2)), some (.int x), some (.int (nI dep)), none, none], [], 108, (α, δ)) (some (.int (x - mn))) 108 (apt 84 83 0 α b [12], δ) := by
  refine rf_pa ?_
  refine ok_step (ps := []) (L' := [some (.ref 83), some (.int (nI 2)), some (.int (nI 2)), some (.int x), some (.int (nI dep)), some (.int (nI 2)), some (.int (nI 0))]) (st' := []) (σ' := (α, δ)) (pc' := 6) kX9_speak_0 rfl rfl rf_a0 ?_
  refine ok_step (ps := []) (L' := [some (.ref 83), some (.int (nI 2)), some (.int (nI 2)), some (.int x), some (.int (nI dep)), some (.int (nI 2)), some (.int (nI 0))]) (st' := [.int (nI 8), .int (nI 0)]) (σ' := (α, δ)) (pc' := 10) kX9_speak_6 rfl rfl rf_a0 ?_
  refine ok_icmp_ge bX9_speak_10 (fun h10 => absurd h10 ((by decide))) (fun _ => ?_)
  refine ok_step (ps := [rf_in (((nI 2) * (nI 4)) + (nI 2)) 32]) (L' := [some (.ref 83), some (.int (nI 2)), some (.int (nI 2)), some (.int x), some (.int (nI dep)), some (.int (nI 2)), some (.int (nI 0))]) (st' := [.int (tBodies ((((nI 2) * (nI 4)) + (nI 2)).toNatClampNeg))]) (σ' := (α, δ)) (pc' := 23) kX9_speak_13 rfl rfl (rf_a1 (rf_in_n (a := 10) (by (try rw [(show ((nI 2) * (nI 4)) = nI 8 from rf_eq (rf_nmul (x := nI 2) (y := nI 4) rfl rfl) (by omega))]); (try rw [(show ((nI 8) + (nI 2)) = nI 10 from rf_eq (rf_nadd (x := nI 8) (y := nI 2) rfl rfl) (by omega))]); all_goals exact rfl) (by omega)) rf_a0) ?_
  try rw [(show ((nI 2) * (nI 4)) = nI 8 from rf_eq (rf_nmul (x := nI 2) (y := nI 4) rfl rfl) (by omega))]
  try rw [(show ((nI 8) + (nI 2)) = nI 10 from rf_eq (rf_nadd (x := nI 8) (y := nI 2) rfl rfl) (by omega))]
  try rw [(show (nI 10).toNatClampNeg = 10 from rf_cl_n rfl (by omega))]
  try rw [(show tBodies 10 = nI 0 from rfl)]
  refine ok_if_ne bX9_speak_23 (fun h23 => absurd ((by decide)) h23) (fun _ => ?_)
  refine ok_step (ps := [rf_in (nI 2) 8]) (L' := [some (.ref 83), some (.int (nI 2)), some (.int (nI 2)), some (.int x), some (.int (nI dep)), some (.int (tAbove ((nI 2).toNatClampNeg))), some (.int ((nI 0) + (nI 1)))]) (st' := []) (σ' := (α, δ)) (pc' := 37) kX9_speak_26 rfl rfl (rf_a1 (rf_in_n (a := 2) rfl (by omega)) rf_a0) ?_
  try rw [(show (nI 2).toNatClampNeg = 2 from rf_cl_n rfl (by omega))]
  try rw [(show tAbove 2 = nI 0 from rfl)]
  try rw [(show ((nI 0) + (nI 1)) = nI 1 from rf_eq (rf_nadd (x := nI 0) (y := nI 1) rfl rfl) (by omega))]
  refine ok_goto bX9_speak_37 ?_
  refine ok_step (ps := []) (L' := [some (.ref 83), some (.int (nI 2)), some (.int (nI 2)), some (.int x), some (.int (nI dep)), some (.int (nI 0)), some (.int (nI 1))]) (st' := [.int (nI 8), .int (nI 1)]) (σ' := (α, δ)) (pc' := 10) kX9_speak_6 rfl rfl rf_a0 ?_
  refine ok_icmp_ge bX9_speak_10 (fun h10 => absurd h10 ((by decide))) (fun _ => ?_)
  refine ok_step (ps := [rf_in (((nI 0) * (nI 4)) + (nI 2)) 32]) (L' := [some (.ref 83), some (.int (nI 2)), some (.int (nI 2)), some (.int x), some (.int (nI dep)), some (.int (nI 0)), some (.int (nI 1))]) (st' := [.int (tBodies ((((nI 0) * (nI 4)) + (nI 2)).toNatClampNeg))]) (σ' := (α, δ)) (pc' := 23) kX9_speak_13 rfl rfl (rf_a1 (rf_in_n (a := 2) (by (try rw [(show ((nI 0) * (nI 4)) = nI 0 from rf_eq (rf_nmul (x := nI 0) (y := nI 4) rfl rfl) (by omega))]); (try rw [(show ((nI 0) + (nI 2)) = nI 2 from rf_eq (rf_nadd (x := nI 0) (y := nI 2) rfl rfl) (by omega))]); all_goals exact rfl) (by omega)) rf_a0) ?_
  try rw [(show ((nI 0) * (nI 4)) = nI 0 from rf_eq (rf_nmul (x := nI 0) (y := nI 4) rfl rfl) (by omega))]
  try rw [(show ((nI 0) + (nI 2)) = nI 2 from rf_eq (rf_nadd (x := nI 0) (y := nI 2) rfl rfl) (by omega))]
  try rw [(show (nI 2).toNatClampNeg = 2 from rf_cl_n rfl (by omega))]
  try rw [(show tBodies 2 = nI 12 from rfl)]
  refine ok_if_ne bX9_speak_23 (fun _ => ?_) (fun h23 => absurd h23 ((by decide)))
  refine ok_step (ps := []) (L' := [some (.ref 83), some (.int (nI 2)), some (.int (nI 2)), some (.int x), some (.int (nI dep)), some (.int (nI 0)), some (.int (nI 1))]) (st' := [.int (nI 30), .int (nI dep)]) (σ' := (α, δ)) (pc' := 44) kX9_speak_40 rfl rfl rf_a0 ?_
  refine ok_icmp_le bX9_speak_44 (fun _ => ?_) (fun h44 => absurd (nI_le (by omega) (by omega)) h44)
  refine ok_step (ps := [rf_in (((nI 0) * (nI 4)) + (nI 2)) 32]) (L' := [some (.ref 83), some (.int (nI 2)), some (.int (nI 2)), some (.int x), some (.int (nI dep)), some (.int (nI 0)), some (.int (tBodies ((((nI 0) * (nI 4)) + (nI 2)).toNatClampNeg)))]) (st' := [.int (nI 40), .int (α 83 0)]) (σ' := (α, δ)) (pc' := 67) kX9_speak_49 rfl rfl (rf_a1 (rf_in_n (a := 2) (by (try rw [(show ((nI 0) * (nI 4)) = nI 0 from rf_eq (rf_nmul (x := nI 0) (y := nI 4) rfl rfl) (by omega))]); (try rw [(show ((nI 0) + (nI 2)) = nI 2 from rf_eq (rf_nadd (x := nI 0) (y := nI 2) rfl rfl) (by omega))]); all_goals exact rfl) (by omega)) rf_a0) ?_
  try rw [(show ((nI 0) * (nI 4)) = nI 0 from rf_eq (rf_nmul (x := nI 0) (y := nI 4) rfl rfl) (by omega))]
  try rw [(show ((nI 0) + (nI 2)) = nI 2 from rf_eq (rf_nadd (x := nI 0) (y := nI 2) rfl rfl) (by omega))]
  try rw [(show (nI 2).toNatClampNeg = 2 from rf_cl_n rfl (by omega))]
  try rw [(show tBodies 2 = nI 12 from rfl)]
  try rw [(show α 83 0 = nI b from hb)]
  refine ok_icmp_ge bX9_speak_67 (fun h67 => absurd h67 (nI_ge (by omega) (by omega))) (fun _ => ?_)
  refine ok_step (ps := [rf_in (α 83 0) 40]) (L' := [some (.ref 83), some (.int (nI 2)), some (.int (nI 2)), some (.int x), some (.int (nI dep)), some (.int (nI 0)), some (.int (nI 12))]) (st' := []) (σ' := (rf_w (rf_w α 84 ((α 83 0).toNatClampNeg) (nI 12)) 83 0 (((rf_w α 84 ((α 83 0).toNatClampNeg) (nI 12)) 83 0) + (nI 1)), δ)) (pc' := 91) kX9_speak_70 rfl rfl (rf_a1 (rf_in_n (a := b) (by (try rw [(show α 83 0 = nI b from hb)]); all_goals exact rfl) (by omega)) rf_a0) ?_
  try rw [(show α 83 0 = nI b from hb)]
  try rw [(show (nI b).toNatClampNeg = b from rf_cl_n rfl (by omega))]
  try rw [(show (rf_w α 84 b (nI 12)) 83 0 = α 83 0 from by rw [rf_w_at, if_neg (fun h => absurd h.1 (by decide))])]
  try rw [(show α 83 0 = nI b from hb)]
  try rw [(show ((nI b) + (nI 1)) = nI (1 + b) from rf_eq (rf_nadd (x := nI b) (y := nI 1) rfl rfl) (by omega))]
  rw [show rf_w (rf_w α 84 b (nI 12)) 83 0 (nI (1 + b)) = apt 84 83 0 α b [12] from apt_w (L := []) (by simp) (by omega)]
  refine ok_step (ps := [rf_in (nI 0) 8]) (L' := [some (.ref 83), some (.int (nI 2)), some (.int (nI 2)), some (.int x), some (.int (nI dep)), some (.int (nI 0)), some (.int (nI 12))]) (st' := [.int ((nI dep) + (nI 1)), .int x, .int (tAbove ((nI 0).toNatClampNeg)), .int (nI 12), .ref 83]) (σ' := (apt 84 83 0 α b [12], δ)) (pc' := 105) kX9_speak_91 rfl rfl (rf_a1 (rf_in_n (a := 0) rfl (by omega)) rf_a0) ?_
  try rw [(show (nI 0).toNatClampNeg = 0 from rf_cl_n rfl (by omega))]
  try rw [(show tAbove 0 = nI 0 from rfl)]
  try rw [(show ((nI dep) + (nI 1)) = nI (1 + dep) from rf_eq (rf_nadd (x := nI dep) (y := nI 1) rfl rfl) (by omega))]
  have hc105 : rf_At (rf_T Ln xs) MX9_runBody 1 0 ([some (.ref 83), some (.int (nI 12)), some (.int (nI 0)), some (.int x), some (.int (nI (1 + dep)))], [], 108, (apt 84 83 0 α b [12], δ)) (some (.int (x - mn))) 108 (apt 84 83 0 α b [12], δ) := by
    refine rf_pa ?_
    refine ok_step (ps := []) (L' := [some (.ref 83), some (.int (nI 12)), some (.int (nI 0)), some (.int x), some (.int (nI (1 + dep)))]) (st' := [.int (nI 12)]) (σ' := (apt 84 83 0 α b [12], δ)) (pc' := 1) kX9_runBody_0 rfl rfl rf_a0 ?_
    refine ok_lkk (q := (12, 129)) (t := 130) bX9_runBody_1 (by decide) (by decide) (by decide) (by decide) ?_
    refine ok_step (ps := []) (L' := [some (.ref 83), some (.int (nI 12)), some (.int (nI 0)), some (.int x), some (.int (nI (1 + dep)))]) (st' := [.int (x - ((apt 84 83 0 α b [12]) 83 4))]) (σ' := (apt 84 83 0 α b [12], δ)) (pc' := 136) kX9_runBody_130 rfl rfl rf_a0 ?_
    try rw [(show (apt 84 83 0 α b [12]) 83 4 = mn from (apt_f (by decide) (by decide)).trans hm)]
    refine ok_reti eX9_runBody_136 rfl ?_
    exact ⟨rfl, rfl⟩
  refine ok_V (As := [.int (nI 12), .int (nI 0), .int x, .int (nI (1 + dep))]) (b := 83) (st := []) mkX9_runBody qX9_speak_105 rfl (rc_83) rfl rfl rfl rfl (Nat.le_of_ble_eq_true rfl) (hc105) ?_
  refine ok_reti eX9_speak_108 rfl ?_
  exact ⟨rfl, rfl⟩
theorem cv3_2_3 {x : Int32} {b dep : Nat} (hk : α 83 2 = nI 3) (hn : α 83 3 = nu) (hm : α 83 4 = mn) (hb : α 83 0 = nI b) (hl : b + 2 ≤ 40) (hd : dep + 2 ≤ 30) : rf_At (rf_T Ln xs) MX9_speak 4 0 ([some (.ref 83), some (.int (nI 3)), some (.int (nI 2)), some (.int x), some (.int (nI dep)), none, none], [], 108, (α, δ)) (some (.int (-(x - mn)))) 108 (apt 84 83 0 α b [40, 12], δ) := by
  refine rf_pa ?_
  refine ok_step (ps := []) (L' := [some (.ref 83), some (.int (nI 3)), some (.int (nI 2)), some (.int x), some (.int (nI dep)), some (.int (nI 3)), some (.int (nI 0))]) (st' := []) (σ' := (α, δ)) (pc' := 6) kX9_speak_0 rfl rfl rf_a0 ?_
  refine ok_step (ps := []) (L' := [some (.ref 83), some (.int (nI 3)), some (.int (nI 2)), some (.int x), some (.int (nI dep)), some (.int (nI 3)), some (.int (nI 0))]) (st' := [.int (nI 8), .int (nI 0)]) (σ' := (α, δ)) (pc' := 10) kX9_speak_6 rfl rfl rf_a0 ?_
  refine ok_icmp_ge bX9_speak_10 (fun h10 => absurd h10 ((by decide))) (fun _ => ?_)
  refine ok_step (ps := [rf_in (((nI 3) * (nI 4)) + (nI 2)) 32]) (L' := [some (.ref 83), some (.int (nI 3)), some (.int (nI 2)), some (.int x), some (.int (nI dep)), some (.int (nI 3)), some (.int (nI 0))]) (st' := [.int (tBodies ((((nI 3) * (nI 4)) + (nI 2)).toNatClampNeg))]) (σ' := (α, δ)) (pc' := 23) kX9_speak_13 rfl rfl (rf_a1 (rf_in_n (a := 14) (by (try rw [(show ((nI 3) * (nI 4)) = nI 12 from rf_eq (rf_nmul (x := nI 3) (y := nI 4) rfl rfl) (by omega))]); (try rw [(show ((nI 12) + (nI 2)) = nI 14 from rf_eq (rf_nadd (x := nI 12) (y := nI 2) rfl rfl) (by omega))]); all_goals exact rfl) (by omega)) rf_a0) ?_
  try rw [(show ((nI 3) * (nI 4)) = nI 12 from rf_eq (rf_nmul (x := nI 3) (y := nI 4) rfl rfl) (by omega))]
  try rw [(show ((nI 12) + (nI 2)) = nI 14 from rf_eq (rf_nadd (x := nI 12) (y := nI 2) rfl rfl) (by omega))]
  try rw [(show (nI 14).toNatClampNeg = 14 from rf_cl_n rfl (by omega))]
  try rw [(show tBodies 14 = nI 40 from rfl)]
  refine ok_if_ne bX9_speak_23 (fun _ => ?_) (fun h23 => absurd h23 ((by decide)))
  refine ok_step (ps := []) (L' := [some (.ref 83), some (.int (nI 3)), some (.int (nI 2)), some (.int x), some (.int (nI dep)), some (.int (nI 3)), some (.int (nI 0))]) (st' := [.int (nI 30), .int (nI dep)]) (σ' := (α, δ)) (pc' := 44) kX9_speak_40 rfl rfl rf_a0 ?_
  refine ok_icmp_le bX9_speak_44 (fun _ => ?_) (fun h44 => absurd (nI_le (by omega) (by omega)) h44)
  refine ok_step (ps := [rf_in (((nI 3) * (nI 4)) + (nI 2)) 32]) (L' := [some (.ref 83), some (.int (nI 3)), some (.int (nI 2)), some (.int x), some (.int (nI dep)), some (.int (nI 3)), some (.int (tBodies ((((nI 3) * (nI 4)) + (nI 2)).toNatClampNeg)))]) (st' := [.int (nI 40), .int (α 83 0)]) (σ' := (α, δ)) (pc' := 67) kX9_speak_49 rfl rfl (rf_a1 (rf_in_n (a := 14) (by (try rw [(show ((nI 3) * (nI 4)) = nI 12 from rf_eq (rf_nmul (x := nI 3) (y := nI 4) rfl rfl) (by omega))]); (try rw [(show ((nI 12) + (nI 2)) = nI 14 from rf_eq (rf_nadd (x := nI 12) (y := nI 2) rfl rfl) (by omega))]); all_goals exact rfl) (by omega)) rf_a0) ?_
  try rw [(show ((nI 3) * (nI 4)) = nI 12 from rf_eq (rf_nmul (x := nI 3) (y := nI 4) rfl rfl) (by omega))]
  try rw [(show ((nI 12) + (nI 2)) = nI 14 from rf_eq (rf_nadd (x := nI 12) (y := nI 2) rfl rfl) (by omega))]
  try rw [(show (nI 14).toNatClampNeg = 14 from rf_cl_n rfl (by omega))]
  try rw [(show tBodies 14 = nI 40 from rfl)]
  try rw [(show α 83 0 = nI b from hb)]
  refine ok_icmp_ge bX9_speak_67 (fun h67 => absurd h67 (nI_ge (by omega) (by omega))) (fun _ => ?_)
  refine ok_step (ps := [rf_in (α 83 0) 40]) (L' := [some (.ref 83), some (.int (nI 3)), some (.int (nI 2)), some (.int x), some (.int (nI dep)), some (.int (nI 3)), some (.int (nI 40))]) (st' := []) (σ' := (rf_w (rf_w α 84 ((α 83 0).toNatClampNeg) (nI 40)) 83 0 (((rf_w α 84 ((α 83 0).toNatClampNeg) (nI 40)) 83 0) + (nI 1)), δ)) (pc' := 91) kX9_speak_70 rfl rfl (rf_a1 (rf_in_n (a := b) (by (try rw [(show α 83 0 = nI b from hb)]); all_goals exact rfl) (by omega)) rf_a0) ?_
  try rw [(show α 83 0 = nI b from hb)]
  try rw [(show (nI b).toNatClampNeg = b from rf_cl_n rfl (by omega))]
  try rw [(show (rf_w α 84 b (nI 40)) 83 0 = α 83 0 from by rw [rf_w_at, if_neg (fun h => absurd h.1 (by decide))])]
  try rw [(show α 83 0 = nI b from hb)]
  try rw [(show ((nI b) + (nI 1)) = nI (1 + b) from rf_eq (rf_nadd (x := nI b) (y := nI 1) rfl rfl) (by omega))]
  rw [show rf_w (rf_w α 84 b (nI 40)) 83 0 (nI (1 + b)) = apt 84 83 0 α b [40] from apt_w (L := []) (by simp) (by omega)]
  refine ok_step (ps := [rf_in (nI 3) 8]) (L' := [some (.ref 83), some (.int (nI 3)), some (.int (nI 2)), some (.int x), some (.int (nI dep)), some (.int (nI 3)), some (.int (nI 40))]) (st' := [.int ((nI dep) + (nI 1)), .int x, .int (tAbove ((nI 3).toNatClampNeg)), .int (nI 40), .ref 83]) (σ' := (apt 84 83 0 α b [40], δ)) (pc' := 105) kX9_speak_91 rfl rfl (rf_a1 (rf_in_n (a := 3) rfl (by omega)) rf_a0) ?_
  try rw [(show (nI 3).toNatClampNeg = 3 from rf_cl_n rfl (by omega))]
  try rw [(show tAbove 3 = nI 2 from rfl)]
  try rw [(show ((nI dep) + (nI 1)) = nI (1 + dep) from rf_eq (rf_nadd (x := nI dep) (y := nI 1) rfl rfl) (by omega))]
  have hc105 : rf_At (rf_T Ln xs) MX9_runBody 3 0 ([some (.ref 83), some (.int (nI 40)), some (.int (nI 2)), some (.int x), some (.int (nI (1 + dep)))], [], 108, (apt 84 83 0 α b [40], δ)) (some (.int (-(x - mn)))) 108 (apt 84 83 0 α b [40, 12], δ) := by
    refine rf_pa ?_
    refine ok_step (ps := []) (L' := [some (.ref 83), some (.int (nI 40)), some (.int (nI 2)), some (.int x), some (.int (nI (1 + dep)))]) (st' := [.int (nI 40)]) (σ' := (apt 84 83 0 α b [40], δ)) (pc' := 1) kX9_runBody_0 rfl rfl rf_a0 ?_
    refine ok_lkk (q := (40, 197)) (t := 198) bX9_runBody_1 (by decide) (by decide) (by decide) (by decide) ?_
    refine ok_step (ps := []) (L' := [some (.ref 83), some (.int (nI 40)), some (.int (nI 2)), some (.int x), some (.int (nI (1 + dep)))]) (st' := [.int (nI (1 + dep)), .int x, .int (nI 2), .int (nI 2), .ref 83]) (σ' := (apt 84 83 0 α b [40], δ)) (pc' := 204) kX9_runBody_198 rfl rfl rf_a0 ?_
    refine ok_V (As := [.int (nI 2), .int (nI 2), .int x, .int (nI (1 + dep))]) (b := 83) (st := []) mkX9_speak qX9_runBody_204 rfl (rc_83) rfl rfl rfl rfl (Nat.le_of_ble_eq_true rfl) (cv3_2_2 (b := (1 + b)) (dep := (1 + dep)) ((apt_f (by decide) (by decide)).trans hk) ((apt_f (by decide) (by decide)).trans hn) ((apt_f (by decide) (by decide)).trans hm) (apt_0 (by decide) hb) (by omega) (by omega)) ?_
    rw [show apt 84 83 0 (apt 84 83 0 α b [40]) (1 + b) [12] = apt 84 83 0 α b [40, 12] from apt_app (by simp)]
    refine ok_step (ps := []) (L' := [some (.ref 83), some (.int (nI 40)), some (.int (nI 2)), some (.int x), some (.int (nI (1 + dep)))]) (st' := [.int (-(x - mn))]) (σ' := (apt 84 83 0 α b [40, 12], δ)) (pc' := 208) kX9_runBody_207 rfl rfl rf_a0 ?_
    refine ok_reti eX9_runBody_208 rfl ?_
    exact ⟨rfl, rfl⟩
  refine ok_V (As := [.int (nI 40), .int (nI 2), .int x, .int (nI (1 + dep))]) (b := 83) (st := []) mkX9_runBody qX9_speak_105 rfl (rc_83) rfl rfl rfl rfl (Nat.le_of_ble_eq_true rfl) (hc105) ?_
  refine ok_reti eX9_speak_108 rfl ?_
  exact ⟨rfl, rfl⟩
theorem cv3_1_3 {x : Int32} {b dep : Nat} (hk : α 83 2 = nI 3) (hn : α 83 3 = nu) (hm : α 83 4 = mn) (hb : α 83 0 = nI b) (hl : b + 5 ≤ 40) (hd : dep + 3 ≤ 30) : rf_At (rf_T Ln xs) MX9_speak 6 0 ([some (.ref 83), some (.int (nI 3)), some (.int (nI 1)), some (.int x), some (.int (nI dep)), none, none], [], 108, (α, δ)) (some (.int (((x + nu) * nI 2) - (-((nI 1) - mn))))) 108 (apt 84 83 0 α b [30, 11, 10, 40, 12], δ) := by
  refine rf_pa ?_
  refine ok_step (ps := []) (L' := [some (.ref 83), some (.int (nI 3)), some (.int (nI 1)), some (.int x), some (.int (nI dep)), some (.int (nI 3)), some (.int (nI 0))]) (st' := []) (σ' := (α, δ)) (pc' := 6) kX9_speak_0 rfl rfl rf_a0 ?_
  refine ok_step (ps := []) (L' := [some (.ref 83), some (.int (nI 3)), some (.int (nI 1)), some (.int x), some (.int (nI dep)), some (.int (nI 3)), some (.int (nI 0))]) (st' := [.int (nI 8), .int (nI 0)]) (σ' := (α, δ)) (pc' := 10) kX9_speak_6 rfl rfl rf_a0 ?_
  refine ok_icmp_ge bX9_speak_10 (fun h10 => absurd h10 ((by decide))) (fun _ => ?_)
  refine ok_step (ps := [rf_in (((nI 3) * (nI 4)) + (nI 1)) 32]) (L' := [some (.ref 83), some (.int (nI 3)), some (.int (nI 1)), some (.int x), some (.int (nI dep)), some (.int (nI 3)), some (.int (nI 0))]) (st' := [.int (tBodies ((((nI 3) * (nI 4)) + (nI 1)).toNatClampNeg))]) (σ' := (α, δ)) (pc' := 23) kX9_speak_13 rfl rfl (rf_a1 (rf_in_n (a := 13) (by (try rw [(show ((nI 3) * (nI 4)) = nI 12 from rf_eq (rf_nmul (x := nI 3) (y := nI 4) rfl rfl) (by omega))]); (try rw [(show ((nI 12) + (nI 1)) = nI 13 from rf_eq (rf_nadd (x := nI 12) (y := nI 1) rfl rfl) (by omega))]); all_goals exact rfl) (by omega)) rf_a0) ?_
  try rw [(show ((nI 3) * (nI 4)) = nI 12 from rf_eq (rf_nmul (x := nI 3) (y := nI 4) rfl rfl) (by omega))]
  try rw [(show ((nI 12) + (nI 1)) = nI 13 from rf_eq (rf_nadd (x := nI 12) (y := nI 1) rfl rfl) (by omega))]
  try rw [(show (nI 13).toNatClampNeg = 13 from rf_cl_n rfl (by omega))]
  try rw [(show tBodies 13 = nI 0 from rfl)]
  refine ok_if_ne bX9_speak_23 (fun h23 => absurd ((by decide)) h23) (fun _ => ?_)
  refine ok_step (ps := [rf_in (nI 3) 8]) (L' := [some (.ref 83), some (.int (nI 3)), some (.int (nI 1)), some (.int x), some (.int (nI dep)), some (.int (tAbove ((nI 3).toNatClampNeg))), some (.int ((nI 0) + (nI 1)))]) (st' := []) (σ' := (α, δ)) (pc' := 37) kX9_speak_26 rfl rfl (rf_a1 (rf_in_n (a := 3) rfl (by omega)) rf_a0) ?_
  try rw [(show (nI 3).toNatClampNeg = 3 from rf_cl_n rfl (by omega))]
  try rw [(show tAbove 3 = nI 2 from rfl)]
  try rw [(show ((nI 0) + (nI 1)) = nI 1 from rf_eq (rf_nadd (x := nI 0) (y := nI 1) rfl rfl) (by omega))]
  refine ok_goto bX9_speak_37 ?_
  refine ok_step (ps := []) (L' := [some (.ref 83), some (.int (nI 3)), some (.int (nI 1)), some (.int x), some (.int (nI dep)), some (.int (nI 2)), some (.int (nI 1))]) (st' := [.int (nI 8), .int (nI 1)]) (σ' := (α, δ)) (pc' := 10) kX9_speak_6 rfl rfl rf_a0 ?_
  refine ok_icmp_ge bX9_speak_10 (fun h10 => absurd h10 ((by decide))) (fun _ => ?_)
  refine ok_step (ps := [rf_in (((nI 2) * (nI 4)) + (nI 1)) 32]) (L' := [some (.ref 83), some (.int (nI 3)), some (.int (nI 1)), some (.int x), some (.int (nI dep)), some (.int (nI 2)), some (.int (nI 1))]) (st' := [.int (tBodies ((((nI 2) * (nI 4)) + (nI 1)).toNatClampNeg))]) (σ' := (α, δ)) (pc' := 23) kX9_speak_13 rfl rfl (rf_a1 (rf_in_n (a := 9) (by (try rw [(show ((nI 2) * (nI 4)) = nI 8 from rf_eq (rf_nmul (x := nI 2) (y := nI 4) rfl rfl) (by omega))]); (try rw [(show ((nI 8) + (nI 1)) = nI 9 from rf_eq (rf_nadd (x := nI 8) (y := nI 1) rfl rfl) (by omega))]); all_goals exact rfl) (by omega)) rf_a0) ?_
  try rw [(show ((nI 2) * (nI 4)) = nI 8 from rf_eq (rf_nmul (x := nI 2) (y := nI 4) rfl rfl) (by omega))]
  try rw [(show ((nI 8) + (nI 1)) = nI 9 from rf_eq (rf_nadd (x := nI 8) (y := nI 1) rfl rfl) (by omega))]
  try rw [(show (nI 9).toNatClampNeg = 9 from rf_cl_n rfl (by omega))]
  try rw [(show tBodies 9 = nI 30 from rfl)]
  refine ok_if_ne bX9_speak_23 (fun _ => ?_) (fun h23 => absurd h23 ((by decide)))
  refine ok_step (ps := []) (L' := [some (.ref 83), some (.int (nI 3)), some (.int (nI 1)), some (.int x), some (.int (nI dep)), some (.int (nI 2)), some (.int (nI 1))]) (st' := [.int (nI 30), .int (nI dep)]) (σ' := (α, δ)) (pc' := 44) kX9_speak_40 rfl rfl rf_a0 ?_
  refine ok_icmp_le bX9_speak_44 (fun _ => ?_) (fun h44 => absurd (nI_le (by omega) (by omega)) h44)
  refine ok_step (ps := [rf_in (((nI 2) * (nI 4)) + (nI 1)) 32]) (L' := [some (.ref 83), some (.int (nI 3)), some (.int (nI 1)), some (.int x), some (.int (nI dep)), some (.int (nI 2)), some (.int (tBodies ((((nI 2) * (nI 4)) + (nI 1)).toNatClampNeg)))]) (st' := [.int (nI 40), .int (α 83 0)]) (σ' := (α, δ)) (pc' := 67) kX9_speak_49 rfl rfl (rf_a1 (rf_in_n (a := 9) (by (try rw [(show ((nI 2) * (nI 4)) = nI 8 from rf_eq (rf_nmul (x := nI 2) (y := nI 4) rfl rfl) (by omega))]); (try rw [(show ((nI 8) + (nI 1)) = nI 9 from rf_eq (rf_nadd (x := nI 8) (y := nI 1) rfl rfl) (by omega))]); all_goals exact rfl) (by omega)) rf_a0) ?_
  try rw [(show ((nI 2) * (nI 4)) = nI 8 from rf_eq (rf_nmul (x := nI 2) (y := nI 4) rfl rfl) (by omega))]
  try rw [(show ((nI 8) + (nI 1)) = nI 9 from rf_eq (rf_nadd (x := nI 8) (y := nI 1) rfl rfl) (by omega))]
  try rw [(show (nI 9).toNatClampNeg = 9 from rf_cl_n rfl (by omega))]
  try rw [(show tBodies 9 = nI 30 from rfl)]
  try rw [(show α 83 0 = nI b from hb)]
  refine ok_icmp_ge bX9_speak_67 (fun h67 => absurd h67 (nI_ge (by omega) (by omega))) (fun _ => ?_)
  refine ok_step (ps := [rf_in (α 83 0) 40]) (L' := [some (.ref 83), some (.int (nI 3)), some (.int (nI 1)), some (.int x), some (.int (nI dep)), some (.int (nI 2)), some (.int (nI 30))]) (st' := []) (σ' := (rf_w (rf_w α 84 ((α 83 0).toNatClampNeg) (nI 30)) 83 0 (((rf_w α 84 ((α 83 0).toNatClampNeg) (nI 30)) 83 0) + (nI 1)), δ)) (pc' := 91) kX9_speak_70 rfl rfl (rf_a1 (rf_in_n (a := b) (by (try rw [(show α 83 0 = nI b from hb)]); all_goals exact rfl) (by omega)) rf_a0) ?_
  try rw [(show α 83 0 = nI b from hb)]
  try rw [(show (nI b).toNatClampNeg = b from rf_cl_n rfl (by omega))]
  try rw [(show (rf_w α 84 b (nI 30)) 83 0 = α 83 0 from by rw [rf_w_at, if_neg (fun h => absurd h.1 (by decide))])]
  try rw [(show α 83 0 = nI b from hb)]
  try rw [(show ((nI b) + (nI 1)) = nI (1 + b) from rf_eq (rf_nadd (x := nI b) (y := nI 1) rfl rfl) (by omega))]
  rw [show rf_w (rf_w α 84 b (nI 30)) 83 0 (nI (1 + b)) = apt 84 83 0 α b [30] from apt_w (L := []) (by simp) (by omega)]
  refine ok_step (ps := [rf_in (nI 2) 8]) (L' := [some (.ref 83), some (.int (nI 3)), some (.int (nI 1)), some (.int x), some (.int (nI dep)), some (.int (nI 2)), some (.int (nI 30))]) (st' := [.int ((nI dep) + (nI 1)), .int x, .int (tAbove ((nI 2).toNatClampNeg)), .int (nI 30), .ref 83]) (σ' := (apt 84 83 0 α b [30], δ)) (pc' := 105) kX9_speak_91 rfl rfl (rf_a1 (rf_in_n (a := 2) rfl (by omega)) rf_a0) ?_
  try rw [(show (nI 2).toNatClampNeg = 2 from rf_cl_n rfl (by omega))]
  try rw [(show tAbove 2 = nI 0 from rfl)]
  try rw [(show ((nI dep) + (nI 1)) = nI (1 + dep) from rf_eq (rf_nadd (x := nI dep) (y := nI 1) rfl rfl) (by omega))]
  have hc105 : rf_At (rf_T Ln xs) MX9_runBody 5 0 ([some (.ref 83), some (.int (nI 30)), some (.int (nI 0)), some (.int x), some (.int (nI (1 + dep)))], [], 108, (apt 84 83 0 α b [30], δ)) (some (.int (((x + nu) * nI 2) - (-((nI 1) - mn))))) 108 (apt 84 83 0 α b [30, 11, 10, 40, 12], δ) := by
    refine rf_pa ?_
    refine ok_step (ps := []) (L' := [some (.ref 83), some (.int (nI 30)), some (.int (nI 0)), some (.int x), some (.int (nI (1 + dep)))]) (st' := [.int (nI 30)]) (σ' := (apt 84 83 0 α b [30], δ)) (pc' := 1) kX9_runBody_0 rfl rfl rf_a0 ?_
    refine ok_lkk (q := (30, 174)) (t := 175) bX9_runBody_1 (by decide) (by decide) (by decide) (by decide) ?_
    refine ok_step (ps := []) (L' := [some (.ref 83), some (.int (nI 30)), some (.int (nI 0)), some (.int x), some (.int (nI (1 + dep)))]) (st' := [.int (nI (1 + dep)), .int x, .int (nI 1), .int (nI 0), .ref 83]) (σ' := (apt 84 83 0 α b [30], δ)) (pc' := 181) kX9_runBody_175 rfl rfl rf_a0 ?_
    refine ok_V (As := [.int (nI 0), .int (nI 1), .int x, .int (nI (1 + dep))]) (b := 83) (st := []) mkX9_speak qX9_runBody_181 rfl (rc_83) rfl rfl rfl rfl (Nat.le_of_ble_eq_true rfl) (cv3_1_0 (b := (1 + b)) (dep := (1 + dep)) ((apt_f (by decide) (by decide)).trans hk) ((apt_f (by decide) (by decide)).trans hn) ((apt_f (by decide) (by decide)).trans hm) (apt_0 (by decide) hb) (by omega) (by omega)) ?_
    rw [show apt 84 83 0 (apt 84 83 0 α b [30]) (1 + b) [11, 10] = apt 84 83 0 α b [30, 11, 10] from apt_app (by simp)]
    refine ok_step (ps := []) (L' := [some (.ref 83), some (.int (nI 30)), some (.int (nI 0)), some (.int x), some (.int (nI (1 + dep)))]) (st' := [.int (nI (1 + dep)), .int (nI 1), .int (nI 2), .int ((apt 84 83 0 α b [30, 11, 10]) 83 2), .ref 83, .int ((x + nu) * nI 2)]) (σ' := (apt 84 83 0 α b [30, 11, 10], δ)) (pc' := 193) kX9_runBody_184 rfl rfl rf_a0 ?_
    try rw [(show (apt 84 83 0 α b [30, 11, 10]) 83 2 = nI 3 from (apt_f (by decide) (by decide)).trans hk)]
    refine ok_V (As := [.int (nI 3), .int (nI 2), .int (nI 1), .int (nI (1 + dep))]) (b := 83) (st := [.int ((x + nu) * nI 2)]) mkX9_speak qX9_runBody_193 rfl (rc_83) rfl rfl rfl rfl (Nat.le_of_ble_eq_true rfl) (cv3_2_3 (b := (3 + b)) (dep := (1 + dep)) ((apt_f (by decide) (by decide)).trans hk) ((apt_f (by decide) (by decide)).trans hn) ((apt_f (by decide) (by decide)).trans hm) (apt_0 (by decide) hb) (by omega) (by omega)) ?_
    rw [show apt 84 83 0 (apt 84 83 0 α b [30, 11, 10]) (3 + b) [40, 12] = apt 84 83 0 α b [30, 11, 10, 40, 12] from apt_app (by simp)]
    refine ok_step (ps := []) (L' := [some (.ref 83), some (.int (nI 30)), some (.int (nI 0)), some (.int x), some (.int (nI (1 + dep)))]) (st' := [.int (((x + nu) * nI 2) - (-((nI 1) - mn)))]) (σ' := (apt 84 83 0 α b [30, 11, 10, 40, 12], δ)) (pc' := 197) kX9_runBody_196 rfl rfl rf_a0 ?_
    refine ok_reti eX9_runBody_197 rfl ?_
    exact ⟨rfl, rfl⟩
  refine ok_V (As := [.int (nI 30), .int (nI 0), .int x, .int (nI (1 + dep))]) (b := 83) (st := []) mkX9_runBody qX9_speak_105 rfl (rc_83) rfl rfl rfl rfl (Nat.le_of_ble_eq_true rfl) (hc105) ?_
  refine ok_reti eX9_speak_108 rfl ?_
  exact ⟨rfl, rfl⟩
theorem cv3_3_3 {x : Int32} {b dep : Nat} (hk : α 83 2 = nI 3) (hn : α 83 3 = nu) (hm : α 83 4 = mn) (hb : α 83 0 = nI b) (hl : b + 8 ≤ 40) (hd : dep + 4 ≤ 30) : rf_At (rf_T Ln xs) MX9_speak 8 0 ([some (.ref 83), some (.int (nI 3)), some (.int (nI 3)), some (.int x), some (.int (nI dep)), none, none], [], 108, (α, δ)) (some (.int ((((x + nu) * nI 2) - (-((nI 1) - mn))) ^^^ (-(x - mn))))) 108 (apt 84 83 0 α b [13, 30, 11, 10, 40, 12, 40, 12], δ) := by
  refine rf_pa ?_
  refine ok_step (ps := []) (L' := [some (.ref 83), some (.int (nI 3)), some (.int (nI 3)), some (.int x), some (.int (nI dep)), some (.int (nI 3)), some (.int (nI 0))]) (st' := []) (σ' := (α, δ)) (pc' := 6) kX9_speak_0 rfl rfl rf_a0 ?_
  refine ok_step (ps := []) (L' := [some (.ref 83), some (.int (nI 3)), some (.int (nI 3)), some (.int x), some (.int (nI dep)), some (.int (nI 3)), some (.int (nI 0))]) (st' := [.int (nI 8), .int (nI 0)]) (σ' := (α, δ)) (pc' := 10) kX9_speak_6 rfl rfl rf_a0 ?_
  refine ok_icmp_ge bX9_speak_10 (fun h10 => absurd h10 ((by decide))) (fun _ => ?_)
  refine ok_step (ps := [rf_in (((nI 3) * (nI 4)) + (nI 3)) 32]) (L' := [some (.ref 83), some (.int (nI 3)), some (.int (nI 3)), some (.int x), some (.int (nI dep)), some (.int (nI 3)), some (.int (nI 0))]) (st' := [.int (tBodies ((((nI 3) * (nI 4)) + (nI 3)).toNatClampNeg))]) (σ' := (α, δ)) (pc' := 23) kX9_speak_13 rfl rfl (rf_a1 (rf_in_n (a := 15) (by (try rw [(show ((nI 3) * (nI 4)) = nI 12 from rf_eq (rf_nmul (x := nI 3) (y := nI 4) rfl rfl) (by omega))]); (try rw [(show ((nI 12) + (nI 3)) = nI 15 from rf_eq (rf_nadd (x := nI 12) (y := nI 3) rfl rfl) (by omega))]); all_goals exact rfl) (by omega)) rf_a0) ?_
  try rw [(show ((nI 3) * (nI 4)) = nI 12 from rf_eq (rf_nmul (x := nI 3) (y := nI 4) rfl rfl) (by omega))]
  try rw [(show ((nI 12) + (nI 3)) = nI 15 from rf_eq (rf_nadd (x := nI 12) (y := nI 3) rfl rfl) (by omega))]
  try rw [(show (nI 15).toNatClampNeg = 15 from rf_cl_n rfl (by omega))]
  try rw [(show tBodies 15 = nI 0 from rfl)]
  refine ok_if_ne bX9_speak_23 (fun h23 => absurd ((by decide)) h23) (fun _ => ?_)
  refine ok_step (ps := [rf_in (nI 3) 8]) (L' := [some (.ref 83), some (.int (nI 3)), some (.int (nI 3)), some (.int x), some (.int (nI dep)), some (.int (tAbove ((nI 3).toNatClampNeg))), some (.int ((nI 0) + (nI 1)))]) (st' := []) (σ' := (α, δ)) (pc' := 37) kX9_speak_26 rfl rfl (rf_a1 (rf_in_n (a := 3) rfl (by omega)) rf_a0) ?_
  try rw [(show (nI 3).toNatClampNeg = 3 from rf_cl_n rfl (by omega))]
  try rw [(show tAbove 3 = nI 2 from rfl)]
  try rw [(show ((nI 0) + (nI 1)) = nI 1 from rf_eq (rf_nadd (x := nI 0) (y := nI 1) rfl rfl) (by omega))]
  refine ok_goto bX9_speak_37 ?_
  refine ok_step (ps := []) (L' := [some (.ref 83), some (.int (nI 3)), some (.int (nI 3)), some (.int x), some (.int (nI dep)), some (.int (nI 2)), some (.int (nI 1))]) (st' := [.int (nI 8), .int (nI 1)]) (σ' := (α, δ)) (pc' := 10) kX9_speak_6 rfl rfl rf_a0 ?_
  refine ok_icmp_ge bX9_speak_10 (fun h10 => absurd h10 ((by decide))) (fun _ => ?_)
  refine ok_step (ps := [rf_in (((nI 2) * (nI 4)) + (nI 3)) 32]) (L' := [some (.ref 83), some (.int (nI 3)), some (.int (nI 3)), some (.int x), some (.int (nI dep)), some (.int (nI 2)), some (.int (nI 1))]) (st' := [.int (tBodies ((((nI 2) * (nI 4)) + (nI 3)).toNatClampNeg))]) (σ' := (α, δ)) (pc' := 23) kX9_speak_13 rfl rfl (rf_a1 (rf_in_n (a := 11) (by (try rw [(show ((nI 2) * (nI 4)) = nI 8 from rf_eq (rf_nmul (x := nI 2) (y := nI 4) rfl rfl) (by omega))]); (try rw [(show ((nI 8) + (nI 3)) = nI 11 from rf_eq (rf_nadd (x := nI 8) (y := nI 3) rfl rfl) (by omega))]); all_goals exact rfl) (by omega)) rf_a0) ?_
  try rw [(show ((nI 2) * (nI 4)) = nI 8 from rf_eq (rf_nmul (x := nI 2) (y := nI 4) rfl rfl) (by omega))]
  try rw [(show ((nI 8) + (nI 3)) = nI 11 from rf_eq (rf_nadd (x := nI 8) (y := nI 3) rfl rfl) (by omega))]
  try rw [(show (nI 11).toNatClampNeg = 11 from rf_cl_n rfl (by omega))]
  try rw [(show tBodies 11 = nI 0 from rfl)]
  refine ok_if_ne bX9_speak_23 (fun h23 => absurd ((by decide)) h23) (fun _ => ?_)
  refine ok_step (ps := [rf_in (nI 2) 8]) (L' := [some (.ref 83), some (.int (nI 3)), some (.int (nI 3)), some (.int x), some (.int (nI dep)), some (.int (tAbove ((nI 2).toNatClampNeg))), some (.int ((nI 1) + (nI 1)))]) (st' := []) (σ' := (α, δ)) (pc' := 37) kX9_speak_26 rfl rfl (rf_a1 (rf_in_n (a := 2) rfl (by omega)) rf_a0) ?_
  try rw [(show (nI 2).toNatClampNeg = 2 from rf_cl_n rfl (by omega))]
  try rw [(show tAbove 2 = nI 0 from rfl)]
  try rw [(show ((nI 1) + (nI 1)) = nI 2 from rf_eq (rf_nadd (x := nI 1) (y := nI 1) rfl rfl) (by omega))]
  refine ok_goto bX9_speak_37 ?_
  refine ok_step (ps := []) (L' := [some (.ref 83), some (.int (nI 3)), some (.int (nI 3)), some (.int x), some (.int (nI dep)), some (.int (nI 0)), some (.int (nI 2))]) (st' := [.int (nI 8), .int (nI 2)]) (σ' := (α, δ)) (pc' := 10) kX9_speak_6 rfl rfl rf_a0 ?_
  refine ok_icmp_ge bX9_speak_10 (fun h10 => absurd h10 ((by decide))) (fun _ => ?_)
  refine ok_step (ps := [rf_in (((nI 0) * (nI 4)) + (nI 3)) 32]) (L' := [some (.ref 83), some (.int (nI 3)), some (.int (nI 3)), some (.int x), some (.int (nI dep)), some (.int (nI 0)), some (.int (nI 2))]) (st' := [.int (tBodies ((((nI 0) * (nI 4)) + (nI 3)).toNatClampNeg))]) (σ' := (α, δ)) (pc' := 23) kX9_speak_13 rfl rfl (rf_a1 (rf_in_n (a := 3) (by (try rw [(show ((nI 0) * (nI 4)) = nI 0 from rf_eq (rf_nmul (x := nI 0) (y := nI 4) rfl rfl) (by omega))]); (try rw [(show ((nI 0) + (nI 3)) = nI 3 from rf_eq (rf_nadd (x := nI 0) (y := nI 3) rfl rfl) (by omega))]); all_goals exact rfl) (by omega)) rf_a0) ?_
  try rw [(show ((nI 0) * (nI 4)) = nI 0 from rf_eq (rf_nmul (x := nI 0) (y := nI 4) rfl rfl) (by omega))]
  try rw [(show ((nI 0) + (nI 3)) = nI 3 from rf_eq (rf_nadd (x := nI 0) (y := nI 3) rfl rfl) (by omega))]
  try rw [(show (nI 3).toNatClampNeg = 3 from rf_cl_n rfl (by omega))]
  try rw [(show tBodies 3 = nI 13 from rfl)]
  refine ok_if_ne bX9_speak_23 (fun _ => ?_) (fun h23 => absurd h23 ((by decide)))
  refine ok_step (ps := []) (L' := [some (.ref 83), some (.int (nI 3)), some (.int (nI 3)), some (.int x), some (.int (nI dep)), some (.int (nI 0)), some (.int (nI 2))]) (st' := [.int (nI 30), .int (nI dep)]) (σ' := (α, δ)) (pc' := 44) kX9_speak_40 rfl rfl rf_a0 ?_
  refine ok_icmp_le bX9_speak_44 (fun _ => ?_) (fun h44 => absurd (nI_le (by omega) (by omega)) h44)
  refine ok_step (ps := [rf_in (((nI 0) * (nI 4)) + (nI 3)) 32]) (L' := [some (.ref 83), some (.int (nI 3)), some (.int (nI 3)), some (.int x), some (.int (nI dep)), some (.int (nI 0)), some (.int (tBodies ((((nI 0) * (nI 4)) + (nI 3)).toNatClampNeg)))]) (st' := [.int (nI 40), .int (α 83 0)]) (σ' := (α, δ)) (pc' := 67) kX9_speak_49 rfl rfl (rf_a1 (rf_in_n (a := 3) (by (try rw [(show ((nI 0) * (nI 4)) = nI 0 from rf_eq (rf_nmul (x := nI 0) (y := nI 4) rfl rfl) (by omega))]); (try rw [(show ((nI 0) + (nI 3)) = nI 3 from rf_eq (rf_nadd (x := nI 0) (y := nI 3) rfl rfl) (by omega))]); all_goals exact rfl) (by omega)) rf_a0) ?_
  try rw [(show ((nI 0) * (nI 4)) = nI 0 from rf_eq (rf_nmul (x := nI 0) (y := nI 4) rfl rfl) (by omega))]
  try rw [(show ((nI 0) + (nI 3)) = nI 3 from rf_eq (rf_nadd (x := nI 0) (y := nI 3) rfl rfl) (by omega))]
  try rw [(show (nI 3).toNatClampNeg = 3 from rf_cl_n rfl (by omega))]
  try rw [(show tBodies 3 = nI 13 from rfl)]
  try rw [(show α 83 0 = nI b from hb)]
  refine ok_icmp_ge bX9_speak_67 (fun h67 => absurd h67 (nI_ge (by omega) (by omega))) (fun _ => ?_)
  refine ok_step (ps := [rf_in (α 83 0) 40]) (L' := [some (.ref 83), some (.int (nI 3)), some (.int (nI 3)), some (.int x), some (.int (nI dep)), some (.int (nI 0)), some (.int (nI 13))]) (st' := []) (σ' := (rf_w (rf_w α 84 ((α 83 0).toNatClampNeg) (nI 13)) 83 0 (((rf_w α 84 ((α 83 0).toNatClampNeg) (nI 13)) 83 0) + (nI 1)), δ)) (pc' := 91) kX9_speak_70 rfl rfl (rf_a1 (rf_in_n (a := b) (by (try rw [(show α 83 0 = nI b from hb)]); all_goals exact rfl) (by omega)) rf_a0) ?_
  try rw [(show α 83 0 = nI b from hb)]
  try rw [(show (nI b).toNatClampNeg = b from rf_cl_n rfl (by omega))]
  try rw [(show (rf_w α 84 b (nI 13)) 83 0 = α 83 0 from by rw [rf_w_at, if_neg (fun h => absurd h.1 (by decide))])]
  try rw [(show α 83 0 = nI b from hb)]
  try rw [(show ((nI b) + (nI 1)) = nI (1 + b) from rf_eq (rf_nadd (x := nI b) (y := nI 1) rfl rfl) (by omega))]
  rw [show rf_w (rf_w α 84 b (nI 13)) 83 0 (nI (1 + b)) = apt 84 83 0 α b [13] from apt_w (L := []) (by simp) (by omega)]
  refine ok_step (ps := [rf_in (nI 0) 8]) (L' := [some (.ref 83), some (.int (nI 3)), some (.int (nI 3)), some (.int x), some (.int (nI dep)), some (.int (nI 0)), some (.int (nI 13))]) (st' := [.int ((nI dep) + (nI 1)), .int x, .int (tAbove ((nI 0).toNatClampNeg)), .int (nI 13), .ref 83]) (σ' := (apt 84 83 0 α b [13], δ)) (pc' := 105) kX9_speak_91 rfl rfl (rf_a1 (rf_in_n (a := 0) rfl (by omega)) rf_a0) ?_
  try rw [(show (nI 0).toNatClampNeg = 0 from rf_cl_n rfl (by omega))]
  try rw [(show tAbove 0 = nI 0 from rfl)]
  try rw [(show ((nI dep) + (nI 1)) = nI (1 + dep) from rf_eq (rf_nadd (x := nI dep) (y := nI 1) rfl rfl) (by omega))]
  have hc105 : rf_At (rf_T Ln xs) MX9_runBody 7 0 ([some (.ref 83), some (.int (nI 13)), some (.int (nI 0)), some (.int x), some (.int (nI (1 + dep)))], [], 108, (apt 84 83 0 α b [13], δ)) (some (.int ((((x + nu) * nI 2) - (-((nI 1) - mn))) ^^^ (-(x - mn))))) 108 (apt 84 83 0 α b [13, 30, 11, 10, 40, 12, 40, 12], δ) := by
    refine rf_pa ?_
    refine ok_step (ps := []) (L' := [some (.ref 83), some (.int (nI 13)), some (.int (nI 0)), some (.int x), some (.int (nI (1 + dep)))]) (st' := [.int (nI 13)]) (σ' := (apt 84 83 0 α b [13], δ)) (pc' := 1) kX9_runBody_0 rfl rfl rf_a0 ?_
    refine ok_lkk (q := (13, 136)) (t := 137) bX9_runBody_1 (by decide) (by decide) (by decide) (by decide) ?_
    refine ok_step (ps := []) (L' := [some (.ref 83), some (.int (nI 13)), some (.int (nI 0)), some (.int x), some (.int (nI (1 + dep)))]) (st' := [.int (nI (1 + dep)), .int x, .int (nI 1), .int ((apt 84 83 0 α b [13]) 83 2), .ref 83]) (σ' := (apt 84 83 0 α b [13], δ)) (pc' := 146) kX9_runBody_137 rfl rfl rf_a0 ?_
    try rw [(show (apt 84 83 0 α b [13]) 83 2 = nI 3 from (apt_f (by decide) (by decide)).trans hk)]
    refine ok_V (As := [.int (nI 3), .int (nI 1), .int x, .int (nI (1 + dep))]) (b := 83) (st := []) mkX9_speak qX9_runBody_146 rfl (rc_83) rfl rfl rfl rfl (Nat.le_of_ble_eq_true rfl) (cv3_1_3 (b := (1 + b)) (dep := (1 + dep)) ((apt_f (by decide) (by decide)).trans hk) ((apt_f (by decide) (by decide)).trans hn) ((apt_f (by decide) (by decide)).trans hm) (apt_0 (by decide) hb) (by omega) (by omega)) ?_
    rw [show apt 84 83 0 (apt 84 83 0 α b [13]) (1 + b) [30, 11, 10, 40, 12] = apt 84 83 0 α b [13, 30, 11, 10, 40, 12] from apt_app (by simp)]
    refine ok_step (ps := []) (L' := [some (.ref 83), some (.int (nI 13)), some (.int (nI 0)), some (.int x), some (.int (nI (1 + dep)))]) (st' := [.int (nI (1 + dep)), .int x, .int (nI 2), .int ((apt 84 83 0 α b [13, 30, 11, 10, 40, 12]) 83 2), .ref 83, .int (((x + nu) * nI 2) - (-((nI 1) - mn)))]) (σ' := (apt 84 83 0 α b [13, 30, 11, 10, 40, 12], δ)) (pc' := 158) kX9_runBody_149 rfl rfl rf_a0 ?_
    try rw [(show (apt 84 83 0 α b [13, 30, 11, 10, 40, 12]) 83 2 = nI 3 from (apt_f (by decide) (by decide)).trans hk)]
    refine ok_V (As := [.int (nI 3), .int (nI 2), .int x, .int (nI (1 + dep))]) (b := 83) (st := [.int (((x + nu) * nI 2) - (-((nI 1) - mn)))]) mkX9_speak qX9_runBody_158 rfl (rc_83) rfl rfl rfl rfl (Nat.le_of_ble_eq_true rfl) (cv3_2_3 (b := (6 + b)) (dep := (1 + dep)) ((apt_f (by decide) (by decide)).trans hk) ((apt_f (by decide) (by decide)).trans hn) ((apt_f (by decide) (by decide)).trans hm) (apt_0 (by decide) hb) (by omega) (by omega)) ?_
    rw [show apt 84 83 0 (apt 84 83 0 α b [13, 30, 11, 10, 40, 12]) (6 + b) [40, 12] = apt 84 83 0 α b [13, 30, 11, 10, 40, 12, 40, 12] from apt_app (by simp)]
    refine ok_step (ps := []) (L' := [some (.ref 83), some (.int (nI 13)), some (.int (nI 0)), some (.int x), some (.int (nI (1 + dep)))]) (st' := [.int ((((x + nu) * nI 2) - (-((nI 1) - mn))) ^^^ (-(x - mn)))]) (σ' := (apt 84 83 0 α b [13, 30, 11, 10, 40, 12, 40, 12], δ)) (pc' := 162) kX9_runBody_161 rfl rfl rf_a0 ?_
    refine ok_reti eX9_runBody_162 rfl ?_
    exact ⟨rfl, rfl⟩
  refine ok_V (As := [.int (nI 13), .int (nI 0), .int x, .int (nI (1 + dep))]) (b := 83) (st := []) mkX9_runBody qX9_speak_105 rfl (rc_83) rfl rfl rfl rfl (Nat.le_of_ble_eq_true rfl) (hc105) ?_
  refine ok_reti eX9_speak_108 rfl ?_
  exact ⟨rfl, rfl⟩
theorem cv4_0_2 {x : Int32} {b dep : Nat} (hk : α 83 2 = nI 4) (hn : α 83 3 = nu) (hm : α 83 4 = mn) (hb : α 83 0 = nI b) (hl : b + 1 ≤ 40) (hd : dep + 1 ≤ 30) : rf_At (rf_T Ln xs) MX9_speak 2 0 ([some (.ref 83), some (.int (nI 2)), some (.int (nI 0)), some (.int x), some (.int (nI dep)), none, none], [], 108, (α, δ)) (some (.int (x + nu))) 108 (apt 84 83 0 α b [10], δ) := by
  refine rf_pa ?_
  refine ok_step (ps := []) (L' := [some (.ref 83), some (.int (nI 2)), some (.int (nI 0)), some (.int x), some (.int (nI dep)), some (.int (nI 2)), some (.int (nI 0))]) (st' := []) (σ' := (α, δ)) (pc' := 6) kX9_speak_0 rfl rfl rf_a0 ?_
  refine ok_step (ps := []) (L' := [some (.ref 83), some (.int (nI 2)), some (.int (nI 0)), some (.int x), some (.int (nI dep)), some (.int (nI 2)), some (.int (nI 0))]) (st' := [.int (nI 8), .int (nI 0)]) (σ' := (α, δ)) (pc' := 10) kX9_speak_6 rfl rfl rf_a0 ?_
  refine ok_icmp_ge bX9_speak_10 (fun h10 => absurd h10 ((by decide))) (fun _ => ?_)
  refine ok_step (ps := [rf_in (((nI 2) * (nI 4)) + (nI 0)) 32]) (L' := [some (.ref 83), some (.int (nI 2)), some (.int (nI 0)), some (.int x), some (.int (nI dep)), some (.int (nI 2)), some (.int (nI 0))]) (st' := [.int (tBodies ((((nI 2) * (nI 4)) + (nI 0)).toNatClampNeg))]) (σ' := (α, δ)) (pc' := 23) kX9_speak_13 rfl rfl (rf_a1 (rf_in_n (a := 8) (by (try rw [(show ((nI 2) * (nI 4)) = nI 8 from rf_eq (rf_nmul (x := nI 2) (y := nI 4) rfl rfl) (by omega))]); (try rw [(show ((nI 8) + (nI 0)) = nI 8 from rf_eq (rf_nadd (x := nI 8) (y := nI 0) rfl rfl) (by omega))]); all_goals exact rfl) (by omega)) rf_a0) ?_
  try rw [(show ((nI 2) * (nI 4)) = nI 8 from rf_eq (rf_nmul (x := nI 2) (y := nI 4) rfl rfl) (by omega))]
  try rw [(show ((nI 8) + (nI 0)) = nI 8 from rf_eq (rf_nadd (x := nI 8) (y := nI 0) rfl rfl) (by omega))]
  try rw [(show (nI 8).toNatClampNeg = 8 from rf_cl_n rfl (by omega))]
  try rw [(show tBodies 8 = nI 0 from rfl)]
  refine ok_if_ne bX9_speak_23 (fun h23 => absurd ((by decide)) h23) (fun _ => ?_)
  refine ok_step (ps := [rf_in (nI 2) 8]) (L' := [some (.ref 83), some (.int (nI 2)), some (.int (nI 0)), some (.int x), some (.int (nI dep)), some (.int (tAbove ((nI 2).toNatClampNeg))), some (.int ((nI 0) + (nI 1)))]) (st' := []) (σ' := (α, δ)) (pc' := 37) kX9_speak_26 rfl rfl (rf_a1 (rf_in_n (a := 2) rfl (by omega)) rf_a0) ?_
  try rw [(show (nI 2).toNatClampNeg = 2 from rf_cl_n rfl (by omega))]
  try rw [(show tAbove 2 = nI 0 from rfl)]
  try rw [(show ((nI 0) + (nI 1)) = nI 1 from rf_eq (rf_nadd (x := nI 0) (y := nI 1) rfl rfl) (by omega))]
  refine ok_goto bX9_speak_37 ?_
  refine ok_step (ps := []) (L' := [some (.ref 83), some (.int (nI 2)), some (.int (nI 0)), some (.int x), some (.int (nI dep)), some (.int (nI 0)), some (.int (nI 1))]) (st' := [.int (nI 8), .int (nI 1)]) (σ' := (α, δ)) (pc' := 10) kX9_speak_6 rfl rfl rf_a0 ?_
  refine ok_icmp_ge bX9_speak_10 (fun h10 => absurd h10 ((by decide))) (fun _ => ?_)
  refine ok_step (ps := [rf_in (((nI 0) * (nI 4)) + (nI 0)) 32]) (L' := [some (.ref 83), some (.int (nI 2)), some (.int (nI 0)), some (.int x), some (.int (nI dep)), some (.int (nI 0)), some (.int (nI 1))]) (st' := [.int (tBodies ((((nI 0) * (nI 4)) + (nI 0)).toNatClampNeg))]) (σ' := (α, δ)) (pc' := 23) kX9_speak_13 rfl rfl (rf_a1 (rf_in_n (a := 0) (by (try rw [(show ((nI 0) * (nI 4)) = nI 0 from rf_eq (rf_nmul (x := nI 0) (y := nI 4) rfl rfl) (by omega))]); (try rw [(show ((nI 0) + (nI 0)) = nI 0 from rf_eq (rf_nadd (x := nI 0) (y := nI 0) rfl rfl) (by omega))]); all_goals exact rfl) (by omega)) rf_a0) ?_
  try rw [(show ((nI 0) * (nI 4)) = nI 0 from rf_eq (rf_nmul (x := nI 0) (y := nI 4) rfl rfl) (by omega))]
  try rw [(show ((nI 0) + (nI 0)) = nI 0 from rf_eq (rf_nadd (x := nI 0) (y := nI 0) rfl rfl) (by omega))]
  try rw [(show (nI 0).toNatClampNeg = 0 from rf_cl_n rfl (by omega))]
  try rw [(show tBodies 0 = nI 10 from rfl)]
  refine ok_if_ne bX9_speak_23 (fun _ => ?_) (fun h23 => absurd h23 ((by decide)))
  refine ok_step (ps := []) (L' := [some (.ref 83), some (.int (nI 2)), some (.int (nI 0)), some (.int x), some (.int (nI dep)), some (.int (nI 0)), some (.int (nI 1))]) (st' := [.int (nI 30), .int (nI dep)]) (σ' := (α, δ)) (pc' := 44) kX9_speak_40 rfl rfl rf_a0 ?_
  refine ok_icmp_le bX9_speak_44 (fun _ => ?_) (fun h44 => absurd (nI_le (by omega) (by omega)) h44)
  refine ok_step (ps := [rf_in (((nI 0) * (nI 4)) + (nI 0)) 32]) (L' := [some (.ref 83), some (.int (nI 2)), some (.int (nI 0)), some (.int x), some (.int (nI dep)), some (.int (nI 0)), some (.int (tBodies ((((nI 0) * (nI 4)) + (nI 0)).toNatClampNeg)))]) (st' := [.int (nI 40), .int (α 83 0)]) (σ' := (α, δ)) (pc' := 67) kX9_speak_49 rfl rfl (rf_a1 (rf_in_n (a := 0) (by (try rw [(show ((nI 0) * (nI 4)) = nI 0 from rf_eq (rf_nmul (x := nI 0) (y := nI 4) rfl rfl) (by omega))]); (try rw [(show ((nI 0) + (nI 0)) = nI 0 from rf_eq (rf_nadd (x := nI 0) (y := nI 0) rfl rfl) (by omega))]); all_goals exact rfl) (by omega)) rf_a0) ?_
  try rw [(show ((nI 0) * (nI 4)) = nI 0 from rf_eq (rf_nmul (x := nI 0) (y := nI 4) rfl rfl) (by omega))]
  try rw [(show ((nI 0) + (nI 0)) = nI 0 from rf_eq (rf_nadd (x := nI 0) (y := nI 0) rfl rfl) (by omega))]
  try rw [(show (nI 0).toNatClampNeg = 0 from rf_cl_n rfl (by omega))]
  try rw [(show tBodies 0 = nI 10 from rfl)]
  try rw [(show α 83 0 = nI b from hb)]
  refine ok_icmp_ge bX9_speak_67 (fun h67 => absurd h67 (nI_ge (by omega) (by omega))) (fun _ => ?_)
  refine ok_step (ps := [rf_in (α 83 0) 40]) (L' := [some (.ref 83), some (.int (nI 2)), some (.int (nI 0)), some (.int x), some (.int (nI dep)), some (.int (nI 0)), some (.int (nI 10))]) (st' := []) (σ' := (rf_w (rf_w α 84 ((α 83 0).toNatClampNeg) (nI 10)) 83 0 (((rf_w α 84 ((α 83 0).toNatClampNeg) (nI 10)) 83 0) + (nI 1)), δ)) (pc' := 91) kX9_speak_70 rfl rfl (rf_a1 (rf_in_n (a := b) (by (try rw [(show α 83 0 = nI b from hb)]); all_goals exact rfl) (by omega)) rf_a0) ?_
  try rw [(show α 83 0 = nI b from hb)]
  try rw [(show (nI b).toNatClampNeg = b from rf_cl_n rfl (by omega))]
  try rw [(show (rf_w α 84 b (nI 10)) 83 0 = α 83 0 from by rw [rf_w_at, if_neg (fun h => absurd h.1 (by decide))])]
  try rw [(show α 83 0 = nI b from hb)]
  try rw [(show ((nI b) + (nI 1)) = nI (1 + b) from rf_eq (rf_nadd (x := nI b) (y := nI 1) rfl rfl) (by omega))]
  rw [show rf_w (rf_w α 84 b (nI 10)) 83 0 (nI (1 + b)) = apt 84 83 0 α b [10] from apt_w (L := []) (by simp) (by omega)]
  refine ok_step (ps := [rf_in (nI 0) 8]) (L' := [some (.ref 83), some (.int (nI 2)), some (.int (nI 0)), some (.int x), some (.int (nI dep)), some (.int (nI 0)), some (.int (nI 10))]) (st' := [.int ((nI dep) + (nI 1)), .int x, .int (tAbove ((nI 0).toNatClampNeg)), .int (nI 10), .ref 83]) (σ' := (apt 84 83 0 α b [10], δ)) (pc' := 105) kX9_speak_91 rfl rfl (rf_a1 (rf_in_n (a := 0) rfl (by omega)) rf_a0) ?_
  try rw [(show (nI 0).toNatClampNeg = 0 from rf_cl_n rfl (by omega))]
  try rw [(show tAbove 0 = nI 0 from rfl)]
  try rw [(show ((nI dep) + (nI 1)) = nI (1 + dep) from rf_eq (rf_nadd (x := nI dep) (y := nI 1) rfl rfl) (by omega))]
  have hc105 : rf_At (rf_T Ln xs) MX9_runBody 1 0 ([some (.ref 83), some (.int (nI 10)), some (.int (nI 0)), some (.int x), some (.int (nI (1 + dep)))], [], 108, (apt 84 83 0 α b [10], δ)) (some (.int (x + nu))) 108 (apt 84 83 0 α b [10], δ) := by
    refine rf_pa ?_
    refine ok_step (ps := []) (L' := [some (.ref 83), some (.int (nI 10)), some (.int (nI 0)), some (.int x), some (.int (nI (1 + dep)))]) (st' := [.int (nI 10)]) (σ' := (apt 84 83 0 α b [10], δ)) (pc' := 1) kX9_runBody_0 rfl rfl rf_a0 ?_
    refine ok_lkk (q := (10, 107)) (t := 108) bX9_runBody_1 (by decide) (by decide) (by decide) (by decide) ?_
    refine ok_step (ps := []) (L' := [some (.ref 83), some (.int (nI 10)), some (.int (nI 0)), some (.int x), some (.int (nI (1 + dep)))]) (st' := [.int (x + ((apt 84 83 0 α b [10]) 83 3))]) (σ' := (apt 84 83 0 α b [10], δ)) (pc' := 114) kX9_runBody_108 rfl rfl rf_a0 ?_
    try rw [(show (apt 84 83 0 α b [10]) 83 3 = nu from (apt_f (by decide) (by decide)).trans hn)]
    refine ok_reti eX9_runBody_114 rfl ?_
    exact ⟨rfl, rfl⟩
  refine ok_V (As := [.int (nI 10), .int (nI 0), .int x, .int (nI (1 + dep))]) (b := 83) (st := []) mkX9_runBody qX9_speak_105 rfl (rc_83) rfl rfl rfl rfl (Nat.le_of_ble_eq_true rfl) (hc105) ?_
  refine ok_reti eX9_speak_108 rfl ?_
  exact ⟨rfl, rfl⟩
theorem cv4_0_4 {x : Int32} {b dep : Nat} (hk : α 83 2 = nI 4) (hn : α 83 3 = nu) (hm : α 83 4 = mn) (hb : α 83 0 = nI b) (hl : b + 2 ≤ 40) (hd : dep + 2 ≤ 30) : rf_At (rf_T Ln xs) MX9_speak 4 0 ([some (.ref 83), some (.int (nI 4)), some (.int (nI 0)), some (.int x), some (.int (nI dep)), none, none], [], 108, (α, δ)) (some (.int ((x + nu) * nI 3))) 108 (apt 84 83 0 α b [50, 10], δ) := by
  refine rf_pa ?_
  refine ok_step (ps := []) (L' := [some (.ref 83), some (.int (nI 4)), some (.int (nI 0)), some (.int x), some (.int (nI dep)), some (.int (nI 4)), some (.int (nI 0))]) (st' := []) (σ' := (α, δ)) (pc' := 6) kX9_speak_0 rfl rfl rf_a0 ?_
  refine ok_step (ps := []) (L' := [some (.ref 83), some (.int (nI 4)), some (.int (nI 0)), some (.int x), some (.int (nI dep)), some (.int (nI 4)), some (.int (nI 0))]) (st' := [.int (nI 8), .int (nI 0)]) (σ' := (α, δ)) (pc' := 10) kX9_speak_6 rfl rfl rf_a0 ?_
  refine ok_icmp_ge bX9_speak_10 (fun h10 => absurd h10 ((by decide))) (fun _ => ?_)
  refine ok_step (ps := [rf_in (((nI 4) * (nI 4)) + (nI 0)) 32]) (L' := [some (.ref 83), some (.int (nI 4)), some (.int (nI 0)), some (.int x), some (.int (nI dep)), some (.int (nI 4)), some (.int (nI 0))]) (st' := [.int (tBodies ((((nI 4) * (nI 4)) + (nI 0)).toNatClampNeg))]) (σ' := (α, δ)) (pc' := 23) kX9_speak_13 rfl rfl (rf_a1 (rf_in_n (a := 16) (by (try rw [(show ((nI 4) * (nI 4)) = nI 16 from rf_eq (rf_nmul (x := nI 4) (y := nI 4) rfl rfl) (by omega))]); (try rw [(show ((nI 16) + (nI 0)) = nI 16 from rf_eq (rf_nadd (x := nI 16) (y := nI 0) rfl rfl) (by omega))]); all_goals exact rfl) (by omega)) rf_a0) ?_
  try rw [(show ((nI 4) * (nI 4)) = nI 16 from rf_eq (rf_nmul (x := nI 4) (y := nI 4) rfl rfl) (by omega))]
  try rw [(show ((nI 16) + (nI 0)) = nI 16 from rf_eq (rf_nadd (x := nI 16) (y := nI 0) rfl rfl) (by omega))]
  try rw [(show (nI 16).toNatClampNeg = 16 from rf_cl_n rfl (by omega))]
  try rw [(show tBodies 16 = nI 50 from rfl)]
  refine ok_if_ne bX9_speak_23 (fun _ => ?_) (fun h23 => absurd h23 ((by decide)))
  refine ok_step (ps := []) (L' := [some (.ref 83), some (.int (nI 4)), some (.int (nI 0)), some (.int x), some (.int (nI dep)), some (.int (nI 4)), some (.int (nI 0))]) (st' := [.int (nI 30), .int (nI dep)]) (σ' := (α, δ)) (pc' := 44) kX9_speak_40 rfl rfl rf_a0 ?_
  refine ok_icmp_le bX9_speak_44 (fun _ => ?_) (fun h44 => absurd (nI_le (by omega) (by omega)) h44)
  refine ok_step (ps := [rf_in (((nI 4) * (nI 4)) + (nI 0)) 32]) (L' := [some (.ref 83), some (.int (nI 4)), some (.int (nI 0)), some (.int x), some (.int (nI dep)), some (.int (nI 4)), some (.int (tBodies ((((nI 4) * (nI 4)) + (nI 0)).toNatClampNeg)))]) (st' := [.int (nI 40), .int (α 83 0)]) (σ' := (α, δ)) (pc' := 67) kX9_speak_49 rfl rfl (rf_a1 (rf_in_n (a := 16) (by (try rw [(show ((nI 4) * (nI 4)) = nI 16 from rf_eq (rf_nmul (x := nI 4) (y := nI 4) rfl rfl) (by omega))]); (try rw [(show ((nI 16) + (nI 0)) = nI 16 from rf_eq (rf_nadd (x := nI 16) (y := nI 0) rfl rfl) (by omega))]); all_goals exact rfl) (by omega)) rf_a0) ?_
  try rw [(show ((nI 4) * (nI 4)) = nI 16 from rf_eq (rf_nmul (x := nI 4) (y := nI 4) rfl rfl) (by omega))]
  try rw [(show ((nI 16) + (nI 0)) = nI 16 from rf_eq (rf_nadd (x := nI 16) (y := nI 0) rfl rfl) (by omega))]
  try rw [(show (nI 16).toNatClampNeg = 16 from rf_cl_n rfl (by omega))]
  try rw [(show tBodies 16 = nI 50 from rfl)]
  try rw [(show α 83 0 = nI b from hb)]
  refine ok_icmp_ge bX9_speak_67 (fun h67 => absurd h67 (nI_ge (by omega) (by omega))) (fun _ => ?_)
  refine ok_step (ps := [rf_in (α 83 0) 40]) (L' := [some (.ref 83), some (.int (nI 4)), some (.int (nI 0)), some (.int x), some (.int (nI dep)), some (.int (nI 4)), some (.int (nI 50))]) (st' := []) (σ' := (rf_w (rf_w α 84 ((α 83 0).toNatClampNeg) (nI 50)) 83 0 (((rf_w α 84 ((α 83 0).toNatClampNeg) (nI 50)) 83 0) + (nI 1)), δ)) (pc' := 91) kX9_speak_70 rfl rfl (rf_a1 (rf_in_n (a := b) (by (try rw [(show α 83 0 = nI b from hb)]); all_goals exact rfl) (by omega)) rf_a0) ?_
  try rw [(show α 83 0 = nI b from hb)]
  try rw [(show (nI b).toNatClampNeg = b from rf_cl_n rfl (by omega))]
  try rw [(show (rf_w α 84 b (nI 50)) 83 0 = α 83 0 from by rw [rf_w_at, if_neg (fun h => absurd h.1 (by decide))])]
  try rw [(show α 83 0 = nI b from hb)]
  try rw [(show ((nI b) + (nI 1)) = nI (1 + b) from rf_eq (rf_nadd (x := nI b) (y := nI 1) rfl rfl) (by omega))]
  rw [show rf_w (rf_w α 84 b (nI 50)) 83 0 (nI (1 + b)) = apt 84 83 0 α b [50] from apt_w (L := []) (by simp) (by omega)]
  refine ok_step (ps := [rf_in (nI 4) 8]) (L' := [some (.ref 83), some (.int (nI 4)), some (.int (nI 0)), some (.int x), some (.int (nI dep)), some (.int (nI 4)), some (.int (nI 50))]) (st' := [.int ((nI dep) + (nI 1)), .int x, .int (tAbove ((nI 4).toNatClampNeg)), .int (nI 50), .ref 83]) (σ' := (apt 84 83 0 α b [50], δ)) (pc' := 105) kX9_speak_91 rfl rfl (rf_a1 (rf_in_n (a := 4) rfl (by omega)) rf_a0) ?_
  try rw [(show (nI 4).toNatClampNeg = 4 from rf_cl_n rfl (by omega))]
  try rw [(show tAbove 4 = nI 2 from rfl)]
  try rw [(show ((nI dep) + (nI 1)) = nI (1 + dep) from rf_eq (rf_nadd (x := nI dep) (y := nI 1) rfl rfl) (by omega))]
  have hc105 : rf_At (rf_T Ln xs) MX9_runBody 3 0 ([some (.ref 83), some (.int (nI 50)), some (.int (nI 2)), some (.int x), some (.int (nI (1 + dep)))], [], 108, (apt 84 83 0 α b [50], δ)) (some (.int ((x + nu) * (nI 3)))) 108 (apt 84 83 0 α b [50, 10], δ) := by
    refine rf_pa ?_
    refine ok_step (ps := []) (L' := [some (.ref 83), some (.int (nI 50)), some (.int (nI 2)), some (.int x), some (.int (nI (1 + dep)))]) (st' := [.int (nI 50)]) (σ' := (apt 84 83 0 α b [50], δ)) (pc' := 1) kX9_runBody_0 rfl rfl rf_a0 ?_
    refine ok_lkk (q := (50, 208)) (t := 209) bX9_runBody_1 (by decide) (by decide) (by decide) (by decide) ?_
    refine ok_step (ps := []) (L' := [some (.ref 83), some (.int (nI 50)), some (.int (nI 2)), some (.int x), some (.int (nI (1 + dep)))]) (st' := [.int (nI (1 + dep)), .int x, .int (nI 0), .int (nI 2), .ref 83]) (σ' := (apt 84 83 0 α b [50], δ)) (pc' := 215) kX9_runBody_209 rfl rfl rf_a0 ?_
    refine ok_V (As := [.int (nI 2), .int (nI 0), .int x, .int (nI (1 + dep))]) (b := 83) (st := []) mkX9_speak qX9_runBody_215 rfl (rc_83) rfl rfl rfl rfl (Nat.le_of_ble_eq_true rfl) (cv4_0_2 (b := (1 + b)) (dep := (1 + dep)) ((apt_f (by decide) (by decide)).trans hk) ((apt_f (by decide) (by decide)).trans hn) ((apt_f (by decide) (by decide)).trans hm) (apt_0 (by decide) hb) (by omega) (by omega)) ?_
    rw [show apt 84 83 0 (apt 84 83 0 α b [50]) (1 + b) [10] = apt 84 83 0 α b [50, 10] from apt_app (by simp)]
    refine ok_step (ps := []) (L' := [some (.ref 83), some (.int (nI 50)), some (.int (nI 2)), some (.int x), some (.int (nI (1 + dep)))]) (st' := [.int ((x + nu) * (nI 3))]) (σ' := (apt 84 83 0 α b [50, 10], δ)) (pc' := 220) kX9_runBody_218 rfl rfl rf_a0 ?_
    refine ok_reti eX9_runBody_220 rfl ?_
    exact ⟨rfl, rfl⟩
  refine ok_V (As := [.int (nI 50), .int (nI 2), .int x, .int (nI (1 + dep))]) (b := 83) (st := []) mkX9_runBody qX9_speak_105 rfl (rc_83) rfl rfl rfl rfl (Nat.le_of_ble_eq_true rfl) (hc105) ?_
  refine ok_reti eX9_speak_108 rfl ?_
  exact ⟨rfl, rfl⟩
theorem cv4_1_0 {x : Int32} {b dep : Nat} (hk : α 83 2 = nI 4) (hn : α 83 3 = nu) (hm : α 83 4 = mn) (hb : α 83 0 = nI b) (hl : b + 3 ≤ 40) (hd : dep + 3 ≤ 30) : rf_At (rf_T Ln xs) MX9_speak 6 0 ([some (.ref 83), some (.int (nI 0)), some (.int (nI 1)), some (.int x), some (.int (nI dep)), none, none], [], 108, (α, δ)) (some (.int (((x + nu) * nI 3) * nI 2))) 108 (apt 84 83 0 α b [11, 50, 10], δ) := by
  refine rf_pa ?_
  refine ok_step (ps := []) (L' := [some (.ref 83), some (.int (nI 0)), some (.int (nI 1)), some (.int x), some (.int (nI dep)), some (.int (nI 0)), some (.int (nI 0))]) (st' := []) (σ' := (α, δ)) (pc' := 6) kX9_speak_0 rfl rfl rf_a0 ?_
  refine ok_step (ps := []) (L' := [some (.ref 83), some (.int (nI 0)), some (.int (nI 1)), some (.int x), some (.int (nI dep)), some (.int (nI 0)), some (.int (nI 0))]) (st' := [.int (nI 8), .int (nI 0)]) (σ' := (α, δ)) (pc' := 10) kX9_speak_6 rfl rfl rf_a0 ?_
  refine ok_icmp_ge bX9_speak_10 (fun h10 => absurd h10 ((by decide))) (fun _ => ?_)
  refine ok_step (ps := [rf_in (((nI 0) * (nI 4)) + (nI 1)) 32]) (L' := [some (.ref 83), some (.int (nI 0)), some (.int (nI 1)), some (.int x), some (.int (nI dep)), some (.int (nI 0)), some (.int (nI 0))]) (st' := [.int (tBodies ((((nI 0) * (nI 4)) + (nI 1)).toNatClampNeg))]) (σ' := (α, δ)) (pc' := 23) kX9_speak_13 rfl rfl (rf_a1 (rf_in_n (a := 1) (by (try rw [(show ((nI 0) * (nI 4)) = nI 0 from rf_eq (rf_nmul (x := nI 0) (y := nI 4) rfl rfl) (by omega))]); (try rw [(show ((nI 0) + (nI 1)) = nI 1 from rf_eq (rf_nadd (x := nI 0) (y := nI 1) rfl rfl) (by omega))]); all_goals exact rfl) (by omega)) rf_a0) ?_
  try rw [(show ((nI 0) * (nI 4)) = nI 0 from rf_eq (rf_nmul (x := nI 0) (y := nI 4) rfl rfl) (by omega))]
  try rw [(show ((nI 0) + (nI 1)) = nI 1 from rf_eq (rf_nadd (x := nI 0) (y := nI 1) rfl rfl) (by omega))]
  try rw [(show (nI 1).toNatClampNeg = 1 from rf_cl_n rfl (by omega))]
  try rw [(show tBodies 1 = nI 11 from rfl)]
  refine ok_if_ne bX9_speak_23 (fun _ => ?_) (fun h23 => absurd h23 ((by decide)))
  refine ok_step (ps := []) (L' := [some (.ref 83), some (.int (nI 0)), some (.int (nI 1)), some (.int x), some (.int (nI dep)), some (.int (nI 0)), some (.int (nI 0))]) (st' := [.int (nI 30), .int (nI dep)]) (σ' := (α, δ)) (pc' := 44) kX9_speak_40 rfl rfl rf_a0 ?_
  refine ok_icmp_le bX9_speak_44 (fun _ => ?_) (fun h44 => absurd (nI_le (by omega) (by omega)) h44)
  refine ok_step (ps := [rf_in (((nI 0) * (nI 4)) + (nI 1)) 32]) (L' := [some (.ref 83), some (.int (nI 0)), some (.int (nI 1)), some (.int x), some (.int (nI dep)), some (.int (nI 0)), some (.int (tBodies ((((nI 0) * (nI 4)) + (nI 1)).toNatClampNeg)))]) (st' := [.int (nI 40), .int (α 83 0)]) (σ' := (α, δ)) (pc' := 67) kX9_speak_49 rfl rfl (rf_a1 (rf_in_n (a := 1) (by (try rw [(show ((nI 0) * (nI 4)) = nI 0 from rf_eq (rf_nmul (x := nI 0) (y := nI 4) rfl rfl) (by omega))]); (try rw [(show ((nI 0) + (nI 1)) = nI 1 from rf_eq (rf_nadd (x := nI 0) (y := nI 1) rfl rfl) (by omega))]); all_goals exact rfl) (by omega)) rf_a0) ?_
  try rw [(show ((nI 0) * (nI 4)) = nI 0 from rf_eq (rf_nmul (x := nI 0) (y := nI 4) rfl rfl) (by omega))]
  try rw [(show ((nI 0) + (nI 1)) = nI 1 from rf_eq (rf_nadd (x := nI 0) (y := nI 1) rfl rfl) (by omega))]
  try rw [(show (nI 1).toNatClampNeg = 1 from rf_cl_n rfl (by omega))]
  try rw [(show tBodies 1 = nI 11 from rfl)]
  try rw [(show α 83 0 = nI b from hb)]
  refine ok_icmp_ge bX9_speak_67 (fun h67 => absurd h67 (nI_ge (by omega) (by omega))) (fun _ => ?_)
  refine ok_step (ps := [rf_in (α 83 0) 40]) (L' := [some (.ref 83), some (.int (nI 0)), some (.int (nI 1)), some (.int x), some (.int (nI dep)), some (.int (nI 0)), some (.int (nI 11))]) (st' := []) (σ' := (rf_w (rf_w α 84 ((α 83 0).toNatClampNeg) (nI 11)) 83 0 (((rf_w α 84 ((α 83 0).toNatClampNeg) (nI 11)) 83 0) + (nI 1)), δ)) (pc' := 91) kX9_speak_70 rfl rfl (rf_a1 (rf_in_n (a := b) (by (try rw [(show α 83 0 = nI b from hb)]); all_goals exact rfl) (by omega)) rf_a0) ?_
  try rw [(show α 83 0 = nI b from hb)]
  try rw [(show (nI b).toNatClampNeg = b from rf_cl_n rfl (by omega))]
  try rw [(show (rf_w α 84 b (nI 11)) 83 0 = α 83 0 from by rw [rf_w_at, if_neg (fun h => absurd h.1 (by decide))])]
  try rw [(show α 83 0 = nI b from hb)]
  try rw [(show ((nI b) + (nI 1)) = nI (1 + b) from rf_eq (rf_nadd (x := nI b) (y := nI 1) rfl rfl) (by omega))]
  rw [show rf_w (rf_w α 84 b (nI 11)) 83 0 (nI (1 + b)) = apt 84 83 0 α b [11] from apt_w (L := []) (by simp) (by omega)]
  refine ok_step (ps := [rf_in (nI 0) 8]) (L' := [some (.ref 83), some (.int (nI 0)), some (.int (nI 1)), some (.int x), some (.int (nI dep)), some (.int (nI 0)), some (.int (nI 11))]) (st' := [.int ((nI dep) + (nI 1)), .int x, .int (tAbove ((nI 0).toNatClampNeg)), .int (nI 11), .ref 83]) (σ' := (apt 84 83 0 α b [11], δ)) (pc' := 105) kX9_speak_91 rfl rfl (rf_a1 (rf_in_n (a := 0) rfl (by omega)) rf_a0) ?_
  try rw [(show (nI 0).toNatClampNeg = 0 from rf_cl_n rfl (by omega))]
  try rw [(show tAbove 0 = nI 0 from rfl)]
  try rw [(show ((nI dep) + (nI 1)) = nI (1 + dep) from rf_eq (rf_nadd (x := nI dep) (y := nI 1) rfl rfl) (by omega))]
  have hc105 : rf_At (rf_T Ln xs) MX9_runBody 5 0 ([some (.ref 83), some (.int (nI 11)), some (.int (nI 0)), some (.int x), some (.int (nI (1 + dep)))], [], 108, (apt 84 83 0 α b [11], δ)) (some (.int (((x + nu) * nI 3) * (nI 2)))) 108 (apt 84 83 0 α b [11, 50, 10], δ) := by
    refine rf_pa ?_
    refine ok_step (ps := []) (L' := [some (.ref 83), some (.int (nI 11)), some (.int (nI 0)), some (.int x), some (.int (nI (1 + dep)))]) (st' := [.int (nI 11)]) (σ' := (apt 84 83 0 α b [11], δ)) (pc' := 1) kX9_runBody_0 rfl rfl rf_a0 ?_
    refine ok_lkk (q := (11, 114)) (t := 115) bX9_runBody_1 (by decide) (by decide) (by decide) (by decide) ?_
    refine ok_step (ps := []) (L' := [some (.ref 83), some (.int (nI 11)), some (.int (nI 0)), some (.int x), some (.int (nI (1 + dep)))]) (st' := [.int (nI (1 + dep)), .int x, .int (nI 0), .int ((apt 84 83 0 α b [11]) 83 2), .ref 83]) (σ' := (apt 84 83 0 α b [11], δ)) (pc' := 124) kX9_runBody_115 rfl rfl rf_a0 ?_
    try rw [(show (apt 84 83 0 α b [11]) 83 2 = nI 4 from (apt_f (by decide) (by decide)).trans hk)]
    refine ok_V (As := [.int (nI 4), .int (nI 0), .int x, .int (nI (1 + dep))]) (b := 83) (st := []) mkX9_speak qX9_runBody_124 rfl (rc_83) rfl rfl rfl rfl (Nat.le_of_ble_eq_true rfl) (cv4_0_4 (b := (1 + b)) (dep := (1 + dep)) ((apt_f (by decide) (by decide)).trans hk) ((apt_f (by decide) (by decide)).trans hn) ((apt_f (by decide) (by decide)).trans hm) (apt_0 (by decide) hb) (by omega) (by omega)) ?_
    rw [show apt 84 83 0 (apt 84 83 0 α b [11]) (1 + b) [50, 10] = apt 84 83 0 α b [11, 50, 10] from apt_app (by simp)]
    refine ok_step (ps := []) (L' := [some (.ref 83), some (.int (nI 11)), some (.int (nI 0)), some (.int x), some (.int (nI (1 + dep)))]) (st' := [.int (((x + nu) * nI 3) * (nI 2))]) (σ' := (apt 84 83 0 α b [11, 50, 10], δ)) (pc' := 129) kX9_runBody_127 rfl rfl rf_a0 ?_
    refine ok_reti eX9_runBody_129 rfl ?_
    exact ⟨rfl, rfl⟩
  refine ok_V (As := [.int (nI 11), .int (nI 0), .int x, .int (nI (1 + dep))]) (b := 83) (st := []) mkX9_runBody qX9_speak_105 rfl (rc_83) rfl rfl rfl rfl (Nat.le_of_ble_eq_true rfl) (hc105) ?_
  refine ok_reti eX9_speak_108 rfl ?_
  exact ⟨rfl, rfl⟩
theorem cv4_2_4 {x : Int32} {b dep : Nat} (hk : α 83 2 = nI 4) (hn : α 83 3 = nu) (hm : α 83 4 = mn) (hb : α 83 0 = nI b) (hl : b + 1 ≤ 40) (hd : dep + 1 ≤ 30) : rf_At (rf_T Ln xs) MX9_speak 2 0 ([some (.ref 83), some (.int (nI 4)), some (.int (nI 2)), some (.int x), some (.int (nI dep)), none, none], [], 108, (α, δ)) (some (.int (x - mn))) 108 (apt 84 83 0 α b [12], δ) := by
  refine rf_pa ?_
  refine ok_step (ps := []) (L' := [some (.ref 83), some (.int (nI 4)), some (.int (nI 2)), some (.int x), some (.int (nI dep)), some (.int (nI 4)), some (.int (nI 0))]) (st' := []) (σ' := (α, δ)) (pc' := 6) kX9_speak_0 rfl rfl rf_a0 ?_
  refine ok_step (ps := []) (L' := [some (.ref 83), some (.int (nI 4)), some (.int (nI 2)), some (.int x), some (.int (nI dep)), some (.int (nI 4)), some (.int (nI 0))]) (st' := [.int (nI 8), .int (nI 0)]) (σ' := (α, δ)) (pc' := 10) kX9_speak_6 rfl rfl rf_a0 ?_
  refine ok_icmp_ge bX9_speak_10 (fun h10 => absurd h10 ((by decide))) (fun _ => ?_)
  refine ok_step (ps := [rf_in (((nI 4) * (nI 4)) + (nI 2)) 32]) (L' := [some (.ref 83), some (.int (nI 4)), some (.int (nI 2)), some (.int x), some (.int (nI dep)), some (.int (nI 4)), some (.int (nI 0))]) (st' := [.int (tBodies ((((nI 4) * (nI 4)) + (nI 2)).toNatClampNeg))]) (σ' := (α, δ)) (pc' := 23) kX9_speak_13 rfl rfl (rf_a1 (rf_in_n (a := 18) (by (try rw [(show ((nI 4) * (nI 4)) = nI 16 from rf_eq (rf_nmul (x := nI 4) (y := nI 4) rfl rfl) (by omega))]); (try rw [(show ((nI 16) + (nI 2)) = nI 18 from rf_eq (rf_nadd (x := nI 16) (y := nI 2) rfl rfl) (by omega))]); all_goals exact rfl) (by omega)) rf_a0) ?_
  try rw [(show ((nI 4) * (nI 4)) = nI 16 from rf_eq (rf_nmul (x := nI 4) (y := nI 4) rfl rfl) (by omega))]
  try rw [(show ((nI 16) + (nI 2)) = nI 18 from rf_eq (rf_nadd (x := nI 16) (y := nI 2) rfl rfl) (by omega))]
  try rw [(show (nI 18).toNatClampNeg = 18 from rf_cl_n rfl (by omega))]
  try rw [(show tBodies 18 = nI 0 from rfl)]
  refine ok_if_ne bX9_speak_23 (fun h23 => absurd ((by decide)) h23) (fun _ => ?_)
  refine ok_step (ps := [rf_in (nI 4) 8]) (L' := [some (.ref 83), some (.int (nI 4)), some (.int (nI 2)), some (.int x), some (.int (nI dep)), some (.int (tAbove ((nI 4).toNatClampNeg))), some (.int ((nI 0) + (nI 1)))]) (st' := []) (σ' := (α, δ)) (pc' := 37) kX9_speak_26 rfl rfl (rf_a1 (rf_in_n (a := 4) rfl (by omega)) rf_a0) ?_
  try rw [(show (nI 4).toNatClampNeg = 4 from rf_cl_n rfl (by omega))]
  try rw [(show tAbove 4 = nI 2 from rfl)]
  try rw [(show ((nI 0) + (nI 1)) = nI 1 from rf_eq (rf_nadd (x := nI 0) (y := nI 1) rfl rfl) (by omega))]
  refine ok_goto bX9_speak_37 ?_
  refine ok_step (ps := []) (L' := [some (.ref 83), some (.int (nI 4)), some (.int (nI 2)), some (.int x), some (.int (nI dep)), some (.int (nI 2)), some (.int (nI 1))]) (st' := [.int (nI 8), .int (nI 1)]) (σ' := (α, δ)) (pc' := 10) kX9_speak_6 rfl rfl rf_a0 ?_
  refine ok_icmp_ge bX9_speak_10 (fun h10 => absurd h10 ((by decide))) (fun _ => ?_)
  refine ok_step (ps := [rf_in (((nI 2) * (nI 4)) + (nI 2)) 32]) (L' := [some (.ref 83), some (.int (nI 4)), some (.int (nI 2)), some (.int x), some (.int (nI dep)), some (.int (nI 2)), some (.int (nI 1))]) (st' := [.int (tBodies ((((nI 2) * (nI 4)) + (nI 2)).toNatClampNeg))]) (σ' := (α, δ)) (pc' := 23) kX9_speak_13 rfl rfl (rf_a1 (rf_in_n (a := 10) (by (try rw [(show ((nI 2) * (nI 4)) = nI 8 from rf_eq (rf_nmul (x := nI 2) (y := nI 4) rfl rfl) (by omega))]); (try rw [(show ((nI 8) + (nI 2)) = nI 10 from rf_eq (rf_nadd (x := nI 8) (y := nI 2) rfl rfl) (by omega))]); all_goals exact rfl) (by omega)) rf_a0) ?_
  try rw [(show ((nI 2) * (nI 4)) = nI 8 from rf_eq (rf_nmul (x := nI 2) (y := nI 4) rfl rfl) (by omega))]
  try rw [(show ((nI 8) + (nI 2)) = nI 10 from rf_eq (rf_nadd (x := nI 8) (y := nI 2) rfl rfl) (by omega))]
  try rw [(show (nI 10).toNatClampNeg = 10 from rf_cl_n rfl (by omega))]
  try rw [(show tBodies 10 = nI 0 from rfl)]
  refine ok_if_ne bX9_speak_23 (fun h23 => absurd ((by decide)) h23) (fun _ => ?_)
  refine ok_step (ps := [rf_in (nI 2) 8]) (L' := [some (.ref 83), some (.int (nI 4)), some (.int (nI 2)), some (.int x), some (.int (nI dep)), some (.int (tAbove ((nI 2).toNatClampNeg))), some (.int ((nI 1) + (nI 1)))]) (st' := []) (σ' := (α, δ)) (pc' := 37) kX9_speak_26 rfl rfl (rf_a1 (rf_in_n (a := 2) rfl (by omega)) rf_a0) ?_
  try rw [(show (nI 2).toNatClampNeg = 2 from rf_cl_n rfl (by omega))]
  try rw [(show tAbove 2 = nI 0 from rfl)]
  try rw [(show ((nI 1) + (nI 1)) = nI 2 from rf_eq (rf_nadd (x := nI 1) (y := nI 1) rfl rfl) (by omega))]
  refine ok_goto bX9_speak_37 ?_
  refine ok_step (ps := []) (L' := [some (.ref 83), some (.int (nI 4)), some (.int (nI 2)), some (.int x), some (.int (nI dep)), some (.int (nI 0)), some (.int (nI 2))]) (st' := [.int (nI 8), .int (nI 2)]) (σ' := (α, δ)) (pc' := 10) kX9_speak_6 rfl rfl rf_a0 ?_
  refine ok_icmp_ge bX9_speak_10 (fun h10 => absurd h10 ((by decide))) (fun _ => ?_)
  refine ok_step (ps := [rf_in (((nI 0) * (nI 4)) + (nI 2)) 32]) (L' := [some (.ref 83), some (.int (nI 4)), some (.int (nI 2)), some (.int x), some (.int (nI dep)), some (.int (nI 0)), some (.int (nI 2))]) (st' := [.int (tBodies ((((nI 0) * (nI 4)) + (nI 2)).toNatClampNeg))]) (σ' := (α, δ)) (pc' := 23) kX9_speak_13 rfl rfl (rf_a1 (rf_in_n (a := 2) (by (try rw [(show ((nI 0) * (nI 4)) = nI 0 from rf_eq (rf_nmul (x := nI 0) (y := nI 4) rfl rfl) (by omega))]); (try rw [(show ((nI 0) + (nI 2)) = nI 2 from rf_eq (rf_nadd (x := nI 0) (y := nI 2) rfl rfl) (by omega))]); all_goals exact rfl) (by omega)) rf_a0) ?_
  try rw [(show ((nI 0) * (nI 4)) = nI 0 from rf_eq (rf_nmul (x := nI 0) (y := nI 4) rfl rfl) (by omega))]
  try rw [(show ((nI 0) + (nI 2)) = nI 2 from rf_eq (rf_nadd (x := nI 0) (y := nI 2) rfl rfl) (by omega))]
  try rw [(show (nI 2).toNatClampNeg = 2 from rf_cl_n rfl (by omega))]
  try rw [(show tBodies 2 = nI 12 from rfl)]
  refine ok_if_ne bX9_speak_23 (fun _ => ?_) (fun h23 => absurd h23 ((by decide)))
  refine ok_step (ps := []) (L' := [some (.ref 83), some (.int (nI 4)), some (.int (nI 2)), some (.int x), some (.int (nI dep)), some (.int (nI 0)), some (.int (nI 2))]) (st' := [.int (nI 30), .int (nI dep)]) (σ' := (α, δ)) (pc' := 44) kX9_speak_40 rfl rfl rf_a0 ?_
  refine ok_icmp_le bX9_speak_44 (fun _ => ?_) (fun h44 => absurd (nI_le (by omega) (by omega)) h44)
  refine ok_step (ps := [rf_in (((nI 0) * (nI 4)) + (nI 2)) 32]) (L' := [some (.ref 83), some (.int (nI 4)), some (.int (nI 2)), some (.int x), some (.int (nI dep)), some (.int (nI 0)), some (.int (tBodies ((((nI 0) * (nI 4)) + (nI 2)).toNatClampNeg)))]) (st' := [.int (nI 40), .int (α 83 0)]) (σ' := (α, δ)) (pc' := 67) kX9_speak_49 rfl rfl (rf_a1 (rf_in_n (a := 2) (by (try rw [(show ((nI 0) * (nI 4)) = nI 0 from rf_eq (rf_nmul (x := nI 0) (y := nI 4) rfl rfl) (by omega))]); (try rw [(show ((nI 0) + (nI 2)) = nI 2 from rf_eq (rf_nadd (x := nI 0) (y := nI 2) rfl rfl) (by omega))]); all_goals exact rfl) (by omega)) rf_a0) ?_
  try rw [(show ((nI 0) * (nI 4)) = nI 0 from rf_eq (rf_nmul (x := nI 0) (y := nI 4) rfl rfl) (by omega))]
  try rw [(show ((nI 0) + (nI 2)) = nI 2 from rf_eq (rf_nadd (x := nI 0) (y := nI 2) rfl rfl) (by omega))]
  try rw [(show (nI 2).toNatClampNeg = 2 from rf_cl_n rfl (by omega))]
  try rw [(show tBodies 2 = nI 12 from rfl)]
  try rw [(show α 83 0 = nI b from hb)]
  refine ok_icmp_ge bX9_speak_67 (fun h67 => absurd h67 (nI_ge (by omega) (by omega))) (fun _ => ?_)
  refine ok_step (ps := [rf_in (α 83 0) 40]) (L' := [some (.ref 83), some (.int (nI 4)), some (.int (nI 2)), some (.int x), some (.int (nI dep)), some (.int (nI 0)), some (.int (nI 12))]) (st' := []) (σ' := (rf_w (rf_w α 84 ((α 83 0).toNatClampNeg) (nI 12)) 83 0 (((rf_w α 84 ((α 83 0).toNatClampNeg) (nI 12)) 83 0) + (nI 1)), δ)) (pc' := 91) kX9_speak_70 rfl rfl (rf_a1 (rf_in_n (a := b) (by (try rw [(show α 83 0 = nI b from hb)]); all_goals exact rfl) (by omega)) rf_a0) ?_
  try rw [(show α 83 0 = nI b from hb)]
  try rw [(show (nI b).toNatClampNeg = b from rf_cl_n rfl (by omega))]
  try rw [(show (rf_w α 84 b (nI 12)) 83 0 = α 83 0 from by rw [rf_w_at, if_neg (fun h => absurd h.1 (by decide))])]
  try rw [(show α 83 0 = nI b from hb)]
  try rw [(show ((nI b) + (nI 1)) = nI (1 + b) from rf_eq (rf_nadd (x := nI b) (y := nI 1) rfl rfl) (by omega))]
  rw [show rf_w (rf_w α 84 b (nI 12)) 83 0 (nI (1 + b)) = apt 84 83 0 α b [12] from apt_w (L := []) (by simp) (by omega)]
  refine ok_step (ps := [rf_in (nI 0) 8]) (L' := [some (.ref 83), some (.int (nI 4)), some (.int (nI 2)), some (.int x), some (.int (nI dep)), some (.int (nI 0)), some (.int (nI 12))]) (st' := [.int ((nI dep) + (nI 1)), .int x, .int (tAbove ((nI 0).toNatClampNeg)), .int (nI 12), .ref 83]) (σ' := (apt 84 83 0 α b [12], δ)) (pc' := 105) kX9_speak_91 rfl rfl (rf_a1 (rf_in_n (a := 0) rfl (by omega)) rf_a0) ?_
  try rw [(show (nI 0).toNatClampNeg = 0 from rf_cl_n rfl (by omega))]
  try rw [(show tAbove 0 = nI 0 from rfl)]
  try rw [(show ((nI dep) + (nI 1)) = nI (1 + dep) from rf_eq (rf_nadd (x := nI dep) (y := nI 1) rfl rfl) (by omega))]
  have hc105 : rf_At (rf_T Ln xs) MX9_runBody 1 0 ([some (.ref 83), some (.int (nI 12)), some (.int (nI 0)), some (.int x), some (.int (nI (1 + dep)))], [], 108, (apt 84 83 0 α b [12], δ)) (some (.int (x - mn))) 108 (apt 84 83 0 α b [12], δ) := by
    refine rf_pa ?_
    refine ok_step (ps := []) (L' := [some (.ref 83), some (.int (nI 12)), some (.int (nI 0)), some (.int x), some (.int (nI (1 + dep)))]) (st' := [.int (nI 12)]) (σ' := (apt 84 83 0 α b [12], δ)) (pc' := 1) kX9_runBody_0 rfl rfl rf_a0 ?_
    refine ok_lkk (q := (12, 129)) (t := 130) bX9_runBody_1 (by decide) (by decide) (by decide) (by decide) ?_
    refine ok_step (ps := []) (L' := [some (.ref 83), some (.int (nI 12)), some (.int (nI 0)), some (.int x), some (.int (nI (1 + dep)))]) (st' := [.int (x - ((apt 84 83 0 α b [12]) 83 4))]) (σ' := (apt 84 83 0 α b [12], δ)) (pc' := 136) kX9_runBody_130 rfl rfl rf_a0 ?_
    try rw [(show (apt 84 83 0 α b [12]) 83 4 = mn from (apt_f (by decide) (by decide)).trans hm)]
    refine ok_reti eX9_runBody_136 rfl ?_
    exact ⟨rfl, rfl⟩
  refine ok_V (As := [.int (nI 12), .int (nI 0), .int x, .int (nI (1 + dep))]) (b := 83) (st := []) mkX9_runBody qX9_speak_105 rfl (rc_83) rfl rfl rfl rfl (Nat.le_of_ble_eq_true rfl) (hc105) ?_
  refine ok_reti eX9_speak_108 rfl ?_
  exact ⟨rfl, rfl⟩
theorem cv4_1_2 {x : Int32} {b dep : Nat} (hk : α 83 2 = nI 4) (hn : α 83 3 = nu) (hm : α 83 4 = mn) (hb : α 83 0 = nI b) (hl : b + 5 ≤ 40) (hd : dep + 4 ≤ 30) : rf_At (rf_T Ln xs) MX9_speak 8 0 ([some (.ref 83), some (.int (nI 2)), some (.int (nI 1)), some (.int x), some (.int (nI dep)), none, none], [], 108, (α, δ)) (some (.int ((((x + nu) * nI 3) * nI 2) - ((nI 1) - mn)))) 108 (apt 84 83 0 α b [30, 11, 50, 10, 12], δ) := by
  refine rf_pa ?_
  refine ok_step (ps := []) (L' := [some (.ref 83), some (.int (nI 2)), some (.int (nI 1)), some (.int x), some (.int (nI dep)), some (.int (nI 2)), some (.int (nI 0))]) (st' := []) (σ' := (α, δ)) (pc' := 6) kX9_speak_0 rfl rfl rf_a0 ?_
  refine ok_step (ps := []) (L' := [some (.ref 83), some (.int (nI 2)), some (.int (nI 1)), some (.int x), some (.int (nI dep)), some (.int (nI 2)), some (.int (nI 0))]) (st' := [.int (nI 8), .int (nI 0)]) (σ' := (α, δ)) (pc' := 10) kX9_speak_6 rfl rfl rf_a0 ?_
  refine ok_icmp_ge bX9_speak_10 (fun h10 => absurd h10 ((by decide))) (fun _ => ?_)
  refine ok_step (ps := [rf_in (((nI 2) * (nI 4)) + (nI 1)) 32]) (L' := [some (.ref 83), some (.int (nI 2)), some (.int (nI 1)), some (.int x), some (.int (nI dep)), some (.int (nI 2)), some (.int (nI 0))]) (st' := [.int (tBodies ((((nI 2) * (nI 4)) + (nI 1)).toNatClampNeg))]) (σ' := (α, δ)) (pc' := 23) kX9_speak_13 rfl rfl (rf_a1 (rf_in_n (a := 9) (by (try rw [(show ((nI 2) * (nI 4)) = nI 8 from rf_eq (rf_nmul (x := nI 2) (y := nI 4) rfl rfl) (by omega))]); (try rw [(show ((nI 8) + (nI 1)) = nI 9 from rf_eq (rf_nadd (x := nI 8) (y := nI 1) rfl rfl) (by omega))]); all_goals exact rfl) (by omega)) rf_a0) ?_
  try rw [(show ((nI 2) * (nI 4)) = nI 8 from rf_eq (rf_nmul (x := nI 2) (y := nI 4) rfl rfl) (by omega))]
  try rw [(show ((nI 8) + (nI 1)) = nI 9 from rf_eq (rf_nadd (x := nI 8) (y := nI 1) rfl rfl) (by omega))]
  try rw [(show (nI 9).toNatClampNeg = 9 from rf_cl_n rfl (by omega))]
  try rw [(show tBodies 9 = nI 30 from rfl)]
  refine ok_if_ne bX9_speak_23 (fun _ => ?_) (fun h23 => absurd h23 ((by decide)))
  refine ok_step (ps := []) (L' := [some (.ref 83), some (.int (nI 2)), some (.int (nI 1)), some (.int x), some (.int (nI dep)), some (.int (nI 2)), some (.int (nI 0))]) (st' := [.int (nI 30), .int (nI dep)]) (σ' := (α, δ)) (pc' := 44) kX9_speak_40 rfl rfl rf_a0 ?_
  refine ok_icmp_le bX9_speak_44 (fun _ => ?_) (fun h44 => absurd (nI_le (by omega) (by omega)) h44)
  refine ok_step (ps := [rf_in (((nI 2) * (nI 4)) + (nI 1)) 32]) (L' := [some (.ref 83), some (.int (nI 2)), some (.int (nI 1)), some (.int x), some (.int (nI dep)), some (.int (nI 2)), some (.int (tBodies ((((nI 2) * (nI 4)) + (nI 1)).toNatClampNeg)))]) (st' := [.int (nI 40), .int (α 83 0)]) (σ' := (α, δ)) (pc' := 67) kX9_speak_49 rfl rfl (rf_a1 (rf_in_n (a := 9) (by (try rw [(show ((nI 2) * (nI 4)) = nI 8 from rf_eq (rf_nmul (x := nI 2) (y := nI 4) rfl rfl) (by omega))]); (try rw [(show ((nI 8) + (nI 1)) = nI 9 from rf_eq (rf_nadd (x := nI 8) (y := nI 1) rfl rfl) (by omega))]); all_goals exact rfl) (by omega)) rf_a0) ?_
  try rw [(show ((nI 2) * (nI 4)) = nI 8 from rf_eq (rf_nmul (x := nI 2) (y := nI 4) rfl rfl) (by omega))]
  try rw [(show ((nI 8) + (nI 1)) = nI 9 from rf_eq (rf_nadd (x := nI 8) (y := nI 1) rfl rfl) (by omega))]
  try rw [(show (nI 9).toNatClampNeg = 9 from rf_cl_n rfl (by omega))]
  try rw [(show tBodies 9 = nI 30 from rfl)]
  try rw [(show α 83 0 = nI b from hb)]
  refine ok_icmp_ge bX9_speak_67 (fun h67 => absurd h67 (nI_ge (by omega) (by omega))) (fun _ => ?_)
  refine ok_step (ps := [rf_in (α 83 0) 40]) (L' := [some (.ref 83), some (.int (nI 2)), some (.int (nI 1)), some (.int x), some (.int (nI dep)), some (.int (nI 2)), some (.int (nI 30))]) (st' := []) (σ' := (rf_w (rf_w α 84 ((α 83 0).toNatClampNeg) (nI 30)) 83 0 (((rf_w α 84 ((α 83 0).toNatClampNeg) (nI 30)) 83 0) + (nI 1)), δ)) (pc' := 91) kX9_speak_70 rfl rfl (rf_a1 (rf_in_n (a := b) (by (try rw [(show α 83 0 = nI b from hb)]); all_goals exact rfl) (by omega)) rf_a0) ?_
  try rw [(show α 83 0 = nI b from hb)]
  try rw [(show (nI b).toNatClampNeg = b from rf_cl_n rfl (by omega))]
  try rw [(show (rf_w α 84 b (nI 30)) 83 0 = α 83 0 from by rw [rf_w_at, if_neg (fun h => absurd h.1 (by decide))])]
  try rw [(show α 83 0 = nI b from hb)]
  try rw [(show ((nI b) + (nI 1)) = nI (1 + b) from rf_eq (rf_nadd (x := nI b) (y := nI 1) rfl rfl) (by omega))]
  rw [show rf_w (rf_w α 84 b (nI 30)) 83 0 (nI (1 + b)) = apt 84 83 0 α b [30] from apt_w (L := []) (by simp) (by omega)]
  refine ok_step (ps := [rf_in (nI 2) 8]) (L' := [some (.ref 83), some (.int (nI 2)), some (.int (nI 1)), some (.int x), some (.int (nI dep)), some (.int (nI 2)), some (.int (nI 30))]) (st' := [.int ((nI dep) + (nI 1)), .int x, .int (tAbove ((nI 2).toNatClampNeg)), .int (nI 30), .ref 83]) (σ' := (apt 84 83 0 α b [30], δ)) (pc' := 105) kX9_speak_91 rfl rfl (rf_a1 (rf_in_n (a := 2) rfl (by omega)) rf_a0) ?_
  try rw [(show (nI 2).toNatClampNeg = 2 from rf_cl_n rfl (by omega))]
  try rw [(show tAbove 2 = nI 0 from rfl)]
  try rw [(show ((nI dep) + (nI 1)) = nI (1 + dep) from rf_eq (rf_nadd (x := nI dep) (y := nI 1) rfl rfl) (by omega))]
  have hc105 : rf_At (rf_T Ln xs) MX9_runBody 7 0 ([some (.ref 83), some (.int (nI 30)), some (.int (nI 0)), some (.int x), some (.int (nI (1 + dep)))], [], 108, (apt 84 83 0 α b [30], δ)) (some (.int ((((x + nu) * nI 3) * nI 2) - ((nI 1) - mn)))) 108 (apt 84 83 0 α b [30, 11, 50, 10, 12], δ) := by
    refine rf_pa ?_
    refine ok_step (ps := []) (L' := [some (.ref 83), some (.int (nI 30)), some (.int (nI 0)), some (.int x), some (.int (nI (1 + dep)))]) (st' := [.int (nI 30)]) (σ' := (apt 84 83 0 α b [30], δ)) (pc' := 1) kX9_runBody_0 rfl rfl rf_a0 ?_
    refine ok_lkk (q := (30, 174)) (t := 175) bX9_runBody_1 (by decide) (by decide) (by decide) (by decide) ?_
    refine ok_step (ps := []) (L' := [some (.ref 83), some (.int (nI 30)), some (.int (nI 0)), some (.int x), some (.int (nI (1 + dep)))]) (st' := [.int (nI (1 + dep)), .int x, .int (nI 1), .int (nI 0), .ref 83]) (σ' := (apt 84 83 0 α b [30], δ)) (pc' := 181) kX9_runBody_175 rfl rfl rf_a0 ?_
    refine ok_V (As := [.int (nI 0), .int (nI 1), .int x, .int (nI (1 + dep))]) (b := 83) (st := []) mkX9_speak qX9_runBody_181 rfl (rc_83) rfl rfl rfl rfl (Nat.le_of_ble_eq_true rfl) (cv4_1_0 (b := (1 + b)) (dep := (1 + dep)) ((apt_f (by decide) (by decide)).trans hk) ((apt_f (by decide) (by decide)).trans hn) ((apt_f (by decide) (by decide)).trans hm) (apt_0 (by decide) hb) (by omega) (by omega)) ?_
    rw [show apt 84 83 0 (apt 84 83 0 α b [30]) (1 + b) [11, 50, 10] = apt 84 83 0 α b [30, 11, 50, 10] from apt_app (by simp)]
    refine ok_step (ps := []) (L' := [some (.ref 83), some (.int (nI 30)), some (.int (nI 0)), some (.int x), some (.int (nI (1 + dep)))]) (st' := [.int (nI (1 + dep)), .int (nI 1), .int (nI 2), .int ((apt 84 83 0 α b [30, 11, 50, 10]) 83 2), .ref 83, .int (((x + nu) * nI 3) * nI 2)]) (σ' := (apt 84 83 0 α b [30, 11, 50, 10], δ)) (pc' := 193) kX9_runBody_184 rfl rfl rf_a0 ?_
    try rw [(show (apt 84 83 0 α b [30, 11, 50, 10]) 83 2 = nI 4 from (apt_f (by decide) (by decide)).trans hk)]
    refine ok_V (As := [.int (nI 4), .int (nI 2), .int (nI 1), .int (nI (1 + dep))]) (b := 83) (st := [.int (((x + nu) * nI 3) * nI 2)]) mkX9_speak qX9_runBody_193 rfl (rc_83) rfl rfl rfl rfl (Nat.le_of_ble_eq_true rfl) (cv4_2_4 (b := (4 + b)) (dep := (1 + dep)) ((apt_f (by decide) (by decide)).trans hk) ((apt_f (by decide) (by decide)).trans hn) ((apt_f (by decide) (by decide)).trans hm) (apt_0 (by decide) hb) (by omega) (by omega)) ?_
    rw [show apt 84 83 0 (apt 84 83 0 α b [30, 11, 50, 10]) (4 + b) [12] = apt 84 83 0 α b [30, 11, 50, 10, 12] from apt_app (by simp)]
    refine ok_step (ps := []) (L' := [some (.ref 83), some (.int (nI 30)), some (.int (nI 0)), some (.int x), some (.int (nI (1 + dep)))]) (st' := [.int ((((x + nu) * nI 3) * nI 2) - ((nI 1) - mn))]) (σ' := (apt 84 83 0 α b [30, 11, 50, 10, 12], δ)) (pc' := 197) kX9_runBody_196 rfl rfl rf_a0 ?_
    refine ok_reti eX9_runBody_197 rfl ?_
    exact ⟨rfl, rfl⟩
  refine ok_V (As := [.int (nI 30), .int (nI 0), .int x, .int (nI (1 + dep))]) (b := 83) (st := []) mkX9_runBody qX9_speak_105 rfl (rc_83) rfl rfl rfl rfl (Nat.le_of_ble_eq_true rfl) (hc105) ?_
  refine ok_reti eX9_speak_108 rfl ?_
  exact ⟨rfl, rfl⟩
theorem cv4_1_4 {x : Int32} {b dep : Nat} (hk : α 83 2 = nI 4) (hn : α 83 3 = nu) (hm : α 83 4 = mn) (hb : α 83 0 = nI b) (hl : b + 6 ≤ 40) (hd : dep + 5 ≤ 30) : rf_At (rf_T Ln xs) MX9_speak 10 0 ([some (.ref 83), some (.int (nI 4)), some (.int (nI 1)), some (.int x), some (.int (nI dep)), none, none], [], 108, (α, δ)) (some (.int (((((x + nI 1) + nu) * nI 3) * nI 2) - ((nI 1) - mn)))) 108 (apt 84 83 0 α b [51, 30, 11, 50, 10, 12], δ) := by
  refine rf_pa ?_
  refine ok_step (ps := []) (L' := [some (.ref 83), some (.int (nI 4)), some (.int (nI 1)), some (.int x), some (.int (nI dep)), some (.int (nI 4)), some (.int (nI 0))]) (st' := []) (σ' := (α, δ)) (pc' := 6) kX9_speak_0 rfl rfl rf_a0 ?_
  refine ok_step (ps := []) (L' := [some (.ref 83), some (.int (nI 4)), some (.int (nI 1)), some (.int x), some (.int (nI dep)), some (.int (nI 4)), some (.int (nI 0))]) (st' := [.int (nI 8), .int (nI 0)]) (σ' := (α, δ)) (pc' := 10) kX9_speak_6 rfl rfl rf_a0 ?_
  refine ok_icmp_ge bX9_speak_10 (fun h10 => absurd h10 ((by decide))) (fun _ => ?_)
  refine ok_step (ps := [rf_in (((nI 4) * (nI 4)) + (nI 1)) 32]) (L' := [some (.ref 83), some (.int (nI 4)), some (.int (nI 1)), some (.int x), some (.int (nI dep)), some (.int (nI 4)), some (.int (nI 0))]) (st' := [.int (tBodies ((((nI 4) * (nI 4)) + (nI 1)).toNatClampNeg))]) (σ' := (α, δ)) (pc' := 23) kX9_speak_13 rfl rfl (rf_a1 (rf_in_n (a := 17) (by (try rw [(show ((nI 4) * (nI 4)) = nI 16 from rf_eq (rf_nmul (x := nI 4) (y := nI 4) rfl rfl) (by omega))]); (try rw [(show ((nI 16) + (nI 1)) = nI 17 from rf_eq (rf_nadd (x := nI 16) (y := nI 1) rfl rfl) (by omega))]); all_goals exact rfl) (by omega)) rf_a0) ?_
  try rw [(show ((nI 4) * (nI 4)) = nI 16 from rf_eq (rf_nmul (x := nI 4) (y := nI 4) rfl rfl) (by omega))]
  try rw [(show ((nI 16) + (nI 1)) = nI 17 from rf_eq (rf_nadd (x := nI 16) (y := nI 1) rfl rfl) (by omega))]
  try rw [(show (nI 17).toNatClampNeg = 17 from rf_cl_n rfl (by omega))]
  try rw [(show tBodies 17 = nI 51 from rfl)]
  refine ok_if_ne bX9_speak_23 (fun _ => ?_) (fun h23 => absurd h23 ((by decide)))
  refine ok_step (ps := []) (L' := [some (.ref 83), some (.int (nI 4)), some (.int (nI 1)), some (.int x), some (.int (nI dep)), some (.int (nI 4)), some (.int (nI 0))]) (st' := [.int (nI 30), .int (nI dep)]) (σ' := (α, δ)) (pc' := 44) kX9_speak_40 rfl rfl rf_a0 ?_
  refine ok_icmp_le bX9_speak_44 (fun _ => ?_) (fun h44 => absurd (nI_le (by omega) (by omega)) h44)
  refine ok_step (ps := [rf_in (((nI 4) * (nI 4)) + (nI 1)) 32]) (L' := [some (.ref 83), some (.int (nI 4)), some (.int (nI 1)), some (.int x), some (.int (nI dep)), some (.int (nI 4)), some (.int (tBodies ((((nI 4) * (nI 4)) + (nI 1)).toNatClampNeg)))]) (st' := [.int (nI 40), .int (α 83 0)]) (σ' := (α, δ)) (pc' := 67) kX9_speak_49 rfl rfl (rf_a1 (rf_in_n (a := 17) (by (try rw [(show ((nI 4) * (nI 4)) = nI 16 from rf_eq (rf_nmul (x := nI 4) (y := nI 4) rfl rfl) (by omega))]); (try rw [(show ((nI 16) + (nI 1)) = nI 17 from rf_eq (rf_nadd (x := nI 16) (y := nI 1) rfl rfl) (by omega))]); all_goals exact rfl) (by omega)) rf_a0) ?_
  try rw [(show ((nI 4) * (nI 4)) = nI 16 from rf_eq (rf_nmul (x := nI 4) (y := nI 4) rfl rfl) (by omega))]
  try rw [(show ((nI 16) + (nI 1)) = nI 17 from rf_eq (rf_nadd (x := nI 16) (y := nI 1) rfl rfl) (by omega))]
  try rw [(show (nI 17).toNatClampNeg = 17 from rf_cl_n rfl (by omega))]
  try rw [(show tBodies 17 = nI 51 from rfl)]
  try rw [(show α 83 0 = nI b from hb)]
  refine ok_icmp_ge bX9_speak_67 (fun h67 => absurd h67 (nI_ge (by omega) (by omega))) (fun _ => ?_)
  refine ok_step (ps := [rf_in (α 83 0) 40]) (L' := [some (.ref 83), some (.int (nI 4)), some (.int (nI 1)), some (.int x), some (.int (nI dep)), some (.int (nI 4)), some (.int (nI 51))]) (st' := []) (σ' := (rf_w (rf_w α 84 ((α 83 0).toNatClampNeg) (nI 51)) 83 0 (((rf_w α 84 ((α 83 0).toNatClampNeg) (nI 51)) 83 0) + (nI 1)), δ)) (pc' := 91) kX9_speak_70 rfl rfl (rf_a1 (rf_in_n (a := b) (by (try rw [(show α 83 0 = nI b from hb)]); all_goals exact rfl) (by omega)) rf_a0) ?_
  try rw [(show α 83 0 = nI b from hb)]
  try rw [(show (nI b).toNatClampNeg = b from rf_cl_n rfl (by omega))]
  try rw [(show (rf_w α 84 b (nI 51)) 83 0 = α 83 0 from by rw [rf_w_at, if_neg (fun h => absurd h.1 (by decide))])]
  try rw [(show α 83 0 = nI b from hb)]
  try rw [(show ((nI b) + (nI 1)) = nI (1 + b) from rf_eq (rf_nadd (x := nI b) (y := nI 1) rfl rfl) (by omega))]
  rw [show rf_w (rf_w α 84 b (nI 51)) 83 0 (nI (1 + b)) = apt 84 83 0 α b [51] from apt_w (L := []) (by simp) (by omega)]
  refine ok_step (ps := [rf_in (nI 4) 8]) (L' := [some (.ref 83), some (.int (nI 4)), some (.int (nI 1)), some (.int x), some (.int (nI dep)), some (.int (nI 4)), some (.int (nI 51))]) (st' := [.int ((nI dep) + (nI 1)), .int x, .int (tAbove ((nI 4).toNatClampNeg)), .int (nI 51), .ref 83]) (σ' := (apt 84 83 0 α b [51], δ)) (pc' := 105) kX9_speak_91 rfl rfl (rf_a1 (rf_in_n (a := 4) rfl (by omega)) rf_a0) ?_
  try rw [(show (nI 4).toNatClampNeg = 4 from rf_cl_n rfl (by omega))]
  try rw [(show tAbove 4 = nI 2 from rfl)]
  try rw [(show ((nI dep) + (nI 1)) = nI (1 + dep) from rf_eq (rf_nadd (x := nI dep) (y := nI 1) rfl rfl) (by omega))]
  have hc105 : rf_At (rf_T Ln xs) MX9_runBody 9 0 ([some (.ref 83), some (.int (nI 51)), some (.int (nI 2)), some (.int x), some (.int (nI (1 + dep)))], [], 108, (apt 84 83 0 α b [51], δ)) (some (.int (((((x + (nI 1)) + nu) * nI 3) * nI 2) - ((nI 1) - mn)))) 108 (apt 84 83 0 α b [51, 30, 11, 50, 10, 12], δ) := by
    refine rf_pa ?_
    refine ok_step (ps := []) (L' := [some (.ref 83), some (.int (nI 51)), some (.int (nI 2)), some (.int x), some (.int (nI (1 + dep)))]) (st' := [.int (nI 51)]) (σ' := (apt 84 83 0 α b [51], δ)) (pc' := 1) kX9_runBody_0 rfl rfl rf_a0 ?_
    refine ok_lkk (q := (51, 220)) (t := 221) bX9_runBody_1 (by decide) (by decide) (by decide) (by decide) ?_
    refine ok_step (ps := []) (L' := [some (.ref 83), some (.int (nI 51)), some (.int (nI 2)), some (.int x), some (.int (nI (1 + dep)))]) (st' := [.int (nI (1 + dep)), .int (x + (nI 1)), .int (nI 1), .int (nI 2), .ref 83]) (σ' := (apt 84 83 0 α b [51], δ)) (pc' := 229) kX9_runBody_221 rfl rfl rf_a0 ?_
    refine ok_V (As := [.int (nI 2), .int (nI 1), .int (x + (nI 1)), .int (nI (1 + dep))]) (b := 83) (st := []) mkX9_speak qX9_runBody_229 rfl (rc_83) rfl rfl rfl rfl (Nat.le_of_ble_eq_true rfl) (cv4_1_2 (b := (1 + b)) (dep := (1 + dep)) ((apt_f (by decide) (by decide)).trans hk) ((apt_f (by decide) (by decide)).trans hn) ((apt_f (by decide) (by decide)).trans hm) (apt_0 (by decide) hb) (by omega) (by omega)) ?_
    rw [show apt 84 83 0 (apt 84 83 0 α b [51]) (1 + b) [30, 11, 50, 10, 12] = apt 84 83 0 α b [51, 30, 11, 50, 10, 12] from apt_app (by simp)]
    refine ok_reti eX9_runBody_232 rfl ?_
    exact ⟨rfl, rfl⟩
  refine ok_V (As := [.int (nI 51), .int (nI 2), .int x, .int (nI (1 + dep))]) (b := 83) (st := []) mkX9_runBody qX9_speak_105 rfl (rc_83) rfl rfl rfl rfl (Nat.le_of_ble_eq_true rfl) (hc105) ?_
  refine ok_reti eX9_speak_108 rfl ?_
  exact ⟨rfl, rfl⟩
theorem cv4_3_4 {x : Int32} {b dep : Nat} (hk : α 83 2 = nI 4) (hn : α 83 3 = nu) (hm : α 83 4 = mn) (hb : α 83 0 = nI b) (hl : b + 8 ≤ 40) (hd : dep + 6 ≤ 30) : rf_At (rf_T Ln xs) MX9_speak 12 0 ([some (.ref 83), some (.int (nI 4)), some (.int (nI 3)), some (.int x), some (.int (nI dep)), none, none], [], 108, (α, δ)) (some (.int ((((((x + nI 1) + nu) * nI 3) * nI 2) - ((nI 1) - mn)) ^^^ (x - mn)))) 108 (apt 84 83 0 α b [13, 51, 30, 11, 50, 10, 12, 12], δ) := by
  refine rf_pa ?_
  refine ok_step (ps := []) (L' := [some (.ref 83), some (.int (nI 4)), some (.int (nI 3)), some (.int x), some (.int (nI dep)), some (.int (nI 4)), some (.int (nI 0))]) (st' := []) (σ' := (α, δ)) (pc' := 6) kX9_speak_0 rfl rfl rf_a0 ?_
  refine ok_step (ps := []) (L' := [some (.ref 83), some (.int (nI 4)), some (.int (nI 3)), some (.int x), some (.int (nI dep)), some (.int (nI 4)), some (.int (nI 0))]) (st' := [.int (nI 8), .int (nI 0)]) (σ' := (α, δ)) (pc' := 10) kX9_speak_6 rfl rfl rf_a0 ?_
  refine ok_icmp_ge bX9_speak_10 (fun h10 => absurd h10 ((by decide))) (fun _ => ?_)
  refine ok_step (ps := [rf_in (((nI 4) * (nI 4)) + (nI 3)) 32]) (L' := [some (.ref 83), some (.int (nI 4)), some (.int (nI 3)), some (.int x), some (.int (nI dep)), some (.int (nI 4)), some (.int (nI 0))]) (st' := [.int (tBodies ((((nI 4) * (nI 4)) + (nI 3)).toNatClampNeg))]) (σ' := (α, δ)) (pc' := 23) kX9_speak_13 rfl rfl (rf_a1 (rf_in_n (a := 19) (by (try rw [(show ((nI 4) * (nI 4)) = nI 16 from rf_eq (rf_nmul (x := nI 4) (y := nI 4) rfl rfl) (by omega))]); (try rw [(show ((nI 16) + (nI 3)) = nI 19 from rf_eq (rf_nadd (x := nI 16) (y := nI 3) rfl rfl) (by omega))]); all_goals exact rfl) (by omega)) rf_a0) ?_
  try rw [(show ((nI 4) * (nI 4)) = nI 16 from rf_eq (rf_nmul (x := nI 4) (y := nI 4) rfl rfl) (by omega))]
  try rw [(show ((nI 16) + (nI 3)) = nI 19 from rf_eq (rf_nadd (x := nI 16) (y := nI 3) rfl rfl) (by omega))]
  try rw [(show (nI 19).toNatClampNeg = 19 from rf_cl_n rfl (by omega))]
  try rw [(show tBodies 19 = nI 0 from rfl)]
  refine ok_if_ne bX9_speak_23 (fun h23 => absurd ((by decide)) h23) (fun _ => ?_)
  refine ok_step (ps := [rf_in (nI 4) 8]) (L' := [some (.ref 83), some (.int (nI 4)), some (.int (nI 3)), some (.int x), some (.int (nI dep)), some (.int (tAbove ((nI 4).toNatClampNeg))), some (.int ((nI 0) + (nI 1)))]) (st' := []) (σ' := (α, δ)) (pc' := 37) kX9_speak_26 rfl rfl (rf_a1 (rf_in_n (a := 4) rfl (by omega)) rf_a0) ?_
  try rw [(show (nI 4).toNatClampNeg = 4 from rf_cl_n rfl (by omega))]
  try rw [(show tAbove 4 = nI 2 from rfl)]
  try rw [(show ((nI 0) + (nI 1)) = nI 1 from rf_eq (rf_nadd (x := nI 0) (y := nI 1) rfl rfl) (by omega))]
  refine ok_goto bX9_speak_37 ?_
  refine ok_step (ps := []) (L' := [some (.ref 83), some (.int (nI 4)), some (.int (nI 3)), some (.int x), some (.int (nI dep)), some (.int (nI 2)), some (.int (nI 1))]) (st' := [.int (nI 8), .int (nI 1)]) (σ' := (α, δ)) (pc' := 10) kX9_speak_6 rfl rfl rf_a0 ?_
  refine ok_icmp_ge bX9_speak_10 (fun h10 => absurd h10 ((by decide))) (fun _ => ?_)
  refine ok_step (ps := [rf_in (((nI 2) * (nI 4)) + (nI 3)) 32]) (L' := [some (.ref 83), some (.int (nI 4)), some (.int (nI 3)), some (.int x), some (.int (nI dep)), some (.int (nI 2)), some (.int (nI 1))]) (st' := [.int (tBodies ((((nI 2) * (nI 4)) + (nI 3)).toNatClampNeg))]) (σ' := (α, δ)) (pc' := 23) kX9_speak_13 rfl rfl (rf_a1 (rf_in_n (a := 11) (by (try rw [(show ((nI 2) * (nI 4)) = nI 8 from rf_eq (rf_nmul (x := nI 2) (y := nI 4) rfl rfl) (by omega))]); (try rw [(show ((nI 8) + (nI 3)) = nI 11 from rf_eq (rf_nadd (x := nI 8) (y := nI 3) rfl rfl) (by omega))]); all_goals exact rfl) (by omega)) rf_a0) ?_
  try rw [(show ((nI 2) * (nI 4)) = nI 8 from rf_eq (rf_nmul (x := nI 2) (y := nI 4) rfl rfl) (by omega))]
  try rw [(show ((nI 8) + (nI 3)) = nI 11 from rf_eq (rf_nadd (x := nI 8) (y := nI 3) rfl rfl) (by omega))]
  try rw [(show (nI 11).toNatClampNeg = 11 from rf_cl_n rfl (by omega))]
  try rw [(show tBodies 11 = nI 0 from rfl)]
  refine ok_if_ne bX9_speak_23 (fun h23 => absurd ((by decide)) h23) (fun _ => ?_)
  refine ok_step (ps := [rf_in (nI 2) 8]) (L' := [some (.ref 83), some (.int (nI 4)), some (.int (nI 3)), some (.int x), some (.int (nI dep)), some (.int (tAbove ((nI 2).toNatClampNeg))), some (.int ((nI 1) + (nI 1)))]) (st' := []) (σ' := (α, δ)) (pc' := 37) kX9_speak_26 rfl rfl (rf_a1 (rf_in_n (a := 2) rfl (by omega)) rf_a0) ?_
  try rw [(show (nI 2).toNatClampNeg = 2 from rf_cl_n rfl (by omega))]
  try rw [(show tAbove 2 = nI 0 from rfl)]
  try rw [(show ((nI 1) + (nI 1)) = nI 2 from rf_eq (rf_nadd (x := nI 1) (y := nI 1) rfl rfl) (by omega))]
  refine ok_goto bX9_speak_37 ?_
  refine ok_step (ps := []) (L' := [some (.ref 83), some (.int (nI 4)), some (.int (nI 3)), some (.int x), some (.int (nI dep)), some (.int (nI 0)), some (.int (nI 2))]) (st' := [.int (nI 8), .int (nI 2)]) (σ' := (α, δ)) (pc' := 10) kX9_speak_6 rfl rfl rf_a0 ?_
  refine ok_icmp_ge bX9_speak_10 (fun h10 => absurd h10 ((by decide))) (fun _ => ?_)
  refine ok_step (ps := [rf_in (((nI 0) * (nI 4)) + (nI 3)) 32]) (L' := [some (.ref 83), some (.int (nI 4)), some (.int (nI 3)), some (.int x), some (.int (nI dep)), some (.int (nI 0)), some (.int (nI 2))]) (st' := [.int (tBodies ((((nI 0) * (nI 4)) + (nI 3)).toNatClampNeg))]) (σ' := (α, δ)) (pc' := 23) kX9_speak_13 rfl rfl (rf_a1 (rf_in_n (a := 3) (by (try rw [(show ((nI 0) * (nI 4)) = nI 0 from rf_eq (rf_nmul (x := nI 0) (y := nI 4) rfl rfl) (by omega))]); (try rw [(show ((nI 0) + (nI 3)) = nI 3 from rf_eq (rf_nadd (x := nI 0) (y := nI 3) rfl rfl) (by omega))]); all_goals exact rfl) (by omega)) rf_a0) ?_
  try rw [(show ((nI 0) * (nI 4)) = nI 0 from rf_eq (rf_nmul (x := nI 0) (y := nI 4) rfl rfl) (by omega))]
  try rw [(show ((nI 0) + (nI 3)) = nI 3 from rf_eq (rf_nadd (x := nI 0) (y := nI 3) rfl rfl) (by omega))]
  try rw [(show (nI 3).toNatClampNeg = 3 from rf_cl_n rfl (by omega))]
  try rw [(show tBodies 3 = nI 13 from rfl)]
  refine ok_if_ne bX9_speak_23 (fun _ => ?_) (fun h23 => absurd h23 ((by decide)))
  refine ok_step (ps := []) (L' := [some (.ref 83), some (.int (nI 4)), some (.int (nI 3)), some (.int x), some (.int (nI dep)), some (.int (nI 0)), some (.int (nI 2))]) (st' := [.int (nI 30), .int (nI dep)]) (σ' := (α, δ)) (pc' := 44) kX9_speak_40 rfl rfl rf_a0 ?_
  refine ok_icmp_le bX9_speak_44 (fun _ => ?_) (fun h44 => absurd (nI_le (by omega) (by omega)) h44)
  refine ok_step (ps := [rf_in (((nI 0) * (nI 4)) + (nI 3)) 32]) (L' := [some (.ref 83), some (.int (nI 4)), some (.int (nI 3)), some (.int x), some (.int (nI dep)), some (.int (nI 0)), some (.int (tBodies ((((nI 0) * (nI 4)) + (nI 3)).toNatClampNeg)))]) (st' := [.int (nI 40), .int (α 83 0)]) (σ' := (α, δ)) (pc' := 67) kX9_speak_49 rfl rfl (rf_a1 (rf_in_n (a := 3) (by (try rw [(show ((nI 0) * (nI 4)) = nI 0 from rf_eq (rf_nmul (x := nI 0) (y := nI 4) rfl rfl) (by omega))]); (try rw [(show ((nI 0) + (nI 3)) = nI 3 from rf_eq (rf_nadd (x := nI 0) (y := nI 3) rfl rfl) (by omega))]); all_goals exact rfl) (by omega)) rf_a0) ?_
  try rw [(show ((nI 0) * (nI 4)) = nI 0 from rf_eq (rf_nmul (x := nI 0) (y := nI 4) rfl rfl) (by omega))]
  try rw [(show ((nI 0) + (nI 3)) = nI 3 from rf_eq (rf_nadd (x := nI 0) (y := nI 3) rfl rfl) (by omega))]
  try rw [(show (nI 3).toNatClampNeg = 3 from rf_cl_n rfl (by omega))]
  try rw [(show tBodies 3 = nI 13 from rfl)]
  try rw [(show α 83 0 = nI b from hb)]
  refine ok_icmp_ge bX9_speak_67 (fun h67 => absurd h67 (nI_ge (by omega) (by omega))) (fun _ => ?_)
  refine ok_step (ps := [rf_in (α 83 0) 40]) (L' := [some (.ref 83), some (.int (nI 4)), some (.int (nI 3)), some (.int x), some (.int (nI dep)), some (.int (nI 0)), some (.int (nI 13))]) (st' := []) (σ' := (rf_w (rf_w α 84 ((α 83 0).toNatClampNeg) (nI 13)) 83 0 (((rf_w α 84 ((α 83 0).toNatClampNeg) (nI 13)) 83 0) + (nI 1)), δ)) (pc' := 91) kX9_speak_70 rfl rfl (rf_a1 (rf_in_n (a := b) (by (try rw [(show α 83 0 = nI b from hb)]); all_goals exact rfl) (by omega)) rf_a0) ?_
  try rw [(show α 83 0 = nI b from hb)]
  try rw [(show (nI b).toNatClampNeg = b from rf_cl_n rfl (by omega))]
  try rw [(show (rf_w α 84 b (nI 13)) 83 0 = α 83 0 from by rw [rf_w_at, if_neg (fun h => absurd h.1 (by decide))])]
  try rw [(show α 83 0 = nI b from hb)]
  try rw [(show ((nI b) + (nI 1)) = nI (1 + b) from rf_eq (rf_nadd (x := nI b) (y := nI 1) rfl rfl) (by omega))]
  rw [show rf_w (rf_w α 84 b (nI 13)) 83 0 (nI (1 + b)) = apt 84 83 0 α b [13] from apt_w (L := []) (by simp) (by omega)]
  refine ok_step (ps := [rf_in (nI 0) 8]) (L' := [some (.ref 83), some (.int (nI 4)), some (.int (nI 3)), some (.int x), some (.int (nI dep)), some (.int (nI 0)), some (.int (nI 13))]) (st' := [.int ((nI dep) + (nI 1)), .int x, .int (tAbove ((nI 0).toNatClampNeg)), .int (nI 13), .ref 83]) (σ' := (apt 84 83 0 α b [13], δ)) (pc' := 105) kX9_speak_91 rfl rfl (rf_a1 (rf_in_n (a := 0) rfl (by omega)) rf_a0) ?_
  try rw [(show (nI 0).toNatClampNeg = 0 from rf_cl_n rfl (by omega))]
  try rw [(show tAbove 0 = nI 0 from rfl)]
  try rw [(show ((nI dep) + (nI 1)) = nI (1 + dep) from rf_eq (rf_nadd (x := nI dep) (y := nI 1) rfl rfl) (by omega))]
  have hc105 : rf_At (rf_T Ln xs) MX9_runBody 11 0 ([some (.ref 83), some (.int (nI 13)), some (.int (nI 0)), some (.int x), some (.int (nI (1 + dep)))], [], 108, (apt 84 83 0 α b [13], δ)) (some (.int ((((((x + nI 1) + nu) * nI 3) * nI 2) - ((nI 1) - mn)) ^^^ (x - mn)))) 108 (apt 84 83 0 α b [13, 51, 30, 11, 50, 10, 12, 12], δ) := by
    refine rf_pa ?_
    refine ok_step (ps := []) (L' := [some (.ref 83), some (.int (nI 13)), some (.int (nI 0)), some (.int x), some (.int (nI (1 + dep)))]) (st' := [.int (nI 13)]) (σ' := (apt 84 83 0 α b [13], δ)) (pc' := 1) kX9_runBody_0 rfl rfl rf_a0 ?_
    refine ok_lkk (q := (13, 136)) (t := 137) bX9_runBody_1 (by decide) (by decide) (by decide) (by decide) ?_
    refine ok_step (ps := []) (L' := [some (.ref 83), some (.int (nI 13)), some (.int (nI 0)), some (.int x), some (.int (nI (1 + dep)))]) (st' := [.int (nI (1 + dep)), .int x, .int (nI 1), .int ((apt 84 83 0 α b [13]) 83 2), .ref 83]) (σ' := (apt 84 83 0 α b [13], δ)) (pc' := 146) kX9_runBody_137 rfl rfl rf_a0 ?_
    try rw [(show (apt 84 83 0 α b [13]) 83 2 = nI 4 from (apt_f (by decide) (by decide)).trans hk)]
    refine ok_V (As := [.int (nI 4), .int (nI 1), .int x, .int (nI (1 + dep))]) (b := 83) (st := []) mkX9_speak qX9_runBody_146 rfl (rc_83) rfl rfl rfl rfl (Nat.le_of_ble_eq_true rfl) (cv4_1_4 (b := (1 + b)) (dep := (1 + dep)) ((apt_f (by decide) (by decide)).trans hk) ((apt_f (by decide) (by decide)).trans hn) ((apt_f (by decide) (by decide)).trans hm) (apt_0 (by decide) hb) (by omega) (by omega)) ?_
    rw [show apt 84 83 0 (apt 84 83 0 α b [13]) (1 + b) [51, 30, 11, 50, 10, 12] = apt 84 83 0 α b [13, 51, 30, 11, 50, 10, 12] from apt_app (by simp)]
    refine ok_step (ps := []) (L' := [some (.ref 83), some (.int (nI 13)), some (.int (nI 0)), some (.int x), some (.int (nI (1 + dep)))]) (st' := [.int (nI (1 + dep)), .int x, .int (nI 2), .int ((apt 84 83 0 α b [13, 51, 30, 11, 50, 10, 12]) 83 2), .ref 83, .int (((((x + nI 1) + nu) * nI 3) * nI 2) - ((nI 1) - mn))]) (σ' := (apt 84 83 0 α b [13, 51, 30, 11, 50, 10, 12], δ)) (pc' := 158) kX9_runBody_149 rfl rfl rf_a0 ?_
    try rw [(show (apt 84 83 0 α b [13, 51, 30, 11, 50, 10, 12]) 83 2 = nI 4 from (apt_f (by decide) (by decide)).trans hk)]
    refine ok_V (As := [.int (nI 4), .int (nI 2), .int x, .int (nI (1 + dep))]) (b := 83) (st := [.int (((((x + nI 1) + nu) * nI 3) * nI 2) - ((nI 1) - mn))]) mkX9_speak qX9_runBody_158 rfl (rc_83) rfl rfl rfl rfl (Nat.le_of_ble_eq_true rfl) (cv4_2_4 (b := (7 + b)) (dep := (1 + dep)) ((apt_f (by decide) (by decide)).trans hk) ((apt_f (by decide) (by decide)).trans hn) ((apt_f (by decide) (by decide)).trans hm) (apt_0 (by decide) hb) (by omega) (by omega)) ?_
    rw [show apt 84 83 0 (apt 84 83 0 α b [13, 51, 30, 11, 50, 10, 12]) (7 + b) [12] = apt 84 83 0 α b [13, 51, 30, 11, 50, 10, 12, 12] from apt_app (by simp)]
    refine ok_step (ps := []) (L' := [some (.ref 83), some (.int (nI 13)), some (.int (nI 0)), some (.int x), some (.int (nI (1 + dep)))]) (st' := [.int ((((((x + nI 1) + nu) * nI 3) * nI 2) - ((nI 1) - mn)) ^^^ (x - mn))]) (σ' := (apt 84 83 0 α b [13, 51, 30, 11, 50, 10, 12, 12], δ)) (pc' := 162) kX9_runBody_161 rfl rfl rf_a0 ?_
    refine ok_reti eX9_runBody_162 rfl ?_
    exact ⟨rfl, rfl⟩
  refine ok_V (As := [.int (nI 13), .int (nI 0), .int x, .int (nI (1 + dep))]) (b := 83) (st := []) mkX9_runBody qX9_speak_105 rfl (rc_83) rfl rfl rfl rfl (Nat.le_of_ble_eq_true rfl) (hc105) ?_
  refine ok_reti eX9_speak_108 rfl ?_
  exact ⟨rfl, rfl⟩
theorem cv5_0_0 {x : Int32} {b dep : Nat} (hk : α 83 2 = nI 5) (hn : α 83 3 = nu) (hm : α 83 4 = mn) (hb : α 83 0 = nI b) (hl : b + 1 ≤ 40) (hd : dep + 1 ≤ 30) : rf_At (rf_T Ln xs) MX9_speak 2 0 ([some (.ref 83), some (.int (nI 0)), some (.int (nI 0)), some (.int x), some (.int (nI dep)), none, none], [], 108, (α, δ)) (some (.int (x + nu))) 108 (apt 84 83 0 α b [10], δ) := by
  refine rf_pa ?_
  refine ok_step (ps := []) (L' := [some (.ref 83), some (.int (nI 0)), some (.int (nI 0)), some (.int x), some (.int (nI dep)), some (.int (nI 0)), some (.int (nI 0))]) (st' := []) (σ' := (α, δ)) (pc' := 6) kX9_speak_0 rfl rfl rf_a0 ?_
  refine ok_step (ps := []) (L' := [some (.ref 83), some (.int (nI 0)), some (.int (nI 0)), some (.int x), some (.int (nI dep)), some (.int (nI 0)), some (.int (nI 0))]) (st' := [.int (nI 8), .int (nI 0)]) (σ' := (α, δ)) (pc' := 10) kX9_speak_6 rfl rfl rf_a0 ?_
  refine ok_icmp_ge bX9_speak_10 (fun h10 => absurd h10 ((by decide))) (fun _ => ?_)
  refine ok_step (ps := [rf_in (((nI 0) * (nI 4)) + (nI 0)) 32]) (L' := [some (.ref 83), some (.int (nI 0)), some (.int (nI 0)), some (.int x), some (.int (nI dep)), some (.int (nI 0)), some (.int (nI 0))]) (st' := [.int (tBodies ((((nI 0) * (nI 4)) + (nI 0)).toNatClampNeg))]) (σ' := (α, δ)) (pc' := 23) kX9_speak_13 rfl rfl (rf_a1 (rf_in_n (a := 0) (by (try rw [(show ((nI 0) * (nI 4)) = nI 0 from rf_eq (rf_nmul (x := nI 0) (y := nI 4) rfl rfl) (by omega))]); (try rw [(show ((nI 0) + (nI 0)) = nI 0 from rf_eq (rf_nadd (x := nI 0) (y := nI 0) rfl rfl) (by omega))]); all_goals exact rfl) (by omega)) rf_a0) ?_
  try rw [(show ((nI 0) * (nI 4)) = nI 0 from rf_eq (rf_nmul (x := nI 0) (y := nI 4) rfl rfl) (by omega))]
  try rw [(show ((nI 0) + (nI 0)) = nI 0 from rf_eq (rf_nadd (x := nI 0) (y := nI 0) rfl rfl) (by omega))]
  try rw [(show (nI 0).toNatClampNeg = 0 from rf_cl_n rfl (by omega))]
  try rw [(show tBodies 0 = nI 10 from rfl)]
  refine ok_if_ne bX9_speak_23 (fun _ => ?_) (fun h23 => absurd h23 ((by decide)))
  refine ok_step (ps := []) (L' := [some (.ref 83), some (.int (nI 0)), some (.int (nI 0)), some (.int x), some (.int (nI dep)), some (.int (nI 0)), some (.int (nI 0))]) (st' := [.int (nI 30), .int (nI dep)]) (σ' := (α, δ)) (pc' := 44) kX9_speak_40 rfl rfl rf_a0 ?_
  refine ok_icmp_le bX9_speak_44 (fun _ => ?_) (fun h44 => absurd (nI_le (by omega) (by omega)) h44)
  refine ok_step (ps := [rf_in (((nI 0) * (nI 4)) + (nI 0)) 32]) (L' := [some (.ref 83), some (.int (nI 0)), some (.int (nI 0)), some (.int x), some (.int (nI dep)), some (.int (nI 0)), some (.int (tBodies ((((nI 0) * (nI 4)) + (nI 0)).toNatClampNeg)))]) (st' := [.int (nI 40), .int (α 83 0)]) (σ' := (α, δ)) (pc' := 67) kX9_speak_49 rfl rfl (rf_a1 (rf_in_n (a := 0) (by (try rw [(show ((nI 0) * (nI 4)) = nI 0 from rf_eq (rf_nmul (x := nI 0) (y := nI 4) rfl rfl) (by omega))]); (try rw [(show ((nI 0) + (nI 0)) = nI 0 from rf_eq (rf_nadd (x := nI 0) (y := nI 0) rfl rfl) (by omega))]); all_goals exact rfl) (by omega)) rf_a0) ?_
  try rw [(show ((nI 0) * (nI 4)) = nI 0 from rf_eq (rf_nmul (x := nI 0) (y := nI 4) rfl rfl) (by omega))]
  try rw [(show ((nI 0) + (nI 0)) = nI 0 from rf_eq (rf_nadd (x := nI 0) (y := nI 0) rfl rfl) (by omega))]
  try rw [(show (nI 0).toNatClampNeg = 0 from rf_cl_n rfl (by omega))]
  try rw [(show tBodies 0 = nI 10 from rfl)]
  try rw [(show α 83 0 = nI b from hb)]
  refine ok_icmp_ge bX9_speak_67 (fun h67 => absurd h67 (nI_ge (by omega) (by omega))) (fun _ => ?_)
  refine ok_step (ps := [rf_in (α 83 0) 40]) (L' := [some (.ref 83), some (.int (nI 0)), some (.int (nI 0)), some (.int x), some (.int (nI dep)), some (.int (nI 0)), some (.int (nI 10))]) (st' := []) (σ' := (rf_w (rf_w α 84 ((α 83 0).toNatClampNeg) (nI 10)) 83 0 (((rf_w α 84 ((α 83 0).toNatClampNeg) (nI 10)) 83 0) + (nI 1)), δ)) (pc' := 91) kX9_speak_70 rfl rfl (rf_a1 (rf_in_n (a := b) (by (try rw [(show α 83 0 = nI b from hb)]); all_goals exact rfl) (by omega)) rf_a0) ?_
  try rw [(show α 83 0 = nI b from hb)]
  try rw [(show (nI b).toNatClampNeg = b from rf_cl_n rfl (by omega))]
  try rw [(show (rf_w α 84 b (nI 10)) 83 0 = α 83 0 from by rw [rf_w_at, if_neg (fun h => absurd h.1 (by decide))])]
  try rw [(show α 83 0 = nI b from hb)]
  try rw [(show ((nI b) + (nI 1)) = nI (1 + b) from rf_eq (rf_nadd (x := nI b) (y := nI 1) rfl rfl) (by omega))]
  rw [show rf_w (rf_w α 84 b (nI 10)) 83 0 (nI (1 + b)) = apt 84 83 0 α b [10] from apt_w (L := []) (by simp) (by omega)]
  refine ok_step (ps := [rf_in (nI 0) 8]) (L' := [some (.ref 83), some (.int (nI 0)), some (.int (nI 0)), some (.int x), some (.int (nI dep)), some (.int (nI 0)), some (.int (nI 10))]) (st' := [.int ((nI dep) + (nI 1)), .int x, .int (tAbove ((nI 0).toNatClampNeg)), .int (nI 10), .ref 83]) (σ' := (apt 84 83 0 α b [10], δ)) (pc' := 105) kX9_speak_91 rfl rfl (rf_a1 (rf_in_n (a := 0) rfl (by omega)) rf_a0) ?_
  try rw [(show (nI 0).toNatClampNeg = 0 from rf_cl_n rfl (by omega))]
  try rw [(show tAbove 0 = nI 0 from rfl)]
  try rw [(show ((nI dep) + (nI 1)) = nI (1 + dep) from rf_eq (rf_nadd (x := nI dep) (y := nI 1) rfl rfl) (by omega))]
  have hc105 : rf_At (rf_T Ln xs) MX9_runBody 1 0 ([some (.ref 83), some (.int (nI 10)), some (.int (nI 0)), some (.int x), some (.int (nI (1 + dep)))], [], 108, (apt 84 83 0 α b [10], δ)) (some (.int (x + nu))) 108 (apt 84 83 0 α b [10], δ) := by
    refine rf_pa ?_
    refine ok_step (ps := []) (L' := [some (.ref 83), some (.int (nI 10)), some (.int (nI 0)), some (.int x), some (.int (nI (1 + dep)))]) (st' := [.int (nI 10)]) (σ' := (apt 84 83 0 α b [10], δ)) (pc' := 1) kX9_runBody_0 rfl rfl rf_a0 ?_
    refine ok_lkk (q := (10, 107)) (t := 108) bX9_runBody_1 (by decide) (by decide) (by decide) (by decide) ?_
    refine ok_step (ps := []) (L' := [some (.ref 83), some (.int (nI 10)), some (.int (nI 0)), some (.int x), some (.int (nI (1 + dep)))]) (st' := [.int (x + ((apt 84 83 0 α b [10]) 83 3))]) (σ' := (apt 84 83 0 α b [10], δ)) (pc' := 114) kX9_runBody_108 rfl rfl rf_a0 ?_
    try rw [(show (apt 84 83 0 α b [10]) 83 3 = nu from (apt_f (by decide) (by decide)).trans hn)]
    refine ok_reti eX9_runBody_114 rfl ?_
    exact ⟨rfl, rfl⟩
  refine ok_V (As := [.int (nI 10), .int (nI 0), .int x, .int (nI (1 + dep))]) (b := 83) (st := []) mkX9_runBody qX9_speak_105 rfl (rc_83) rfl rfl rfl rfl (Nat.le_of_ble_eq_true rfl) (hc105) ?_
  refine ok_reti eX9_speak_108 rfl ?_
  exact ⟨rfl, rfl⟩
theorem cv5_0_5 {x : Int32} {b dep : Nat} (hk : α 83 2 = nI 5) (hn : α 83 3 = nu) (hm : α 83 4 = mn) (hb : α 83 0 = nI b) (hl : b + 2 ≤ 40) (hd : dep + 2 ≤ 30) : rf_At (rf_T Ln xs) MX9_speak 4 0 ([some (.ref 83), some (.int (nI 5)), some (.int (nI 0)), some (.int x), some (.int (nI dep)), none, none], [], 108, (α, δ)) (some (.int ((x + nu) ^^^ mn))) 108 (apt 84 83 0 α b [60, 10], δ) := by
  refine rf_pa ?_
  refine ok_step (ps := []) (L' := [some (.ref 83), some (.int (nI 5)), some (.int (nI 0)), some (.int x), some (.int (nI dep)), some (.int (nI 5)), some (.int (nI 0))]) (st' := []) (σ' := (α, δ)) (pc' := 6) kX9_speak_0 rfl rfl rf_a0 ?_
  refine ok_step (ps := []) (L' := [some (.ref 83), some (.int (nI 5)), some (.int (nI 0)), some (.int x), some (.int (nI dep)), some (.int (nI 5)), some (.int (nI 0))]) (st' := [.int (nI 8), .int (nI 0)]) (σ' := (α, δ)) (pc' := 10) kX9_speak_6 rfl rfl rf_a0 ?_
  refine ok_icmp_ge bX9_speak_10 (fun h10 => absurd h10 ((by decide))) (fun _ => ?_)
  refine ok_step (ps := [rf_in (((nI 5) * (nI 4)) + (nI 0)) 32]) (L' := [some (.ref 83), some (.int (nI 5)), some (.int (nI 0)), some (.int x), some (.int (nI dep)), some (.int (nI 5)), some (.int (nI 0))]) (st' := [.int (tBodies ((((nI 5) * (nI 4)) + (nI 0)).toNatClampNeg))]) (σ' := (α, δ)) (pc' := 23) kX9_speak_13 rfl rfl (rf_a1 (rf_in_n (a := 20) (by (try rw [(show ((nI 5) * (nI 4)) = nI 20 from rf_eq (rf_nmul (x := nI 5) (y := nI 4) rfl rfl) (by omega))]); (try rw [(show ((nI 20) + (nI 0)) = nI 20 from rf_eq (rf_nadd (x := nI 20) (y := nI 0) rfl rfl) (by omega))]); all_goals exact rfl) (by omega)) rf_a0) ?_
  try rw [(show ((nI 5) * (nI 4)) = nI 20 from rf_eq (rf_nmul (x := nI 5) (y := nI 4) rfl rfl) (by omega))]
  try rw [(show ((nI 20) + (nI 0)) = nI 20 from rf_eq (rf_nadd (x := nI 20) (y := nI 0) rfl rfl) (by omega))]
  try rw [(show (nI 20).toNatClampNeg = 20 from rf_cl_n rfl (by omega))]
  try rw [(show tBodies 20 = nI 60 from rfl)]
  refine ok_if_ne bX9_speak_23 (fun _ => ?_) (fun h23 => absurd h23 ((by decide)))
  refine ok_step (ps := []) (L' := [some (.ref 83), some (.int (nI 5)), some (.int (nI 0)), some (.int x), some (.int (nI dep)), some (.int (nI 5)), some (.int (nI 0))]) (st' := [.int (nI 30), .int (nI dep)]) (σ' := (α, δ)) (pc' := 44) kX9_speak_40 rfl rfl rf_a0 ?_
  refine ok_icmp_le bX9_speak_44 (fun _ => ?_) (fun h44 => absurd (nI_le (by omega) (by omega)) h44)
  refine ok_step (ps := [rf_in (((nI 5) * (nI 4)) + (nI 0)) 32]) (L' := [some (.ref 83), some (.int (nI 5)), some (.int (nI 0)), some (.int x), some (.int (nI dep)), some (.int (nI 5)), some (.int (tBodies ((((nI 5) * (nI 4)) + (nI 0)).toNatClampNeg)))]) (st' := [.int (nI 40), .int (α 83 0)]) (σ' := (α, δ)) (pc' := 67) kX9_speak_49 rfl rfl (rf_a1 (rf_in_n (a := 20) (by (try rw [(show ((nI 5) * (nI 4)) = nI 20 from rf_eq (rf_nmul (x := nI 5) (y := nI 4) rfl rfl) (by omega))]); (try rw [(show ((nI 20) + (nI 0)) = nI 20 from rf_eq (rf_nadd (x := nI 20) (y := nI 0) rfl rfl) (by omega))]); all_goals exact rfl) (by omega)) rf_a0) ?_
  try rw [(show ((nI 5) * (nI 4)) = nI 20 from rf_eq (rf_nmul (x := nI 5) (y := nI 4) rfl rfl) (by omega))]
  try rw [(show ((nI 20) + (nI 0)) = nI 20 from rf_eq (rf_nadd (x := nI 20) (y := nI 0) rfl rfl) (by omega))]
  try rw [(show (nI 20).toNatClampNeg = 20 from rf_cl_n rfl (by omega))]
  try rw [(show tBodies 20 = nI 60 from rfl)]
  try rw [(show α 83 0 = nI b from hb)]
  refine ok_icmp_ge bX9_speak_67 (fun h67 => absurd h67 (nI_ge (by omega) (by omega))) (fun _ => ?_)
  refine ok_step (ps := [rf_in (α 83 0) 40]) (L' := [some (.ref 83), some (.int (nI 5)), some (.int (nI 0)), some (.int x), some (.int (nI dep)), some (.int (nI 5)), some (.int (nI 60))]) (st' := []) (σ' := (rf_w (rf_w α 84 ((α 83 0).toNatClampNeg) (nI 60)) 83 0 (((rf_w α 84 ((α 83 0).toNatClampNeg) (nI 60)) 83 0) + (nI 1)), δ)) (pc' := 91) kX9_speak_70 rfl rfl (rf_a1 (rf_in_n (a := b) (by (try rw [(show α 83 0 = nI b from hb)]); all_goals exact rfl) (by omega)) rf_a0) ?_
  try rw [(show α 83 0 = nI b from hb)]
  try rw [(show (nI b).toNatClampNeg = b from rf_cl_n rfl (by omega))]
  try rw [(show (rf_w α 84 b (nI 60)) 83 0 = α 83 0 from by rw [rf_w_at, if_neg (fun h => absurd h.1 (by decide))])]
  try rw [(show α 83 0 = nI b from hb)]
  try rw [(show ((nI b) + (nI 1)) = nI (1 + b) from rf_eq (rf_nadd (x := nI b) (y := nI 1) rfl rfl) (by omega))]
  rw [show rf_w (rf_w α 84 b (nI 60)) 83 0 (nI (1 + b)) = apt 84 83 0 α b [60] from apt_w (L := []) (by simp) (by omega)]
  refine ok_step (ps := [rf_in (nI 5) 8]) (L' := [some (.ref 83), some (.int (nI 5)), some (.int (nI 0)), some (.int x), some (.int (nI dep)), some (.int (nI 5)), some (.int (nI 60))]) (st' := [.int ((nI dep) + (nI 1)), .int x, .int (tAbove ((nI 5).toNatClampNeg)), .int (nI 60), .ref 83]) (σ' := (apt 84 83 0 α b [60], δ)) (pc' := 105) kX9_speak_91 rfl rfl (rf_a1 (rf_in_n (a := 5) rfl (by omega)) rf_a0) ?_
  try rw [(show (nI 5).toNatClampNeg = 5 from rf_cl_n rfl (by omega))]
  try rw [(show tAbove 5 = nI 0 from rfl)]
  try rw [(show ((nI dep) + (nI 1)) = nI (1 + dep) from rf_eq (rf_nadd (x := nI dep) (y := nI 1) rfl rfl) (by omega))]
  have hc105 : rf_At (rf_T Ln xs) MX9_runBody 3 0 ([some (.ref 83), some (.int (nI 60)), some (.int (nI 0)), some (.int x), some (.int (nI (1 + dep)))], [], 108, (apt 84 83 0 α b [60], δ)) (some (.int ((x + nu) ^^^ mn))) 108 (apt 84 83 0 α b [60, 10], δ) := by
    refine rf_pa ?_
    refine ok_step (ps := []) (L' := [some (.ref 83), some (.int (nI 60)), some (.int (nI 0)), some (.int x), some (.int (nI (1 + dep)))]) (st' := [.int (nI 60)]) (σ' := (apt 84 83 0 α b [60], δ)) (pc' := 1) kX9_runBody_0 rfl rfl rf_a0 ?_
    refine ok_lkk (q := (60, 232)) (t := 233) bX9_runBody_1 (by decide) (by decide) (by decide) (by decide) ?_
    refine ok_step (ps := []) (L' := [some (.ref 83), some (.int (nI 60)), some (.int (nI 0)), some (.int x), some (.int (nI (1 + dep)))]) (st' := [.int (nI (1 + dep)), .int x, .int (nI 0), .int (nI 0), .ref 83]) (σ' := (apt 84 83 0 α b [60], δ)) (pc' := 239) kX9_runBody_233 rfl rfl rf_a0 ?_
    refine ok_V (As := [.int (nI 0), .int (nI 0), .int x, .int (nI (1 + dep))]) (b := 83) (st := []) mkX9_speak qX9_runBody_239 rfl (rc_83) rfl rfl rfl rfl (Nat.le_of_ble_eq_true rfl) (cv5_0_0 (b := (1 + b)) (dep := (1 + dep)) ((apt_f (by decide) (by decide)).trans hk) ((apt_f (by decide) (by decide)).trans hn) ((apt_f (by decide) (by decide)).trans hm) (apt_0 (by decide) hb) (by omega) (by omega)) ?_
    rw [show apt 84 83 0 (apt 84 83 0 α b [60]) (1 + b) [10] = apt 84 83 0 α b [60, 10] from apt_app (by simp)]
    refine ok_step (ps := []) (L' := [some (.ref 83), some (.int (nI 60)), some (.int (nI 0)), some (.int x), some (.int (nI (1 + dep)))]) (st' := [.int ((x + nu) ^^^ ((apt 84 83 0 α b [60, 10]) 83 4))]) (σ' := (apt 84 83 0 α b [60, 10], δ)) (pc' := 247) kX9_runBody_242 rfl rfl rf_a0 ?_
    try rw [(show (apt 84 83 0 α b [60, 10]) 83 4 = mn from (apt_f (by decide) (by decide)).trans hm)]
    refine ok_reti eX9_runBody_247 rfl ?_
    exact ⟨rfl, rfl⟩
  refine ok_V (As := [.int (nI 60), .int (nI 0), .int x, .int (nI (1 + dep))]) (b := 83) (st := []) mkX9_runBody qX9_speak_105 rfl (rc_83) rfl rfl rfl rfl (Nat.le_of_ble_eq_true rfl) (hc105) ?_
  refine ok_reti eX9_speak_108 rfl ?_
  exact ⟨rfl, rfl⟩
theorem cv5_1_5 {x : Int32} {b dep : Nat} (hk : α 83 2 = nI 5) (hn : α 83 3 = nu) (hm : α 83 4 = mn) (hb : α 83 0 = nI b) (hl : b + 3 ≤ 40) (hd : dep + 3 ≤ 30) : rf_At (rf_T Ln xs) MX9_speak 6 0 ([some (.ref 83), some (.int (nI 5)), some (.int (nI 1)), some (.int x), some (.int (nI dep)), none, none], [], 108, (α, δ)) (some (.int (((x + nu) ^^^ mn) * nI 2))) 108 (apt 84 83 0 α b [11, 60, 10], δ) := by
  refine rf_pa ?_
  refine ok_step (ps := []) (L' := [some (.ref 83), some (.int (nI 5)), some (.int (nI 1)), some (.int x), some (.int (nI dep)), some (.int (nI 5)), some (.int (nI 0))]) (st' := []) (σ' := (α, δ)) (pc' := 6) kX9_speak_0 rfl rfl rf_a0 ?_
  refine ok_step (ps := []) (L' := [some (.ref 83), some (.int (nI 5)), some (.int (nI 1)), some (.int x), some (.int (nI dep)), some (.int (nI 5)), some (.int (nI 0))]) (st' := [.int (nI 8), .int (nI 0)]) (σ' := (α, δ)) (pc' := 10) kX9_speak_6 rfl rfl rf_a0 ?_
  refine ok_icmp_ge bX9_speak_10 (fun h10 => absurd h10 ((by decide))) (fun _ => ?_)
  refine ok_step (ps := [rf_in (((nI 5) * (nI 4)) + (nI 1)) 32]) (L' := [some (.ref 83), some (.int (nI 5)), some (.int (nI 1)), some (.int x), some (.int (nI dep)), some (.int (nI 5)), some (.int (nI 0))]) (st' := [.int (tBodies ((((nI 5) * (nI 4)) + (nI 1)).toNatClampNeg))]) (σ' := (α, δ)) (pc' := 23) kX9_speak_13 rfl rfl (rf_a1 (rf_in_n (a := 21) (by (try rw [(show ((nI 5) * (nI 4)) = nI 20 from rf_eq (rf_nmul (x := nI 5) (y := nI 4) rfl rfl) (by omega))]); (try rw [(show ((nI 20) + (nI 1)) = nI 21 from rf_eq (rf_nadd (x := nI 20) (y := nI 1) rfl rfl) (by omega))]); all_goals exact rfl) (by omega)) rf_a0) ?_
  try rw [(show ((nI 5) * (nI 4)) = nI 20 from rf_eq (rf_nmul (x := nI 5) (y := nI 4) rfl rfl) (by omega))]
  try rw [(show ((nI 20) + (nI 1)) = nI 21 from rf_eq (rf_nadd (x := nI 20) (y := nI 1) rfl rfl) (by omega))]
  try rw [(show (nI 21).toNatClampNeg = 21 from rf_cl_n rfl (by omega))]
  try rw [(show tBodies 21 = nI 0 from rfl)]
  refine ok_if_ne bX9_speak_23 (fun h23 => absurd ((by decide)) h23) (fun _ => ?_)
  refine ok_step (ps := [rf_in (nI 5) 8]) (L' := [some (.ref 83), some (.int (nI 5)), some (.int (nI 1)), some (.int x), some (.int (nI dep)), some (.int (tAbove ((nI 5).toNatClampNeg))), some (.int ((nI 0) + (nI 1)))]) (st' := []) (σ' := (α, δ)) (pc' := 37) kX9_speak_26 rfl rfl (rf_a1 (rf_in_n (a := 5) rfl (by omega)) rf_a0) ?_
  try rw [(show (nI 5).toNatClampNeg = 5 from rf_cl_n rfl (by omega))]
  try rw [(show tAbove 5 = nI 0 from rfl)]
  try rw [(show ((nI 0) + (nI 1)) = nI 1 from rf_eq (rf_nadd (x := nI 0) (y := nI 1) rfl rfl) (by omega))]
  refine ok_goto bX9_speak_37 ?_
  refine ok_step (ps := []) (L' := [some (.ref 83), some (.int (nI 5)), some (.int (nI 1)), some (.int x), some (.int (nI dep)), some (.int (nI 0)), some (.int (nI 1))]) (st' := [.int (nI 8), .int (nI 1)]) (σ' := (α, δ)) (pc' := 10) kX9_speak_6 rfl rfl rf_a0 ?_
  refine ok_icmp_ge bX9_speak_10 (fun h10 => absurd h10 ((by decide))) (fun _ => ?_)
  refine ok_step (ps := [rf_in (((nI 0) * (nI 4)) + (nI 1)) 32]) (L' := [some (.ref 83), some (.int (nI 5)), some (.int (nI 1)), some (.int x), some (.int (nI dep)), some (.int (nI 0)), some (.int (nI 1))]) (st' := [.int (tBodies ((((nI 0) * (nI 4)) + (nI 1)).toNatClampNeg))]) (σ' := (α, δ)) (pc' := 23) kX9_speak_13 rfl rfl (rf_a1 (rf_in_n (a := 1) (by (try rw [(show ((nI 0) * (nI 4)) = nI 0 from rf_eq (rf_nmul (x := nI 0) (y := nI 4) rfl rfl) (by omega))]); (try rw [(show ((nI 0) + (nI 1)) = nI 1 from rf_eq (rf_nadd (x := nI 0) (y := nI 1) rfl rfl) (by omega))]); all_goals exact rfl) (by omega)) rf_a0) ?_
  try rw [(show ((nI 0) * (nI 4)) = nI 0 from rf_eq (rf_nmul (x := nI 0) (y := nI 4) rfl rfl) (by omega))]
  try rw [(show ((nI 0) + (nI 1)) = nI 1 from rf_eq (rf_nadd (x := nI 0) (y := nI 1) rfl rfl) (by omega))]
  try rw [(show (nI 1).toNatClampNeg = 1 from rf_cl_n rfl (by omega))]
  try rw [(show tBodies 1 = nI 11 from rfl)]
  refine ok_if_ne bX9_speak_23 (fun _ => ?_) (fun h23 => absurd h23 ((by decide)))
  refine ok_step (ps := []) (L' := [some (.ref 83), some (.int (nI 5)), some (.int (nI 1)), some (.int x), some (.int (nI dep)), some (.int (nI 0)), some (.int (nI 1))]) (st' := [.int (nI 30), .int (nI dep)]) (σ' := (α, δ)) (pc' := 44) kX9_speak_40 rfl rfl rf_a0 ?_
  refine ok_icmp_le bX9_speak_44 (fun _ => ?_) (fun h44 => absurd (nI_le (by omega) (by omega)) h44)
  refine ok_step (ps := [rf_in (((nI 0) * (nI 4)) + (nI 1)) 32]) (L' := [some (.ref 83), some (.int (nI 5)), some (.int (nI 1)), some (.int x), some (.int (nI dep)), some (.int (nI 0)), some (.int (tBodies ((((nI 0) * (nI 4)) + (nI 1)).toNatClampNeg)))]) (st' := [.int (nI 40), .int (α 83 0)]) (σ' := (α, δ)) (pc' := 67) kX9_speak_49 rfl rfl (rf_a1 (rf_in_n (a := 1) (by (try rw [(show ((nI 0) * (nI 4)) = nI 0 from rf_eq (rf_nmul (x := nI 0) (y := nI 4) rfl rfl) (by omega))]); (try rw [(show ((nI 0) + (nI 1)) = nI 1 from rf_eq (rf_nadd (x := nI 0) (y := nI 1) rfl rfl) (by omega))]); all_goals exact rfl) (by omega)) rf_a0) ?_
  try rw [(show ((nI 0) * (nI 4)) = nI 0 from rf_eq (rf_nmul (x := nI 0) (y := nI 4) rfl rfl) (by omega))]
  try rw [(show ((nI 0) + (nI 1)) = nI 1 from rf_eq (rf_nadd (x := nI 0) (y := nI 1) rfl rfl) (by omega))]
  try rw [(show (nI 1).toNatClampNeg = 1 from rf_cl_n rfl (by omega))]
  try rw [(show tBodies 1 = nI 11 from rfl)]
  try rw [(show α 83 0 = nI b from hb)]
  refine ok_icmp_ge bX9_speak_67 (fun h67 => absurd h67 (nI_ge (by omega) (by omega))) (fun _ => ?_)
  refine ok_step (ps := [rf_in (α 83 0) 40]) (L' := [some (.ref 83), some (.int (nI 5)), some (.int (nI 1)), some (.int x), some (.int (nI dep)), some (.int (nI 0)), some (.int (nI 11))]) (st' := []) (σ' := (rf_w (rf_w α 84 ((α 83 0).toNatClampNeg) (nI 11)) 83 0 (((rf_w α 84 ((α 83 0).toNatClampNeg) (nI 11)) 83 0) + (nI 1)), δ)) (pc' := 91) kX9_speak_70 rfl rfl (rf_a1 (rf_in_n (a := b) (by (try rw [(show α 83 0 = nI b from hb)]); all_goals exact rfl) (by omega)) rf_a0) ?_
  try rw [(show α 83 0 = nI b from hb)]
  try rw [(show (nI b).toNatClampNeg = b from rf_cl_n rfl (by omega))]
  try rw [(show (rf_w α 84 b (nI 11)) 83 0 = α 83 0 from by rw [rf_w_at, if_neg (fun h => absurd h.1 (by decide))])]
  try rw [(show α 83 0 = nI b from hb)]
  try rw [(show ((nI b) + (nI 1)) = nI (1 + b) from rf_eq (rf_nadd (x := nI b) (y := nI 1) rfl rfl) (by omega))]
  rw [show rf_w (rf_w α 84 b (nI 11)) 83 0 (nI (1 + b)) = apt 84 83 0 α b [11] from apt_w (L := []) (by simp) (by omega)]
  refine ok_step (ps := [rf_in (nI 0) 8]) (L' := [some (.ref 83), some (.int (nI 5)), some (.int (nI 1)), some (.int x), some (.int (nI dep)), some (.int (nI 0)), some (.int (nI 11))]) (st' := [.int ((nI dep) + (nI 1)), .int x, .int (tAbove ((nI 0).toNatClampNeg)), .int (nI 11), .ref 83]) (σ' := (apt 84 83 0 α b [11], δ)) (pc' := 105) kX9_speak_91 rfl rfl (rf_a1 (rf_in_n (a := 0) rfl (by omega)) rf_a0) ?_
  try rw [(show (nI 0).toNatClampNeg = 0 from rf_cl_n rfl (by omega))]
  try rw [(show tAbove 0 = nI 0 from rfl)]
  try rw [(show ((nI dep) + (nI 1)) = nI (1 + dep) from rf_eq (rf_nadd (x := nI dep) (y := nI 1) rfl rfl) (by omega))]
  have hc105 : rf_At (rf_T Ln xs) MX9_runBody 5 0 ([some (.ref 83), some (.int (nI 11)), some (.int (nI 0)), some (.int x), some (.int (nI (1 + dep)))], [], 108, (apt 84 83 0 α b [11], δ)) (some (.int (((x + nu) ^^^ mn) * (nI 2)))) 108 (apt 84 83 0 α b [11, 60, 10], δ) := by
    refine rf_pa ?_
    refine ok_step (ps := []) (L' := [some (.ref 83), some (.int (nI 11)), some (.int (nI 0)), some (.int x), some (.int (nI (1 + dep)))]) (st' := [.int (nI 11)]) (σ' := (apt 84 83 0 α b [11], δ)) (pc' := 1) kX9_runBody_0 rfl rfl rf_a0 ?_
    refine ok_lkk (q := (11, 114)) (t := 115) bX9_runBody_1 (by decide) (by decide) (by decide) (by decide) ?_
    refine ok_step (ps := []) (L' := [some (.ref 83), some (.int (nI 11)), some (.int (nI 0)), some (.int x), some (.int (nI (1 + dep)))]) (st' := [.int (nI (1 + dep)), .int x, .int (nI 0), .int ((apt 84 83 0 α b [11]) 83 2), .ref 83]) (σ' := (apt 84 83 0 α b [11], δ)) (pc' := 124) kX9_runBody_115 rfl rfl rf_a0 ?_
    try rw [(show (apt 84 83 0 α b [11]) 83 2 = nI 5 from (apt_f (by decide) (by decide)).trans hk)]
    refine ok_V (As := [.int (nI 5), .int (nI 0), .int x, .int (nI (1 + dep))]) (b := 83) (st := []) mkX9_speak qX9_runBody_124 rfl (rc_83) rfl rfl rfl rfl (Nat.le_of_ble_eq_true rfl) (cv5_0_5 (b := (1 + b)) (dep := (1 + dep)) ((apt_f (by decide) (by decide)).trans hk) ((apt_f (by decide) (by decide)).trans hn) ((apt_f (by decide) (by decide)).trans hm) (apt_0 (by decide) hb) (by omega) (by omega)) ?_
    rw [show apt 84 83 0 (apt 84 83 0 α b [11]) (1 + b) [60, 10] = apt 84 83 0 α b [11, 60, 10] from apt_app (by simp)]
    refine ok_step (ps := []) (L' := [some (.ref 83), some (.int (nI 11)), some (.int (nI 0)), some (.int x), some (.int (nI (1 + dep)))]) (st' := [.int (((x + nu) ^^^ mn) * (nI 2))]) (σ' := (apt 84 83 0 α b [11, 60, 10], δ)) (pc' := 129) kX9_runBody_127 rfl rfl rf_a0 ?_
    refine ok_reti eX9_runBody_129 rfl ?_
    exact ⟨rfl, rfl⟩
  refine ok_V (As := [.int (nI 11), .int (nI 0), .int x, .int (nI (1 + dep))]) (b := 83) (st := []) mkX9_runBody qX9_speak_105 rfl (rc_83) rfl rfl rfl rfl (Nat.le_of_ble_eq_true rfl) (hc105) ?_
  refine ok_reti eX9_speak_108 rfl ?_
  exact ⟨rfl, rfl⟩
theorem cv5_2_5 {x : Int32} {b dep : Nat} (hk : α 83 2 = nI 5) (hn : α 83 3 = nu) (hm : α 83 4 = mn) (hb : α 83 0 = nI b) (hl : b + 1 ≤ 40) (hd : dep + 1 ≤ 30) : rf_At (rf_T Ln xs) MX9_speak 2 0 ([some (.ref 83), some (.int (nI 5)), some (.int (nI 2)), some (.int x), some (.int (nI dep)), none, none], [], 108, (α, δ)) (some (.int (x - mn))) 108 (apt 84 83 0 α b [12], δ) := by
  refine rf_pa ?_
  refine ok_step (ps := []) (L' := [some (.ref 83), some (.int (nI 5)), some (.int (nI 2)), some (.int x), some (.int (nI dep)), some (.int (nI 5)), some (.int (nI 0))]) (st' := []) (σ' := (α, δ)) (pc' := 6) kX9_speak_0 rfl rfl rf_a0 ?_
  refine ok_step (ps := []) (L' := [some (.ref 83), some (.int (nI 5)), some (.int (nI 2)), some (.int x), some (.int (nI dep)), some (.int (nI 5)), some (.int (nI 0))]) (st' := [.int (nI 8), .int (nI 0)]) (σ' := (α, δ)) (pc' := 10) kX9_speak_6 rfl rfl rf_a0 ?_
  refine ok_icmp_ge bX9_speak_10 (fun h10 => absurd h10 ((by decide))) (fun _ => ?_)
  refine ok_step (ps := [rf_in (((nI 5) * (nI 4)) + (nI 2)) 32]) (L' := [some (.ref 83), some (.int (nI 5)), some (.int (nI 2)), some (.int x), some (.int (nI dep)), some (.int (nI 5)), some (.int (nI 0))]) (st' := [.int (tBodies ((((nI 5) * (nI 4)) + (nI 2)).toNatClampNeg))]) (σ' := (α, δ)) (pc' := 23) kX9_speak_13 rfl rfl (rf_a1 (rf_in_n (a := 22) (by (try rw [(show ((nI 5) * (nI 4)) = nI 20 from rf_eq (rf_nmul (x := nI 5) (y := nI 4) rfl rfl) (by omega))]); (try rw [(show ((nI 20) + (nI 2)) = nI 22 from rf_eq (rf_nadd (x := nI 20) (y := nI 2) rfl rfl) (by omega))]); all_goals exact rfl) (by omega)) rf_a0) ?_
  try rw [(show ((nI 5) * (nI 4)) = nI 20 from rf_eq (rf_nmul (x := nI 5) (y := nI 4) rfl rfl) (by omega))]
  try rw [(show ((nI 20) + (nI 2)) = nI 22 from rf_eq (rf_nadd (x := nI 20) (y := nI 2) rfl rfl) (by omega))]
  try rw [(show (nI 22).toNatClampNeg = 22 from rf_cl_n rfl (by omega))]
  try rw [(show tBodies 22 = nI 0 from rfl)]
  refine ok_if_ne bX9_speak_23 (fun h23 => absurd ((by decide)) h23) (fun _ => ?_)
  refine ok_step (ps := [rf_in (nI 5) 8]) (L' := [some (.ref 83), some (.int (nI 5)), some (.int (nI 2)), some (.int x), some (.int (nI dep)), some (.int (tAbove ((nI 5).toNatClampNeg))), some (.int ((nI 0) + (nI 1)))]) (st' := []) (σ' := (α, δ)) (pc' := 37) kX9_speak_26 rfl rfl (rf_a1 (rf_in_n (a := 5) rfl (by omega)) rf_a0) ?_
  try rw [(show (nI 5).toNatClampNeg = 5 from rf_cl_n rfl (by omega))]
  try rw [(show tAbove 5 = nI 0 from rfl)]
  try rw [(show ((nI 0) + (nI 1)) = nI 1 from rf_eq (rf_nadd (x := nI 0) (y := nI 1) rfl rfl) (by omega))]
  refine ok_goto bX9_speak_37 ?_
  refine ok_step (ps := []) (L' := [some (.ref 83), some (.int (nI 5)), some (.int (nI 2)), some (.int x), some (.int (nI dep)), some (.int (nI 0)), some (.int (nI 1))]) (st' := [.int (nI 8), .int (nI 1)]) (σ' := (α, δ)) (pc' := 10) kX9_speak_6 rfl rfl rf_a0 ?_
  refine ok_icmp_ge bX9_speak_10 (fun h10 => absurd h10 ((by decide))) (fun _ => ?_)
  refine ok_step (ps := [rf_in (((nI 0) * (nI 4)) + (nI 2)) 32]) (L' := [some (.ref 83), some (.int (nI 5)), some (.int (nI 2)), some (.int x), some (.int (nI dep)), some (.int (nI 0)), some (.int (nI 1))]) (st' := [.int (tBodies ((((nI 0) * (nI 4)) + (nI 2)).toNatClampNeg))]) (σ' := (α, δ)) (pc' := 23) kX9_speak_13 rfl rfl (rf_a1 (rf_in_n (a := 2) (by (try rw [(show ((nI 0) * (nI 4)) = nI 0 from rf_eq (rf_nmul (x := nI 0) (y := nI 4) rfl rfl) (by omega))]); (try rw [(show ((nI 0) + (nI 2)) = nI 2 from rf_eq (rf_nadd (x := nI 0) (y := nI 2) rfl rfl) (by omega))]); all_goals exact rfl) (by omega)) rf_a0) ?_
  try rw [(show ((nI 0) * (nI 4)) = nI 0 from rf_eq (rf_nmul (x := nI 0) (y := nI 4) rfl rfl) (by omega))]
  try rw [(show ((nI 0) + (nI 2)) = nI 2 from rf_eq (rf_nadd (x := nI 0) (y := nI 2) rfl rfl) (by omega))]
  try rw [(show (nI 2).toNatClampNeg = 2 from rf_cl_n rfl (by omega))]
  try rw [(show tBodies 2 = nI 12 from rfl)]
  refine ok_if_ne bX9_speak_23 (fun _ => ?_) (fun h23 => absurd h23 ((by decide)))
  refine ok_step (ps := []) (L' := [some (.ref 83), some (.int (nI 5)), some (.int (nI 2)), some (.int x), some (.int (nI dep)), some (.int (nI 0)), some (.int (nI 1))]) (st' := [.int (nI 30), .int (nI dep)]) (σ' := (α, δ)) (pc' := 44) kX9_speak_40 rfl rfl rf_a0 ?_
  refine ok_icmp_le bX9_speak_44 (fun _ => ?_) (fun h44 => absurd (nI_le (by omega) (by omega)) h44)
  refine ok_step (ps := [rf_in (((nI 0) * (nI 4)) + (nI 2)) 32]) (L' := [some (.ref 83), some (.int (nI 5)), some (.int (nI 2)), some (.int x), some (.int (nI dep)), some (.int (nI 0)), some (.int (tBodies ((((nI 0) * (nI 4)) + (nI 2)).toNatClampNeg)))]) (st' := [.int (nI 40), .int (α 83 0)]) (σ' := (α, δ)) (pc' := 67) kX9_speak_49 rfl rfl (rf_a1 (rf_in_n (a := 2) (by (try rw [(show ((nI 0) * (nI 4)) = nI 0 from rf_eq (rf_nmul (x := nI 0) (y := nI 4) rfl rfl) (by omega))]); (try rw [(show ((nI 0) + (nI 2)) = nI 2 from rf_eq (rf_nadd (x := nI 0) (y := nI 2) rfl rfl) (by omega))]); all_goals exact rfl) (by omega)) rf_a0) ?_
  try rw [(show ((nI 0) * (nI 4)) = nI 0 from rf_eq (rf_nmul (x := nI 0) (y := nI 4) rfl rfl) (by omega))]
  try rw [(show ((nI 0) + (nI 2)) = nI 2 from rf_eq (rf_nadd (x := nI 0) (y := nI 2) rfl rfl) (by omega))]
  try rw [(show (nI 2).toNatClampNeg = 2 from rf_cl_n rfl (by omega))]
  try rw [(show tBodies 2 = nI 12 from rfl)]
  try rw [(show α 83 0 = nI b from hb)]
  refine ok_icmp_ge bX9_speak_67 (fun h67 => absurd h67 (nI_ge (by omega) (by omega))) (fun _ => ?_)
  refine ok_step (ps := [rf_in (α 83 0) 40]) (L' := [some (.ref 83), some (.int (nI 5)), some (.int (nI 2)), some (.int x), some (.int (nI dep)), some (.int (nI 0)), some (.int (nI 12))]) (st' := []) (σ' := (rf_w (rf_w α 84 ((α 83 0).toNatClampNeg) (nI 12)) 83 0 (((rf_w α 84 ((α 83 0).toNatClampNeg) (nI 12)) 83 0) + (nI 1)), δ)) (pc' := 91) kX9_speak_70 rfl rfl (rf_a1 (rf_in_n (a := b) (by (try rw [(show α 83 0 = nI b from hb)]); all_goals exact rfl) (by omega)) rf_a0) ?_
  try rw [(show α 83 0 = nI b from hb)]
  try rw [(show (nI b).toNatClampNeg = b from rf_cl_n rfl (by omega))]
  try rw [(show (rf_w α 84 b (nI 12)) 83 0 = α 83 0 from by rw [rf_w_at, if_neg (fun h => absurd h.1 (by decide))])]
  try rw [(show α 83 0 = nI b from hb)]
  try rw [(show ((nI b) + (nI 1)) = nI (1 + b) from rf_eq (rf_nadd (x := nI b) (y := nI 1) rfl rfl) (by omega))]
  rw [show rf_w (rf_w α 84 b (nI 12)) 83 0 (nI (1 + b)) = apt 84 83 0 α b [12] from apt_w (L := []) (by simp) (by omega)]
  refine ok_step (ps := [rf_in (nI 0) 8]) (L' := [some (.ref 83), some (.int (nI 5)), some (.int (nI 2)), some (.int x), some (.int (nI dep)), some (.int (nI 0)), some (.int (nI 12))]) (st' := [.int ((nI dep) + (nI 1)), .int x, .int (tAbove ((nI 0).toNatClampNeg)), .int (nI 12), .ref 83]) (σ' := (apt 84 83 0 α b [12], δ)) (pc' := 105) kX9_speak_91 rfl rfl (rf_a1 (rf_in_n (a := 0) rfl (by omega)) rf_a0) ?_
  try rw [(show (nI 0).toNatClampNeg = 0 from rf_cl_n rfl (by omega))]
  try rw [(show tAbove 0 = nI 0 from rfl)]
  try rw [(show ((nI dep) + (nI 1)) = nI (1 + dep) from rf_eq (rf_nadd (x := nI dep) (y := nI 1) rfl rfl) (by omega))]
  have hc105 : rf_At (rf_T Ln xs) MX9_runBody 1 0 ([some (.ref 83), some (.int (nI 12)), some (.int (nI 0)), some (.int x), some (.int (nI (1 + dep)))], [], 108, (apt 84 83 0 α b [12], δ)) (some (.int (x - mn))) 108 (apt 84 83 0 α b [12], δ) := by
    refine rf_pa ?_
    refine ok_step (ps := []) (L' := [some (.ref 83), some (.int (nI 12)), some (.int (nI 0)), some (.int x), some (.int (nI (1 + dep)))]) (st' := [.int (nI 12)]) (σ' := (apt 84 83 0 α b [12], δ)) (pc' := 1) kX9_runBody_0 rfl rfl rf_a0 ?_
    refine ok_lkk (q := (12, 129)) (t := 130) bX9_runBody_1 (by decide) (by decide) (by decide) (by decide) ?_
    refine ok_step (ps := []) (L' := [some (.ref 83), some (.int (nI 12)), some (.int (nI 0)), some (.int x), some (.int (nI (1 + dep)))]) (st' := [.int (x - ((apt 84 83 0 α b [12]) 83 4))]) (σ' := (apt 84 83 0 α b [12], δ)) (pc' := 136) kX9_runBody_130 rfl rfl rf_a0 ?_
    try rw [(show (apt 84 83 0 α b [12]) 83 4 = mn from (apt_f (by decide) (by decide)).trans hm)]
    refine ok_reti eX9_runBody_136 rfl ?_
    exact ⟨rfl, rfl⟩
  refine ok_V (As := [.int (nI 12), .int (nI 0), .int x, .int (nI (1 + dep))]) (b := 83) (st := []) mkX9_runBody qX9_speak_105 rfl (rc_83) rfl rfl rfl rfl (Nat.le_of_ble_eq_true rfl) (hc105) ?_
  refine ok_reti eX9_speak_108 rfl ?_
  exact ⟨rfl, rfl⟩
theorem cv5_3_5 {x : Int32} {b dep : Nat} (hk : α 83 2 = nI 5) (hn : α 83 3 = nu) (hm : α 83 4 = mn) (hb : α 83 0 = nI b) (hl : b + 5 ≤ 40) (hd : dep + 4 ≤ 30) : rf_At (rf_T Ln xs) MX9_speak 8 0 ([some (.ref 83), some (.int (nI 5)), some (.int (nI 3)), some (.int x), some (.int (nI dep)), none, none], [], 108, (α, δ)) (some (.int ((((x + nu) ^^^ mn) * nI 2) ^^^ (x - mn)))) 108 (apt 84 83 0 α b [13, 11, 60, 10, 12], δ) := by
  refine rf_pa ?_
  refine ok_step (ps := []) (L' := [some (.ref 83), some (.int (nI 5)), some (.int (nI 3)), some (.int x), some (.int (nI dep)), some (.int (nI 5)), some (.int (nI 0))]) (st' := []) (σ' := (α, δ)) (pc' := 6) kX9_speak_0 rfl rfl rf_a0 ?_
  refine ok_step (ps := []) (L' := [some (.ref 83), some (.int (nI 5)), some (.int (nI 3)), some (.int x), some (.int (nI dep)), some (.int (nI 5)), some (.int (nI 0))]) (st' := [.int (nI 8), .int (nI 0)]) (σ' := (α, δ)) (pc' := 10) kX9_speak_6 rfl rfl rf_a0 ?_
  refine ok_icmp_ge bX9_speak_10 (fun h10 => absurd h10 ((by decide))) (fun _ => ?_)
  refine ok_step (ps := [rf_in (((nI 5) * (nI 4)) + (nI 3)) 32]) (L' := [some (.ref 83), some (.int (nI 5)), some (.int (nI 3)), some (.int x), some (.int (nI dep)), some (.int (nI 5)), some (.int (nI 0))]) (st' := [.int (tBodies ((((nI 5) * (nI 4)) + (nI 3)).toNatClampNeg))]) (σ' := (α, δ)) (pc' := 23) kX9_speak_13 rfl rfl (rf_a1 (rf_in_n (a := 23) (by (try rw [(show ((nI 5) * (nI 4)) = nI 20 from rf_eq (rf_nmul (x := nI 5) (y := nI 4) rfl rfl) (by omega))]); (try rw [(show ((nI 20) + (nI 3)) = nI 23 from rf_eq (rf_nadd (x := nI 20) (y := nI 3) rfl rfl) (by omega))]); all_goals exact rfl) (by omega)) rf_a0) ?_
  try rw [(show ((nI 5) * (nI 4)) = nI 20 from rf_eq (rf_nmul (x := nI 5) (y := nI 4) rfl rfl) (by omega))]
  try rw [(show ((nI 20) + (nI 3)) = nI 23 from rf_eq (rf_nadd (x := nI 20) (y := nI 3) rfl rfl) (by omega))]
  try rw [(show (nI 23).toNatClampNeg = 23 from rf_cl_n rfl (by omega))]
  try rw [(show tBodies 23 = nI 0 from rfl)]
  refine ok_if_ne bX9_speak_23 (fun h23 => absurd ((by decide)) h23) (fun _ => ?_)
  refine ok_step (ps := [rf_in (nI 5) 8]) (L' := [some (.ref 83), some (.int (nI 5)), some (.int (nI 3)), some (.int x), some (.int (nI dep)), some (.int (tAbove ((nI 5).toNatClampNeg))), some (.int ((nI 0) + (nI 1)))]) (st' := []) (σ' := (α, δ)) (pc' := 37) kX9_speak_26 rfl rfl (rf_a1 (rf_in_n (a := 5) rfl (by omega)) rf_a0) ?_
  try rw [(show (nI 5).toNatClampNeg = 5 from rf_cl_n rfl (by omega))]
  try rw [(show tAbove 5 = nI 0 from rfl)]
  try rw [(show ((nI 0) + (nI 1)) = nI 1 from rf_eq (rf_nadd (x := nI 0) (y := nI 1) rfl rfl) (by omega))]
  refine ok_goto bX9_speak_37 ?_
  refine ok_step (ps := []) (L' := [some (.ref 83), some (.int (nI 5)), some (.int (nI 3)), some (.int x), some (.int (nI dep)), some (.int (nI 0)), some (.int (nI 1))]) (st' := [.int (nI 8), .int (nI 1)]) (σ' := (α, δ)) (pc' := 10) kX9_speak_6 rfl rfl rf_a0 ?_
  refine ok_icmp_ge bX9_speak_10 (fun h10 => absurd h10 ((by decide))) (fun _ => ?_)
  refine ok_step (ps := [rf_in (((nI 0) * (nI 4)) + (nI 3)) 32]) (L' := [some (.ref 83), some (.int (nI 5)), some (.int (nI 3)), some (.int x), some (.int (nI dep)), some (.int (nI 0)), some (.int (nI 1))]) (st' := [.int (tBodies ((((nI 0) * (nI 4)) + (nI 3)).toNatClampNeg))]) (σ' := (α, δ)) (pc' := 23) kX9_speak_13 rfl rfl (rf_a1 (rf_in_n (a := 3) (by (try rw [(show ((nI 0) * (nI 4)) = nI 0 from rf_eq (rf_nmul (x := nI 0) (y := nI 4) rfl rfl) (by omega))]); (try rw [(show ((nI 0) + (nI 3)) = nI 3 from rf_eq (rf_nadd (x := nI 0) (y := nI 3) rfl rfl) (by omega))]); all_goals exact rfl) (by omega)) rf_a0) ?_
  try rw [(show ((nI 0) * (nI 4)) = nI 0 from rf_eq (rf_nmul (x := nI 0) (y := nI 4) rfl rfl) (by omega))]
  try rw [(show ((nI 0) + (nI 3)) = nI 3 from rf_eq (rf_nadd (x := nI 0) (y := nI 3) rfl rfl) (by omega))]
  try rw [(show (nI 3).toNatClampNeg = 3 from rf_cl_n rfl (by omega))]
  try rw [(show tBodies 3 = nI 13 from rfl)]
  refine ok_if_ne bX9_speak_23 (fun _ => ?_) (fun h23 => absurd h23 ((by decide)))
  refine ok_step (ps := []) (L' := [some (.ref 83), some (.int (nI 5)), some (.int (nI 3)), some (.int x), some (.int (nI dep)), some (.int (nI 0)), some (.int (nI 1))]) (st' := [.int (nI 30), .int (nI dep)]) (σ' := (α, δ)) (pc' := 44) kX9_speak_40 rfl rfl rf_a0 ?_
  refine ok_icmp_le bX9_speak_44 (fun _ => ?_) (fun h44 => absurd (nI_le (by omega) (by omega)) h44)
  refine ok_step (ps := [rf_in (((nI 0) * (nI 4)) + (nI 3)) 32]) (L' := [some (.ref 83), some (.int (nI 5)), some (.int (nI 3)), some (.int x), some (.int (nI dep)), some (.int (nI 0)), some (.int (tBodies ((((nI 0) * (nI 4)) + (nI 3)).toNatClampNeg)))]) (st' := [.int (nI 40), .int (α 83 0)]) (σ' := (α, δ)) (pc' := 67) kX9_speak_49 rfl rfl (rf_a1 (rf_in_n (a := 3) (by (try rw [(show ((nI 0) * (nI 4)) = nI 0 from rf_eq (rf_nmul (x := nI 0) (y := nI 4) rfl rfl) (by omega))]); (try rw [(show ((nI 0) + (nI 3)) = nI 3 from rf_eq (rf_nadd (x := nI 0) (y := nI 3) rfl rfl) (by omega))]); all_goals exact rfl) (by omega)) rf_a0) ?_
  try rw [(show ((nI 0) * (nI 4)) = nI 0 from rf_eq (rf_nmul (x := nI 0) (y := nI 4) rfl rfl) (by omega))]
  try rw [(show ((nI 0) + (nI 3)) = nI 3 from rf_eq (rf_nadd (x := nI 0) (y := nI 3) rfl rfl) (by omega))]
  try rw [(show (nI 3).toNatClampNeg = 3 from rf_cl_n rfl (by omega))]
  try rw [(show tBodies 3 = nI 13 from rfl)]
  try rw [(show α 83 0 = nI b from hb)]
  refine ok_icmp_ge bX9_speak_67 (fun h67 => absurd h67 (nI_ge (by omega) (by omega))) (fun _ => ?_)
  refine ok_step (ps := [rf_in (α 83 0) 40]) (L' := [some (.ref 83), some (.int (nI 5)), some (.int (nI 3)), some (.int x), some (.int (nI dep)), some (.int (nI 0)), some (.int (nI 13))]) (st' := []) (σ' := (rf_w (rf_w α 84 ((α 83 0).toNatClampNeg) (nI 13)) 83 0 (((rf_w α 84 ((α 83 0).toNatClampNeg) (nI 13)) 83 0) + (nI 1)), δ)) (pc' := 91) kX9_speak_70 rfl rfl (rf_a1 (rf_in_n (a := b) (by (try rw [(show α 83 0 = nI b from hb)]); all_goals exact rfl) (by omega)) rf_a0) ?_
  try rw [(show α 83 0 = nI b from hb)]
  try rw [(show (nI b).toNatClampNeg = b from rf_cl_n rfl (by omega))]
  try rw [(show (rf_w α 84 b (nI 13)) 83 0 = α 83 0 from by rw [rf_w_at, if_neg (fun h => absurd h.1 (by decide))])]
  try rw [(show α 83 0 = nI b from hb)]
  try rw [(show ((nI b) + (nI 1)) = nI (1 + b) from rf_eq (rf_nadd (x := nI b) (y := nI 1) rfl rfl) (by omega))]
  rw [show rf_w (rf_w α 84 b (nI 13)) 83 0 (nI (1 + b)) = apt 84 83 0 α b [13] from apt_w (L := []) (by simp) (by omega)]
  refine ok_step (ps := [rf_in (nI 0) 8]) (L' := [some (.ref 83), some (.int (nI 5)), some (.int (nI 3)), some (.int x), some (.int (nI dep)), some (.int (nI 0)), some (.int (nI 13))]) (st' := [.int ((nI dep) + (nI 1)), .int x, .int (tAbove ((nI 0).toNatClampNeg)), .int (nI 13), .ref 83]) (σ' := (apt 84 83 0 α b [13], δ)) (pc' := 105) kX9_speak_91 rfl rfl (rf_a1 (rf_in_n (a := 0) rfl (by omega)) rf_a0) ?_
  try rw [(show (nI 0).toNatClampNeg = 0 from rf_cl_n rfl (by omega))]
  try rw [(show tAbove 0 = nI 0 from rfl)]
  try rw [(show ((nI dep) + (nI 1)) = nI (1 + dep) from rf_eq (rf_nadd (x := nI dep) (y := nI 1) rfl rfl) (by omega))]
  have hc105 : rf_At (rf_T Ln xs) MX9_runBody 7 0 ([some (.ref 83), some (.int (nI 13)), some (.int (nI 0)), some (.int x), some (.int (nI (1 + dep)))], [], 108, (apt 84 83 0 α b [13], δ)) (some (.int ((((x + nu) ^^^ mn) * nI 2) ^^^ (x - mn)))) 108 (apt 84 83 0 α b [13, 11, 60, 10, 12], δ) := by
    refine rf_pa ?_
    refine ok_step (ps := []) (L' := [some (.ref 83), some (.int (nI 13)), some (.int (nI 0)), some (.int x), some (.int (nI (1 + dep)))]) (st' := [.int (nI 13)]) (σ' := (apt 84 83 0 α b [13], δ)) (pc' := 1) kX9_runBody_0 rfl rfl rf_a0 ?_
    refine ok_lkk (q := (13, 136)) (t := 137) bX9_runBody_1 (by decide) (by decide) (by decide) (by decide) ?_
    refine ok_step (ps := []) (L' := [some (.ref 83), some (.int (nI 13)), some (.int (nI 0)), some (.int x), some (.int (nI (1 + dep)))]) (st' := [.int (nI (1 + dep)), .int x, .int (nI 1), .int ((apt 84 83 0 α b [13]) 83 2), .ref 83]) (σ' := (apt 84 83 0 α b [13], δ)) (pc' := 146) kX9_runBody_137 rfl rfl rf_a0 ?_
    try rw [(show (apt 84 83 0 α b [13]) 83 2 = nI 5 from (apt_f (by decide) (by decide)).trans hk)]
    refine ok_V (As := [.int (nI 5), .int (nI 1), .int x, .int (nI (1 + dep))]) (b := 83) (st := []) mkX9_speak qX9_runBody_146 rfl (rc_83) rfl rfl rfl rfl (Nat.le_of_ble_eq_true rfl) (cv5_1_5 (b := (1 + b)) (dep := (1 + dep)) ((apt_f (by decide) (by decide)).trans hk) ((apt_f (by decide) (by decide)).trans hn) ((apt_f (by decide) (by decide)).trans hm) (apt_0 (by decide) hb) (by omega) (by omega)) ?_
    rw [show apt 84 83 0 (apt 84 83 0 α b [13]) (1 + b) [11, 60, 10] = apt 84 83 0 α b [13, 11, 60, 10] from apt_app (by simp)]
    refine ok_step (ps := []) (L' := [some (.ref 83), some (.int (nI 13)), some (.int (nI 0)), some (.int x), some (.int (nI (1 + dep)))]) (st' := [.int (nI (1 + dep)), .int x, .int (nI 2), .int ((apt 84 83 0 α b [13, 11, 60, 10]) 83 2), .ref 83, .int (((x + nu) ^^^ mn) * nI 2)]) (σ' := (apt 84 83 0 α b [13, 11, 60, 10], δ)) (pc' := 158) kX9_runBody_149 rfl rfl rf_a0 ?_
    try rw [(show (apt 84 83 0 α b [13, 11, 60, 10]) 83 2 = nI 5 from (apt_f (by decide) (by decide)).trans hk)]
    refine ok_V (As := [.int (nI 5), .int (nI 2), .int x, .int (nI (1 + dep))]) (b := 83) (st := [.int (((x + nu) ^^^ mn) * nI 2)]) mkX9_speak qX9_runBody_158 rfl (rc_83) rfl rfl rfl rfl (Nat.le_of_ble_eq_true rfl) (cv5_2_5 (b := (4 + b)) (dep := (1 + dep)) ((apt_f (by decide) (by decide)).trans hk) ((apt_f (by decide) (by decide)).trans hn) ((apt_f (by decide) (by decide)).trans hm) (apt_0 (by decide) hb) (by omega) (by omega)) ?_
    rw [show apt 84 83 0 (apt 84 83 0 α b [13, 11, 60, 10]) (4 + b) [12] = apt 84 83 0 α b [13, 11, 60, 10, 12] from apt_app (by simp)]
    refine ok_step (ps := []) (L' := [some (.ref 83), some (.int (nI 13)), some (.int (nI 0)), some (.int x), some (.int (nI (1 + dep)))]) (st' := [.int ((((x + nu) ^^^ mn) * nI 2) ^^^ (x - mn))]) (σ' := (apt 84 83 0 α b [13, 11, 60, 10, 12], δ)) (pc' := 162) kX9_runBody_161 rfl rfl rf_a0 ?_
    refine ok_reti eX9_runBody_162 rfl ?_
    exact ⟨rfl, rfl⟩
  refine ok_V (As := [.int (nI 13), .int (nI 0), .int x, .int (nI (1 + dep))]) (b := 83) (st := []) mkX9_runBody qX9_speak_105 rfl (rc_83) rfl rfl rfl rfl (Nat.le_of_ble_eq_true rfl) (hc105) ?_
  refine ok_reti eX9_speak_108 rfl ?_
  exact ⟨rfl, rfl⟩
theorem cv6_0_6 {x : Int32} {b dep : Nat} (hk : α 83 2 = nI 6) (hn : α 83 3 = nu) (hm : α 83 4 = mn) (hb : α 83 0 = nI b) (hl : b + 1 ≤ 40) (hd : dep + 1 ≤ 30) : rf_At (rf_T Ln xs) MX9_speak 2 0 ([some (.ref 83), some (.int (nI 6)), some (.int (nI 0)), some (.int x), some (.int (nI dep)), none, none], [], 108, (α, δ)) (some (.int (x + nu))) 108 (apt 84 83 0 α b [10], δ) := by
  refine rf_pa ?_
  refine ok_step (ps := []) (L' := [some (.ref 83), some (.int (nI 6)), some (.int (nI 0)), some (.int x), some (.int (nI dep)), some (.int (nI 6)), some (.int (nI 0))]) (st' := []) (σ' := (α, δ)) (pc' := 6) kX9_speak_0 rfl rfl rf_a0 ?_
  refine ok_step (ps := []) (L' := [some (.ref 83), some (.int (nI 6)), some (.int (nI 0)), some (.int x), some (.int (nI dep)), some (.int (nI 6)), some (.int (nI 0))]) (st' := [.int (nI 8), .int (nI 0)]) (σ' := (α, δ)) (pc' := 10) kX9_speak_6 rfl rfl rf_a0 ?_
  refine ok_icmp_ge bX9_speak_10 (fun h10 => absurd h10 ((by decide))) (fun _ => ?_)
  refine ok_step (ps := [rf_in (((nI 6) * (nI 4)) + (nI 0)) 32]) (L' := [some (.ref 83), some (.int (nI 6)), some (.int (nI 0)), some (.int x), some (.int (nI dep)), some (.int (nI 6)), some (.int (nI 0))]) (st' := [.int (tBodies ((((nI 6) * (nI 4)) + (nI 0)).toNatClampNeg))]) (σ' := (α, δ)) (pc' := 23) kX9_speak_13 rfl rfl (rf_a1 (rf_in_n (a := 24) (by (try rw [(show ((nI 6) * (nI 4)) = nI 24 from rf_eq (rf_nmul (x := nI 6) (y := nI 4) rfl rfl) (by omega))]); (try rw [(show ((nI 24) + (nI 0)) = nI 24 from rf_eq (rf_nadd (x := nI 24) (y := nI 0) rfl rfl) (by omega))]); all_goals exact rfl) (by omega)) rf_a0) ?_
  try rw [(show ((nI 6) * (nI 4)) = nI 24 from rf_eq (rf_nmul (x := nI 6) (y := nI 4) rfl rfl) (by omega))]
  try rw [(show ((nI 24) + (nI 0)) = nI 24 from rf_eq (rf_nadd (x := nI 24) (y := nI 0) rfl rfl) (by omega))]
  try rw [(show (nI 24).toNatClampNeg = 24 from rf_cl_n rfl (by omega))]
  try rw [(show tBodies 24 = nI 0 from rfl)]
  refine ok_if_ne bX9_speak_23 (fun h23 => absurd ((by decide)) h23) (fun _ => ?_)
  refine ok_step (ps := [rf_in (nI 6) 8]) (L' := [some (.ref 83), some (.int (nI 6)), some (.int (nI 0)), some (.int x), some (.int (nI dep)), some (.int (tAbove ((nI 6).toNatClampNeg))), some (.int ((nI 0) + (nI 1)))]) (st' := []) (σ' := (α, δ)) (pc' := 37) kX9_speak_26 rfl rfl (rf_a1 (rf_in_n (a := 6) rfl (by omega)) rf_a0) ?_
  try rw [(show (nI 6).toNatClampNeg = 6 from rf_cl_n rfl (by omega))]
  try rw [(show tAbove 6 = nI 1 from rfl)]
  try rw [(show ((nI 0) + (nI 1)) = nI 1 from rf_eq (rf_nadd (x := nI 0) (y := nI 1) rfl rfl) (by omega))]
  refine ok_goto bX9_speak_37 ?_
  refine ok_step (ps := []) (L' := [some (.ref 83), some (.int (nI 6)), some (.int (nI 0)), some (.int x), some (.int (nI dep)), some (.int (nI 1)), some (.int (nI 1))]) (st' := [.int (nI 8), .int (nI 1)]) (σ' := (α, δ)) (pc' := 10) kX9_speak_6 rfl rfl rf_a0 ?_
  refine ok_icmp_ge bX9_speak_10 (fun h10 => absurd h10 ((by decide))) (fun _ => ?_)
  refine ok_step (ps := [rf_in (((nI 1) * (nI 4)) + (nI 0)) 32]) (L' := [some (.ref 83), some (.int (nI 6)), some (.int (nI 0)), some (.int x), some (.int (nI dep)), some (.int (nI 1)), some (.int (nI 1))]) (st' := [.int (tBodies ((((nI 1) * (nI 4)) + (nI 0)).toNatClampNeg))]) (σ' := (α, δ)) (pc' := 23) kX9_speak_13 rfl rfl (rf_a1 (rf_in_n (a := 4) (by (try rw [(show ((nI 1) * (nI 4)) = nI 4 from rf_eq (rf_nmul (x := nI 1) (y := nI 4) rfl rfl) (by omega))]); (try rw [(show ((nI 4) + (nI 0)) = nI 4 from rf_eq (rf_nadd (x := nI 4) (y := nI 0) rfl rfl) (by omega))]); all_goals exact rfl) (by omega)) rf_a0) ?_
  try rw [(show ((nI 1) * (nI 4)) = nI 4 from rf_eq (rf_nmul (x := nI 1) (y := nI 4) rfl rfl) (by omega))]
  try rw [(show ((nI 4) + (nI 0)) = nI 4 from rf_eq (rf_nadd (x := nI 4) (y := nI 0) rfl rfl) (by omega))]
  try rw [(show (nI 4).toNatClampNeg = 4 from rf_cl_n rfl (by omega))]
  try rw [(show tBodies 4 = nI 0 from rfl)]
  refine ok_if_ne bX9_speak_23 (fun h23 => absurd ((by decide)) h23) (fun _ => ?_)
  refine ok_step (ps := [rf_in (nI 1) 8]) (L' := [some (.ref 83), some (.int (nI 6)), some (.int (nI 0)), some (.int x), some (.int (nI dep)), some (.int (tAbove ((nI 1).toNatClampNeg))), some (.int ((nI 1) + (nI 1)))]) (st' := []) (σ' := (α, δ)) (pc' := 37) kX9_speak_26 rfl rfl (rf_a1 (rf_in_n (a := 1) rfl (by omega)) rf_a0) ?_
  try rw [(show (nI 1).toNatClampNeg = 1 from rf_cl_n rfl (by omega))]
  try rw [(show tAbove 1 = nI 0 from rfl)]
  try rw [(show ((nI 1) + (nI 1)) = nI 2 from rf_eq (rf_nadd (x := nI 1) (y := nI 1) rfl rfl) (by omega))]
  refine ok_goto bX9_speak_37 ?_
  refine ok_step (ps := []) (L' := [some (.ref 83), some (.int (nI 6)), some (.int (nI 0)), some (.int x), some (.int (nI dep)), some (.int (nI 0)), some (.int (nI 2))]) (st' := [.int (nI 8), .int (nI 2)]) (σ' := (α, δ)) (pc' := 10) kX9_speak_6 rfl rfl rf_a0 ?_
  refine ok_icmp_ge bX9_speak_10 (fun h10 => absurd h10 ((by decide))) (fun _ => ?_)
  refine ok_step (ps := [rf_in (((nI 0) * (nI 4)) + (nI 0)) 32]) (L' := [some (.ref 83), some (.int (nI 6)), some (.int (nI 0)), some (.int x), some (.int (nI dep)), some (.int (nI 0)), some (.int (nI 2))]) (st' := [.int (tBodies ((((nI 0) * (nI 4)) + (nI 0)).toNatClampNeg))]) (σ' := (α, δ)) (pc' := 23) kX9_speak_13 rfl rfl (rf_a1 (rf_in_n (a := 0) (by (try rw [(show ((nI 0) * (nI 4)) = nI 0 from rf_eq (rf_nmul (x := nI 0) (y := nI 4) rfl rfl) (by omega))]); (try rw [(show ((nI 0) + (nI 0)) = nI 0 from rf_eq (rf_nadd (x := nI 0) (y := nI 0) rfl rfl) (by omega))]); all_goals exact rfl) (by omega)) rf_a0) ?_
  try rw [(show ((nI 0) * (nI 4)) = nI 0 from rf_eq (rf_nmul (x := nI 0) (y := nI 4) rfl rfl) (by omega))]
  try rw [(show ((nI 0) + (nI 0)) = nI 0 from rf_eq (rf_nadd (x := nI 0) (y := nI 0) rfl rfl) (by omega))]
  try rw [(show (nI 0).toNatClampNeg = 0 from rf_cl_n rfl (by omega))]
  try rw [(show tBodies 0 = nI 10 from rfl)]
  refine ok_if_ne bX9_speak_23 (fun _ => ?_) (fun h23 => absurd h23 ((by decide)))
  refine ok_step (ps := []) (L' := [some (.ref 83), some (.int (nI 6)), some (.int (nI 0)), some (.int x), some (.int (nI dep)), some (.int (nI 0)), some (.int (nI 2))]) (st' := [.int (nI 30), .int (nI dep)]) (σ' := (α, δ)) (pc' := 44) kX9_speak_40 rfl rfl rf_a0 ?_
  refine ok_icmp_le bX9_speak_44 (fun _ => ?_) (fun h44 => absurd (nI_le (by omega) (by omega)) h44)
  refine ok_step (ps := [rf_in (((nI 0) * (nI 4)) + (nI 0)) 32]) (L' := [some (.ref 83), some (.int (nI 6)), some (.int (nI 0)), some (.int x), some (.int (nI dep)), some (.int (nI 0)), some (.int (tBodies ((((nI 0) * (nI 4)) + (nI 0)).toNatClampNeg)))]) (st' := [.int (nI 40), .int (α 83 0)]) (σ' := (α, δ)) (pc' := 67) kX9_speak_49 rfl rfl (rf_a1 (rf_in_n (a := 0) (by (try rw [(show ((nI 0) * (nI 4)) = nI 0 from rf_eq (rf_nmul (x := nI 0) (y := nI 4) rfl rfl) (by omega))]); (try rw [(show ((nI 0) + (nI 0)) = nI 0 from rf_eq (rf_nadd (x := nI 0) (y := nI 0) rfl rfl) (by omega))]); all_goals exact rfl) (by omega)) rf_a0) ?_
  try rw [(show ((nI 0) * (nI 4)) = nI 0 from rf_eq (rf_nmul (x := nI 0) (y := nI 4) rfl rfl) (by omega))]
  try rw [(show ((nI 0) + (nI 0)) = nI 0 from rf_eq (rf_nadd (x := nI 0) (y := nI 0) rfl rfl) (by omega))]
  try rw [(show (nI 0).toNatClampNeg = 0 from rf_cl_n rfl (by omega))]
  try rw [(show tBodies 0 = nI 10 from rfl)]
  try rw [(show α 83 0 = nI b from hb)]
  refine ok_icmp_ge bX9_speak_67 (fun h67 => absurd h67 (nI_ge (by omega) (by omega))) (fun _ => ?_)
  refine ok_step (ps := [rf_in (α 83 0) 40]) (L' := [some (.ref 83), some (.int (nI 6)), some (.int (nI 0)), some (.int x), some (.int (nI dep)), some (.int (nI 0)), some (.int (nI 10))]) (st' := []) (σ' := (rf_w (rf_w α 84 ((α 83 0).toNatClampNeg) (nI 10)) 83 0 (((rf_w α 84 ((α 83 0).toNatClampNeg) (nI 10)) 83 0) + (nI 1)), δ)) (pc' := 91) kX9_speak_70 rfl rfl (rf_a1 (rf_in_n (a := b) (by (try rw [(show α 83 0 = nI b from hb)]); all_goals exact rfl) (by omega)) rf_a0) ?_
  try rw [(show α 83 0 = nI b from hb)]
  try rw [(show (nI b).toNatClampNeg = b from rf_cl_n rfl (by omega))]
  try rw [(show (rf_w α 84 b (nI 10)) 83 0 = α 83 0 from by rw [rf_w_at, if_neg (fun h => absurd h.1 (by decide))])]
  try rw [(show α 83 0 = nI b from hb)]
  try rw [(show ((nI b) + (nI 1)) = nI (1 + b) from rf_eq (rf_nadd (x := nI b) (y := nI 1) rfl rfl) (by omega))]
  rw [show rf_w (rf_w α 84 b (nI 10)) 83 0 (nI (1 + b)) = apt 84 83 0 α b [10] from apt_w (L := []) (by simp) (by omega)]
  refine ok_step (ps := [rf_in (nI 0) 8]) (L' := [some (.ref 83), some (.int (nI 6)), some (.int (nI 0)), some (.int x), some (.int (nI dep)), some (.int (nI 0)), some (.int (nI 10))]) (st' := [.int ((nI dep) + (nI 1)), .int x, .int (tAbove ((nI 0).toNatClampNeg)), .int (nI 10), .ref 83]) (σ' := (apt 84 83 0 α b [10], δ)) (pc' := 105) kX9_speak_91 rfl rfl (rf_a1 (rf_in_n (a := 0) rfl (by omega)) rf_a0) ?_
  try rw [(show (nI 0).toNatClampNeg = 0 from rf_cl_n rfl (by omega))]
  try rw [(show tAbove 0 = nI 0 from rfl)]
  try rw [(show ((nI dep) + (nI 1)) = nI (1 + dep) from rf_eq (rf_nadd (x := nI dep) (y := nI 1) rfl rfl) (by omega))]
  have hc105 : rf_At (rf_T Ln xs) MX9_runBody 1 0 ([some (.ref 83), some (.int (nI 10)), some (.int (nI 0)), some (.int x), some (.int (nI (1 + dep)))], [], 108, (apt 84 83 0 α b [10], δ)) (some (.int (x + nu))) 108 (apt 84 83 0 α b [10], δ) := by
    refine rf_pa ?_
    refine ok_step (ps := []) (L' := [some (.ref 83), some (.int (nI 10)), some (.int (nI 0)), some (.int x), some (.int (nI (1 + dep)))]) (st' := [.int (nI 10)]) (σ' := (apt 84 83 0 α b [10], δ)) (pc' := 1) kX9_runBody_0 rfl rfl rf_a0 ?_
    refine ok_lkk (q := (10, 107)) (t := 108) bX9_runBody_1 (by decide) (by decide) (by decide) (by decide) ?_
    refine ok_step (ps := []) (L' := [some (.ref 83), some (.int (nI 10)), some (.int (nI 0)), some (.int x), some (.int (nI (1 + dep)))]) (st' := [.int (x + ((apt 84 83 0 α b [10]) 83 3))]) (σ' := (apt 84 83 0 α b [10], δ)) (pc' := 114) kX9_runBody_108 rfl rfl rf_a0 ?_
    try rw [(show (apt 84 83 0 α b [10]) 83 3 = nu from (apt_f (by decide) (by decide)).trans hn)]
    refine ok_reti eX9_runBody_114 rfl ?_
    exact ⟨rfl, rfl⟩
  refine ok_V (As := [.int (nI 10), .int (nI 0), .int x, .int (nI (1 + dep))]) (b := 83) (st := []) mkX9_runBody qX9_speak_105 rfl (rc_83) rfl rfl rfl rfl (Nat.le_of_ble_eq_true rfl) (hc105) ?_
  refine ok_reti eX9_speak_108 rfl ?_
  exact ⟨rfl, rfl⟩
theorem cv6_1_6 {x : Int32} {b dep : Nat} (hk : α 83 2 = nI 6) (hn : α 83 3 = nu) (hm : α 83 4 = mn) (hb : α 83 0 = nI b) (hl : b + 2 ≤ 40) (hd : dep + 2 ≤ 30) : rf_At (rf_T Ln xs) MX9_speak 4 0 ([some (.ref 83), some (.int (nI 6)), some (.int (nI 1)), some (.int x), some (.int (nI dep)), none, none], [], 108, (α, δ)) (some (.int ((x + nu) * nI 2))) 108 (apt 84 83 0 α b [11, 10], δ) := by
  refine rf_pa ?_
  refine ok_step (ps := []) (L' := [some (.ref 83), some (.int (nI 6)), some (.int (nI 1)), some (.int x), some (.int (nI dep)), some (.int (nI 6)), some (.int (nI 0))]) (st' := []) (σ' := (α, δ)) (pc' := 6) kX9_speak_0 rfl rfl rf_a0 ?_
  refine ok_step (ps := []) (L' := [some (.ref 83), some (.int (nI 6)), some (.int (nI 1)), some (.int x), some (.int (nI dep)), some (.int (nI 6)), some (.int (nI 0))]) (st' := [.int (nI 8), .int (nI 0)]) (σ' := (α, δ)) (pc' := 10) kX9_speak_6 rfl rfl rf_a0 ?_
  refine ok_icmp_ge bX9_speak_10 (fun h10 => absurd h10 ((by decide))) (fun _ => ?_)
  refine ok_step (ps := [rf_in (((nI 6) * (nI 4)) + (nI 1)) 32]) (L' := [some (.ref 83), some (.int (nI 6)), some (.int (nI 1)), some (.int x), some (.int (nI dep)), some (.int (nI 6)), some (.int (nI 0))]) (st' := [.int (tBodies ((((nI 6) * (nI 4)) + (nI 1)).toNatClampNeg))]) (σ' := (α, δ)) (pc' := 23) kX9_speak_13 rfl rfl (rf_a1 (rf_in_n (a := 25) (by (try rw [(show ((nI 6) * (nI 4)) = nI 24 from rf_eq (rf_nmul (x := nI 6) (y := nI 4) rfl rfl) (by omega))]); (try rw [(show ((nI 24) + (nI 1)) = nI 25 from rf_eq (rf_nadd (x := nI 24) (y := nI 1) rfl rfl) (by omega))]); all_goals exact rfl) (by omega)) rf_a0) ?_
  try rw [(show ((nI 6) * (nI 4)) = nI 24 from rf_eq (rf_nmul (x := nI 6) (y := nI 4) rfl rfl) (by omega))]
  try rw [(show ((nI 24) + (nI 1)) = nI 25 from rf_eq (rf_nadd (x := nI 24) (y := nI 1) rfl rfl) (by omega))]
  try rw [(show (nI 25).toNatClampNeg = 25 from rf_cl_n rfl (by omega))]
  try rw [(show tBodies 25 = nI 0 from rfl)]
  refine ok_if_ne bX9_speak_23 (fun h23 => absurd ((by decide)) h23) (fun _ => ?_)
  refine ok_step (ps := [rf_in (nI 6) 8]) (L' := [some (.ref 83), some (.int (nI 6)), some (.int (nI 1)), some (.int x), some (.int (nI dep)), some (.int (tAbove ((nI 6).toNatClampNeg))), some (.int ((nI 0) + (nI 1)))]) (st' := []) (σ' := (α, δ)) (pc' := 37) kX9_speak_26 rfl rfl (rf_a1 (rf_in_n (a := 6) rfl (by omega)) rf_a0) ?_
  try rw [(show (nI 6).toNatClampNeg = 6 from rf_cl_n rfl (by omega))]
  try rw [(show tAbove 6 = nI 1 from rfl)]
  try rw [(show ((nI 0) + (nI 1)) = nI 1 from rf_eq (rf_nadd (x := nI 0) (y := nI 1) rfl rfl) (by omega))]
  refine ok_goto bX9_speak_37 ?_
  refine ok_step (ps := []) (L' := [some (.ref 83), some (.int (nI 6)), some (.int (nI 1)), some (.int x), some (.int (nI dep)), some (.int (nI 1)), some (.int (nI 1))]) (st' := [.int (nI 8), .int (nI 1)]) (σ' := (α, δ)) (pc' := 10) kX9_speak_6 rfl rfl rf_a0 ?_
  refine ok_icmp_ge bX9_speak_10 (fun h10 => absurd h10 ((by decide))) (fun _ => ?_)
  refine ok_step (ps := [rf_in (((nI 1) * (nI 4)) + (nI 1)) 32]) (L' := [some (.ref 83), some (.int (nI 6)), some (.int (nI 1)), some (.int x), some (.int (nI dep)), some (.int (nI 1)), some (.int (nI 1))]) (st' := [.int (tBodies ((((nI 1) * (nI 4)) + (nI 1)).toNatClampNeg))]) (σ' := (α, δ)) (pc' := 23) kX9_speak_13 rfl rfl (rf_a1 (rf_in_n (a := 5) (by (try rw [(show ((nI 1) * (nI 4)) = nI 4 from rf_eq (rf_nmul (x := nI 1) (y := nI 4) rfl rfl) (by omega))]); (try rw [(show ((nI 4) + (nI 1)) = nI 5 from rf_eq (rf_nadd (x := nI 4) (y := nI 1) rfl rfl) (by omega))]); all_goals exact rfl) (by omega)) rf_a0) ?_
  try rw [(show ((nI 1) * (nI 4)) = nI 4 from rf_eq (rf_nmul (x := nI 1) (y := nI 4) rfl rfl) (by omega))]
  try rw [(show ((nI 4) + (nI 1)) = nI 5 from rf_eq (rf_nadd (x := nI 4) (y := nI 1) rfl rfl) (by omega))]
  try rw [(show (nI 5).toNatClampNeg = 5 from rf_cl_n rfl (by omega))]
  try rw [(show tBodies 5 = nI 0 from rfl)]
  refine ok_if_ne bX9_speak_23 (fun h23 => absurd ((by decide)) h23) (fun _ => ?_)
  refine ok_step (ps := [rf_in (nI 1) 8]) (L' := [some (.ref 83), some (.int (nI 6)), some (.int (nI 1)), some (.int x), some (.int (nI dep)), some (.int (tAbove ((nI 1).toNatClampNeg))), some (.int ((nI 1) + (nI 1)))]) (st' := []) (σ' := (α, δ)) (pc' := 37) kX9_speak_26 rfl rfl (rf_a1 (rf_in_n (a := 1) rfl (by omega)) rf_a0) ?_
  try rw [(show (nI 1).toNatClampNeg = 1 from rf_cl_n rfl (by omega))]
  try rw [(show tAbove 1 = nI 0 from rfl)]
  try rw [(show ((nI 1) + (nI 1)) = nI 2 from rf_eq (rf_nadd (x := nI 1) (y := nI 1) rfl rfl) (by omega))]
  refine ok_goto bX9_speak_37 ?_
  refine ok_step (ps := []) (L' := [some (.ref 83), some (.int (nI 6)), some (.int (nI 1)), some (.int x), some (.int (nI dep)), some (.int (nI 0)), some (.int (nI 2))]) (st' := [.int (nI 8), .int (nI 2)]) (σ' := (α, δ)) (pc' := 10) kX9_speak_6 rfl rfl rf_a0 ?_
  refine ok_icmp_ge bX9_speak_10 (fun h10 => absurd h10 ((by decide))) (fun _ => ?_)
  refine ok_step (ps := [rf_in (((nI 0) * (nI 4)) + (nI 1)) 32]) (L' := [some (.ref 83), some (.int (nI 6)), some (.int (nI 1)), some (.int x), some (.int (nI dep)), some (.int (nI 0)), some (.int (nI 2))]) (st' := [.int (tBodies ((((nI 0) * (nI 4)) + (nI 1)).toNatClampNeg))]) (σ' := (α, δ)) (pc' := 23) kX9_speak_13 rfl rfl (rf_a1 (rf_in_n (a := 1) (by (try rw [(show ((nI 0) * (nI 4)) = nI 0 from rf_eq (rf_nmul (x := nI 0) (y := nI 4) rfl rfl) (by omega))]); (try rw [(show ((nI 0) + (nI 1)) = nI 1 from rf_eq (rf_nadd (x := nI 0) (y := nI 1) rfl rfl) (by omega))]); all_goals exact rfl) (by omega)) rf_a0) ?_
  try rw [(show ((nI 0) * (nI 4)) = nI 0 from rf_eq (rf_nmul (x := nI 0) (y := nI 4) rfl rfl) (by omega))]
  try rw [(show ((nI 0) + (nI 1)) = nI 1 from rf_eq (rf_nadd (x := nI 0) (y := nI 1) rfl rfl) (by omega))]
  try rw [(show (nI 1).toNatClampNeg = 1 from rf_cl_n rfl (by omega))]
  try rw [(show tBodies 1 = nI 11 from rfl)]
  refine ok_if_ne bX9_speak_23 (fun _ => ?_) (fun h23 => absurd h23 ((by decide)))
  refine ok_step (ps := []) (L' := [some (.ref 83), some (.int (nI 6)), some (.int (nI 1)), some (.int x), some (.int (nI dep)), some (.int (nI 0)), some (.int (nI 2))]) (st' := [.int (nI 30), .int (nI dep)]) (σ' := (α, δ)) (pc' := 44) kX9_speak_40 rfl rfl rf_a0 ?_
  refine ok_icmp_le bX9_speak_44 (fun _ => ?_) (fun h44 => absurd (nI_le (by omega) (by omega)) h44)
  refine ok_step (ps := [rf_in (((nI 0) * (nI 4)) + (nI 1)) 32]) (L' := [some (.ref 83), some (.int (nI 6)), some (.int (nI 1)), some (.int x), some (.int (nI dep)), some (.int (nI 0)), some (.int (tBodies ((((nI 0) * (nI 4)) + (nI 1)).toNatClampNeg)))]) (st' := [.int (nI 40), .int (α 83 0)]) (σ' := (α, δ)) (pc' := 67) kX9_speak_49 rfl rfl (rf_a1 (rf_in_n (a := 1) (by (try rw [(show ((nI 0) * (nI 4)) = nI 0 from rf_eq (rf_nmul (x := nI 0) (y := nI 4) rfl rfl) (by omega))]); (try rw [(show ((nI 0) + (nI 1)) = nI 1 from rf_eq (rf_nadd (x := nI 0) (y := nI 1) rfl rfl) (by omega))]); all_goals exact rfl) (by omega)) rf_a0) ?_
  try rw [(show ((nI 0) * (nI 4)) = nI 0 from rf_eq (rf_nmul (x := nI 0) (y := nI 4) rfl rfl) (by omega))]
  try rw [(show ((nI 0) + (nI 1)) = nI 1 from rf_eq (rf_nadd (x := nI 0) (y := nI 1) rfl rfl) (by omega))]
  try rw [(show (nI 1).toNatClampNeg = 1 from rf_cl_n rfl (by omega))]
  try rw [(show tBodies 1 = nI 11 from rfl)]
  try rw [(show α 83 0 = nI b from hb)]
  refine ok_icmp_ge bX9_speak_67 (fun h67 => absurd h67 (nI_ge (by omega) (by omega))) (fun _ => ?_)
  refine ok_step (ps := [rf_in (α 83 0) 40]) (L' := [some (.ref 83), some (.int (nI 6)), some (.int (nI 1)), some (.int x), some (.int (nI dep)), some (.int (nI 0)), some (.int (nI 11))]) (st' := []) (σ' := (rf_w (rf_w α 84 ((α 83 0).toNatClampNeg) (nI 11)) 83 0 (((rf_w α 84 ((α 83 0).toNatClampNeg) (nI 11)) 83 0) + (nI 1)), δ)) (pc' := 91) kX9_speak_70 rfl rfl (rf_a1 (rf_in_n (a := b) (by (try rw [(show α 83 0 = nI b from hb)]); all_goals exact rfl) (by omega)) rf_a0) ?_
  try rw [(show α 83 0 = nI b from hb)]
  try rw [(show (nI b).toNatClampNeg = b from rf_cl_n rfl (by omega))]
  try rw [(show (rf_w α 84 b (nI 11)) 83 0 = α 83 0 from by rw [rf_w_at, if_neg (fun h => absurd h.1 (by decide))])]
  try rw [(show α 83 0 = nI b from hb)]
  try rw [(show ((nI b) + (nI 1)) = nI (1 + b) from rf_eq (rf_nadd (x := nI b) (y := nI 1) rfl rfl) (by omega))]
  rw [show rf_w (rf_w α 84 b (nI 11)) 83 0 (nI (1 + b)) = apt 84 83 0 α b [11] from apt_w (L := []) (by simp) (by omega)]
  refine ok_step (ps := [rf_in (nI 0) 8]) (L' := [some (.ref 83), some (.int (nI 6)), some (.int (nI 1)), some (.int x), some (.int (nI dep)), some (.int (nI 0)), some (.int (nI 11))]) (st' := [.int ((nI dep) + (nI 1)), .int x, .int (tAbove ((nI 0).toNatClampNeg)), .int (nI 11), .ref 83]) (σ' := (apt 84 83 0 α b [11], δ)) (pc' := 105) kX9_speak_91 rfl rfl (rf_a1 (rf_in_n (a := 0) rfl (by omega)) rf_a0) ?_
  try rw [(show (nI 0).toNatClampNeg = 0 from rf_cl_n rfl (by omega))]
  try rw [(show tAbove 0 = nI 0 from rfl)]
  try rw [(show ((nI dep) + (nI 1)) = nI (1 + dep) from rf_eq (rf_nadd (x := nI dep) (y := nI 1) rfl rfl) (by omega))]
  have hc105 : rf_At (rf_T Ln xs) MX9_runBody 3 0 ([some (.ref 83), some (.int (nI 11)), some (.int (nI 0)), some (.int x), some (.int (nI (1 + dep)))], [], 108, (apt 84 83 0 α b [11], δ)) (some (.int ((x + nu) * (nI 2)))) 108 (apt 84 83 0 α b [11, 10], δ) := by
    refine rf_pa ?_
    refine ok_step (ps := []) (L' := [some (.ref 83), some (.int (nI 11)), some (.int (nI 0)), some (.int x), some (.int (nI (1 + dep)))]) (st' := [.int (nI 11)]) (σ' := (apt 84 83 0 α b [11], δ)) (pc' := 1) kX9_runBody_0 rfl rfl rf_a0 ?_
    refine ok_lkk (q := (11, 114)) (t := 115) bX9_runBody_1 (by decide) (by decide) (by decide) (by decide) ?_
    refine ok_step (ps := []) (L' := [some (.ref 83), some (.int (nI 11)), some (.int (nI 0)), some (.int x), some (.int (nI (1 + dep)))]) (st' := [.int (nI (1 + dep)), .int x, .int (nI 0), .int ((apt 84 83 0 α b [11]) 83 2), .ref 83]) (σ' := (apt 84 83 0 α b [11], δ)) (pc' := 124) kX9_runBody_115 rfl rfl rf_a0 ?_
    try rw [(show (apt 84 83 0 α b [11]) 83 2 = nI 6 from (apt_f (by decide) (by decide)).trans hk)]
    refine ok_V (As := [.int (nI 6), .int (nI 0), .int x, .int (nI (1 + dep))]) (b := 83) (st := []) mkX9_speak qX9_runBody_124 rfl (rc_83) rfl rfl rfl rfl (Nat.le_of_ble_eq_true rfl) (cv6_0_6 (b := (1 + b)) (dep := (1 + dep)) ((apt_f (by decide) (by decide)).trans hk) ((apt_f (by decide) (by decide)).trans hn) ((apt_f (by decide) (by decide)).trans hm) (apt_0 (by decide) hb) (by omega) (by omega)) ?_
    rw [show apt 84 83 0 (apt 84 83 0 α b [11]) (1 + b) [10] = apt 84 83 0 α b [11, 10] from apt_app (by simp)]
    refine ok_step (ps := []) (L' := [some (.ref 83), some (.int (nI 11)), some (.int (nI 0)), some (.int x), some (.int (nI (1 + dep)))]) (st' := [.int ((x + nu) * (nI 2))]) (σ' := (apt 84 83 0 α b [11, 10], δ)) (pc' := 129) kX9_runBody_127 rfl rfl rf_a0 ?_
    refine ok_reti eX9_runBody_129 rfl ?_
    exact ⟨rfl, rfl⟩
  refine ok_V (As := [.int (nI 11), .int (nI 0), .int x, .int (nI (1 + dep))]) (b := 83) (st := []) mkX9_runBody qX9_speak_105 rfl (rc_83) rfl rfl rfl rfl (Nat.le_of_ble_eq_true rfl) (hc105) ?_
  refine ok_reti eX9_speak_108 rfl ?_
  exact ⟨rfl, rfl⟩
theorem cv6_2_6 {x : Int32} {b dep : Nat} (hk : α 83 2 = nI 6) (hn : α 83 3 = nu) (hm : α 83 4 = mn) (hb : α 83 0 = nI b) (hl : b + 1 ≤ 40) (hd : dep + 1 ≤ 30) : rf_At (rf_T Ln xs) MX9_speak 2 0 ([some (.ref 83), some (.int (nI 6)), some (.int (nI 2)), some (.int x), some (.int (nI dep)), none, none], [], 108, (α, δ)) (some (.int (x - mn))) 108 (apt 84 83 0 α b [12], δ) := by
  refine rf_pa ?_
  refine ok_step (ps := []) (L' := [some (.ref 83), some (.int (nI 6)), some (.int (nI 2)), some (.int x), some (.int (nI dep)), some (.int (nI 6)), some (.int (nI 0))]) (st' := []) (σ' := (α, δ)) (pc' := 6) kX9_speak_0 rfl rfl rf_a0 ?_
  refine ok_step (ps := []) (L' := [some (.ref 83), some (.int (nI 6)), some (.int (nI 2)), some (.int x), some (.int (nI dep)), some (.int (nI 6)), some (.int (nI 0))]) (st' := [.int (nI 8), .int (nI 0)]) (σ' := (α, δ)) (pc' := 10) kX9_speak_6 rfl rfl rf_a0 ?_
  refine ok_icmp_ge bX9_speak_10 (fun h10 => absurd h10 ((by decide))) (fun _ => ?_)
  refine ok_step (ps := [rf_in (((nI 6) * (nI 4)) + (nI 2)) 32]) (L' := [some (.ref 83), some (.int (nI 6)), some (.int (nI 2)), some (.int x), some (.int (nI dep)), some (.int (nI 6)), some (.int (nI 0))]) (st' := [.int (tBodies ((((nI 6) * (nI 4)) + (nI 2)).toNatClampNeg))]) (σ' := (α, δ)) (pc' := 23) kX9_speak_13 rfl rfl (rf_a1 (rf_in_n (a := 26) (by (try rw [(show ((nI 6) * (nI 4)) = nI 24 from rf_eq (rf_nmul (x := nI 6) (y := nI 4) rfl rfl) (by omega))]); (try rw [(show ((nI 24) + (nI 2)) = nI 26 from rf_eq (rf_nadd (x := nI 24) (y := nI 2) rfl rfl) (by omega))]); all_goals exact rfl) (by omega)) rf_a0) ?_
  try rw [(show ((nI 6) * (nI 4)) = nI 24 from rf_eq (rf_nmul (x := nI 6) (y := nI 4) rfl rfl) (by omega))]
  try rw [(show ((nI 24) + (nI 2)) = nI 26 from rf_eq (rf_nadd (x := nI 24) (y := nI 2) rfl rfl) (by omega))]
  try rw [(show (nI 26).toNatClampNeg = 26 from rf_cl_n rfl (by omega))]
  try rw [(show tBodies 26 = nI 0 from rfl)]
  refine ok_if_ne bX9_speak_23 (fun h23 => absurd ((by decide)) h23) (fun _ => ?_)
  refine ok_step (ps := [rf_in (nI 6) 8]) (L' := [some (.ref 83), some (.int (nI 6)), some (.int (nI 2)), some (.int x), some (.int (nI dep)), some (.int (tAbove ((nI 6).toNatClampNeg))), some (.int ((nI 0) + (nI 1)))]) (st' := []) (σ' := (α, δ)) (pc' := 37) kX9_speak_26 rfl rfl (rf_a1 (rf_in_n (a := 6) rfl (by omega)) rf_a0) ?_
  try rw [(show (nI 6).toNatClampNeg = 6 from rf_cl_n rfl (by omega))]
  try rw [(show tAbove 6 = nI 1 from rfl)]
  try rw [(show ((nI 0) + (nI 1)) = nI 1 from rf_eq (rf_nadd (x := nI 0) (y := nI 1) rfl rfl) (by omega))]
  refine ok_goto bX9_speak_37 ?_
  refine ok_step (ps := []) (L' := [some (.ref 83), some (.int (nI 6)), some (.int (nI 2)), some (.int x), some (.int (nI dep)), some (.int (nI 1)), some (.int (nI 1))]) (st' := [.int (nI 8), .int (nI 1)]) (σ' := (α, δ)) (pc' := 10) kX9_speak_6 rfl rfl rf_a0 ?_
  refine ok_icmp_ge bX9_speak_10 (fun h10 => absurd h10 ((by decide))) (fun _ => ?_)
  refine ok_step (ps := [rf_in (((nI 1) * (nI 4)) + (nI 2)) 32]) (L' := [some (.ref 83), some (.int (nI 6)), some (.int (nI 2)), some (.int x), some (.int (nI dep)), some (.int (nI 1)), some (.int (nI 1))]) (st' := [.int (tBodies ((((nI 1) * (nI 4)) + (nI 2)).toNatClampNeg))]) (σ' := (α, δ)) (pc' := 23) kX9_speak_13 rfl rfl (rf_a1 (rf_in_n (a := 6) (by (try rw [(show ((nI 1) * (nI 4)) = nI 4 from rf_eq (rf_nmul (x := nI 1) (y := nI 4) rfl rfl) (by omega))]); (try rw [(show ((nI 4) + (nI 2)) = nI 6 from rf_eq (rf_nadd (x := nI 4) (y := nI 2) rfl rfl) (by omega))]); all_goals exact rfl) (by omega)) rf_a0) ?_
  try rw [(show ((nI 1) * (nI 4)) = nI 4 from rf_eq (rf_nmul (x := nI 1) (y := nI 4) rfl rfl) (by omega))]
  try rw [(show ((nI 4) + (nI 2)) = nI 6 from rf_eq (rf_nadd (x := nI 4) (y := nI 2) rfl rfl) (by omega))]
  try rw [(show (nI 6).toNatClampNeg = 6 from rf_cl_n rfl (by omega))]
  try rw [(show tBodies 6 = nI 0 from rfl)]
  refine ok_if_ne bX9_speak_23 (fun h23 => absurd ((by decide)) h23) (fun _ => ?_)
  refine ok_step (ps := [rf_in (nI 1) 8]) (L' := [some (.ref 83), some (.int (nI 6)), some (.int (nI 2)), some (.int x), some (.int (nI dep)), some (.int (tAbove ((nI 1).toNatClampNeg))), some (.int ((nI 1) + (nI 1)))]) (st' := []) (σ' := (α, δ)) (pc' := 37) kX9_speak_26 rfl rfl (rf_a1 (rf_in_n (a := 1) rfl (by omega)) rf_a0) ?_
  try rw [(show (nI 1).toNatClampNeg = 1 from rf_cl_n rfl (by omega))]
  try rw [(show tAbove 1 = nI 0 from rfl)]
  try rw [(show ((nI 1) + (nI 1)) = nI 2 from rf_eq (rf_nadd (x := nI 1) (y := nI 1) rfl rfl) (by omega))]
  refine ok_goto bX9_speak_37 ?_
  refine ok_step (ps := []) (L' := [some (.ref 83), some (.int (nI 6)), some (.int (nI 2)), some (.int x), some (.int (nI dep)), some (.int (nI 0)), some (.int (nI 2))]) (st' := [.int (nI 8), .int (nI 2)]) (σ' := (α, δ)) (pc' := 10) kX9_speak_6 rfl rfl rf_a0 ?_
  refine ok_icmp_ge bX9_speak_10 (fun h10 => absurd h10 ((by decide))) (fun _ => ?_)
  refine ok_step (ps := [rf_in (((nI 0) * (nI 4)) + (nI 2)) 32]) (L' := [some (.ref 83), some (.int (nI 6)), some (.int (nI 2)), some (.int x), some (.int (nI dep)), some (.int (nI 0)), some (.int (nI 2))]) (st' := [.int (tBodies ((((nI 0) * (nI 4)) + (nI 2)).toNatClampNeg))]) (σ' := (α, δ)) (pc' := 23) kX9_speak_13 rfl rfl (rf_a1 (rf_in_n (a := 2) (by (try rw [(show ((nI 0) * (nI 4)) = nI 0 from rf_eq (rf_nmul (x := nI 0) (y := nI 4) rfl rfl) (by omega))]); (try rw [(show ((nI 0) + (nI 2)) = nI 2 from rf_eq (rf_nadd (x := nI 0) (y := nI 2) rfl rfl) (by omega))]); all_goals exact rfl) (by omega)) rf_a0) ?_
  try rw [(show ((nI 0) * (nI 4)) = nI 0 from rf_eq (rf_nmul (x := nI 0) (y := nI 4) rfl rfl) (by omega))]
  try rw [(show ((nI 0) + (nI 2)) = nI 2 from rf_eq (rf_nadd (x := nI 0) (y := nI 2) rfl rfl) (by omega))]
  try rw [(show (nI 2).toNatClampNeg = 2 from rf_cl_n rfl (by omega))]
  try rw [(show tBodies 2 = nI 12 from rfl)]
  refine ok_if_ne bX9_speak_23 (fun _ => ?_) (fun h23 => absurd h23 ((by decide)))
  refine ok_step (ps := []) (L' := [some (.ref 83), some (.int (nI 6)), some (.int (nI 2)), some (.int x), some (.int (nI dep)), some (.int (nI 0)), some (.int (nI 2))]) (st' := [.int (nI 30), .int (nI dep)]) (σ' := (α, δ)) (pc' := 44) kX9_speak_40 rfl rfl rf_a0 ?_
  refine ok_icmp_le bX9_speak_44 (fun _ => ?_) (fun h44 => absurd (nI_le (by omega) (by omega)) h44)
  refine ok_step (ps := [rf_in (((nI 0) * (nI 4)) + (nI 2)) 32]) (L' := [some (.ref 83), some (.int (nI 6)), some (.int (nI 2)), some (.int x), some (.int (nI dep)), some (.int (nI 0)), some (.int (tBodies ((((nI 0) * (nI 4)) + (nI 2)).toNatClampNeg)))]) (st' := [.int (nI 40), .int (α 83 0)]) (σ' := (α, δ)) (pc' := 67) kX9_speak_49 rfl rfl (rf_a1 (rf_in_n (a := 2) (by (try rw [(show ((nI 0) * (nI 4)) = nI 0 from rf_eq (rf_nmul (x := nI 0) (y := nI 4) rfl rfl) (by omega))]); (try rw [(show ((nI 0) + (nI 2)) = nI 2 from rf_eq (rf_nadd (x := nI 0) (y := nI 2) rfl rfl) (by omega))]); all_goals exact rfl) (by omega)) rf_a0) ?_
  try rw [(show ((nI 0) * (nI 4)) = nI 0 from rf_eq (rf_nmul (x := nI 0) (y := nI 4) rfl rfl) (by omega))]
  try rw [(show ((nI 0) + (nI 2)) = nI 2 from rf_eq (rf_nadd (x := nI 0) (y := nI 2) rfl rfl) (by omega))]
  try rw [(show (nI 2).toNatClampNeg = 2 from rf_cl_n rfl (by omega))]
  try rw [(show tBodies 2 = nI 12 from rfl)]
  try rw [(show α 83 0 = nI b from hb)]
  refine ok_icmp_ge bX9_speak_67 (fun h67 => absurd h67 (nI_ge (by omega) (by omega))) (fun _ => ?_)
  refine ok_step (ps := [rf_in (α 83 0) 40]) (L' := [some (.ref 83), some (.int (nI 6)), some (.int (nI 2)), some (.int x), some (.int (nI dep)), some (.int (nI 0)), some (.int (nI 12))]) (st' := []) (σ' := (rf_w (rf_w α 84 ((α 83 0).toNatClampNeg) (nI 12)) 83 0 (((rf_w α 84 ((α 83 0).toNatClampNeg) (nI 12)) 83 0) + (nI 1)), δ)) (pc' := 91) kX9_speak_70 rfl rfl (rf_a1 (rf_in_n (a := b) (by (try rw [(show α 83 0 = nI b from hb)]); all_goals exact rfl) (by omega)) rf_a0) ?_
  try rw [(show α 83 0 = nI b from hb)]
  try rw [(show (nI b).toNatClampNeg = b from rf_cl_n rfl (by omega))]
  try rw [(show (rf_w α 84 b (nI 12)) 83 0 = α 83 0 from by rw [rf_w_at, if_neg (fun h => absurd h.1 (by decide))])]
  try rw [(show α 83 0 = nI b from hb)]
  try rw [(show ((nI b) + (nI 1)) = nI (1 + b) from rf_eq (rf_nadd (x := nI b) (y := nI 1) rfl rfl) (by omega))]
  rw [show rf_w (rf_w α 84 b (nI 12)) 83 0 (nI (1 + b)) = apt 84 83 0 α b [12] from apt_w (L := []) (by simp) (by omega)]
  refine ok_step (ps := [rf_in (nI 0) 8]) (L' := [some (.ref 83), some (.int (nI 6)), some (.int (nI 2)), some (.int x), some (.int (nI dep)), some (.int (nI 0)), some (.int (nI 12))]) (st' := [.int ((nI dep) + (nI 1)), .int x, .int (tAbove ((nI 0).toNatClampNeg)), .int (nI 12), .ref 83]) (σ' := (apt 84 83 0 α b [12], δ)) (pc' := 105) kX9_speak_91 rfl rfl (rf_a1 (rf_in_n (a := 0) rfl (by omega)) rf_a0) ?_
  try rw [(show (nI 0).toNatClampNeg = 0 from rf_cl_n rfl (by omega))]
  try rw [(show tAbove 0 = nI 0 from rfl)]
  try rw [(show ((nI dep) + (nI 1)) = nI (1 + dep) from rf_eq (rf_nadd (x := nI dep) (y := nI 1) rfl rfl) (by omega))]
  have hc105 : rf_At (rf_T Ln xs) MX9_runBody 1 0 ([some (.ref 83), some (.int (nI 12)), some (.int (nI 0)), some (.int x), some (.int (nI (1 + dep)))], [], 108, (apt 84 83 0 α b [12], δ)) (some (.int (x - mn))) 108 (apt 84 83 0 α b [12], δ) := by
    refine rf_pa ?_
    refine ok_step (ps := []) (L' := [some (.ref 83), some (.int (nI 12)), some (.int (nI 0)), some (.int x), some (.int (nI (1 + dep)))]) (st' := [.int (nI 12)]) (σ' := (apt 84 83 0 α b [12], δ)) (pc' := 1) kX9_runBody_0 rfl rfl rf_a0 ?_
    refine ok_lkk (q := (12, 129)) (t := 130) bX9_runBody_1 (by decide) (by decide) (by decide) (by decide) ?_
    refine ok_step (ps := []) (L' := [some (.ref 83), some (.int (nI 12)), some (.int (nI 0)), some (.int x), some (.int (nI (1 + dep)))]) (st' := [.int (x - ((apt 84 83 0 α b [12]) 83 4))]) (σ' := (apt 84 83 0 α b [12], δ)) (pc' := 136) kX9_runBody_130 rfl rfl rf_a0 ?_
    try rw [(show (apt 84 83 0 α b [12]) 83 4 = mn from (apt_f (by decide) (by decide)).trans hm)]
    refine ok_reti eX9_runBody_136 rfl ?_
    exact ⟨rfl, rfl⟩
  refine ok_V (As := [.int (nI 12), .int (nI 0), .int x, .int (nI (1 + dep))]) (b := 83) (st := []) mkX9_runBody qX9_speak_105 rfl (rc_83) rfl rfl rfl rfl (Nat.le_of_ble_eq_true rfl) (hc105) ?_
  refine ok_reti eX9_speak_108 rfl ?_
  exact ⟨rfl, rfl⟩
theorem cv6_3_0 {x : Int32} {b dep : Nat} (hk : α 83 2 = nI 6) (hn : α 83 3 = nu) (hm : α 83 4 = mn) (hb : α 83 0 = nI b) (hl : b + 4 ≤ 40) (hd : dep + 3 ≤ 30) : rf_At (rf_T Ln xs) MX9_speak 6 0 ([some (.ref 83), some (.int (nI 0)), some (.int (nI 3)), some (.int x), some (.int (nI dep)), none, none], [], 108, (α, δ)) (some (.int (((x + nu) * nI 2) ^^^ (x - mn)))) 108 (apt 84 83 0 α b [13, 11, 10, 12], δ) := by
  refine rf_pa ?_
  refine ok_step (ps := []) (L' := [some (.ref 83), some (.int (nI 0)), some (.int (nI 3)), some (.int x), some (.int (nI dep)), some (.int (nI 0)), some (.int (nI 0))]) (st' := []) (σ' := (α, δ)) (pc' := 6) kX9_speak_0 rfl rfl rf_a0 ?_
  refine ok_step (ps := []) (L' := [some (.ref 83), some (.int (nI 0)), some (.int (nI 3)), some (.int x), some (.int (nI dep)), some (.int (nI 0)), some (.int (nI 0))]) (st' := [.int (nI 8), .int (nI 0)]) (σ' := (α, δ)) (pc' := 10) kX9_speak_6 rfl rfl rf_a0 ?_
  refine ok_icmp_ge bX9_speak_10 (fun h10 => absurd h10 ((by decide))) (fun _ => ?_)
  refine ok_step (ps := [rf_in (((nI 0) * (nI 4)) + (nI 3)) 32]) (L' := [some (.ref 83), some (.int (nI 0)), some (.int (nI 3)), some (.int x), some (.int (nI dep)), some (.int (nI 0)), some (.int (nI 0))]) (st' := [.int (tBodies ((((nI 0) * (nI 4)) + (nI 3)).toNatClampNeg))]) (σ' := (α, δ)) (pc' := 23) kX9_speak_13 rfl rfl (rf_a1 (rf_in_n (a := 3) (by (try rw [(show ((nI 0) * (nI 4)) = nI 0 from rf_eq (rf_nmul (x := nI 0) (y := nI 4) rfl rfl) (by omega))]); (try rw [(show ((nI 0) + (nI 3)) = nI 3 from rf_eq (rf_nadd (x := nI 0) (y := nI 3) rfl rfl) (by omega))]); all_goals exact rfl) (by omega)) rf_a0) ?_
  try rw [(show ((nI 0) * (nI 4)) = nI 0 from rf_eq (rf_nmul (x := nI 0) (y := nI 4) rfl rfl) (by omega))]
  try rw [(show ((nI 0) + (nI 3)) = nI 3 from rf_eq (rf_nadd (x := nI 0) (y := nI 3) rfl rfl) (by omega))]
  try rw [(show (nI 3).toNatClampNeg = 3 from rf_cl_n rfl (by omega))]
  try rw [(show tBodies 3 = nI 13 from rfl)]
  refine ok_if_ne bX9_speak_23 (fun _ => ?_) (fun h23 => absurd h23 ((by decide)))
  refine ok_step (ps := []) (L' := [some (.ref 83), some (.int (nI 0)), some (.int (nI 3)), some (.int x), some (.int (nI dep)), some (.int (nI 0)), some (.int (nI 0))]) (st' := [.int (nI 30), .int (nI dep)]) (σ' := (α, δ)) (pc' := 44) kX9_speak_40 rfl rfl rf_a0 ?_
  refine ok_icmp_le bX9_speak_44 (fun _ => ?_) (fun h44 => absurd (nI_le (by omega) (by omega)) h44)
  refine ok_step (ps := [rf_in (((nI 0) * (nI 4)) + (nI 3)) 32]) (L' := [some (.ref 83), some (.int (nI 0)), some (.int (nI 3)), some (.int x), some (.int (nI dep)), some (.int (nI 0)), some (.int (tBodies ((((nI 0) * (nI 4)) + (nI 3)).toNatClampNeg)))]) (st' := [.int (nI 40), .int (α 83 0)]) (σ' := (α, δ)) (pc' := 67) kX9_speak_49 rfl rfl (rf_a1 (rf_in_n (a := 3) (by (try rw [(show ((nI 0) * (nI 4)) = nI 0 from rf_eq (rf_nmul (x := nI 0) (y := nI 4) rfl rfl) (by omega))]); (try rw [(show ((nI 0) + (nI 3)) = nI 3 from rf_eq (rf_nadd (x := nI 0) (y := nI 3) rfl rfl) (by omega))]); all_goals exact rfl) (by omega)) rf_a0) ?_
  try rw [(show ((nI 0) * (nI 4)) = nI 0 from rf_eq (rf_nmul (x := nI 0) (y := nI 4) rfl rfl) (by omega))]
  try rw [(show ((nI 0) + (nI 3)) = nI 3 from rf_eq (rf_nadd (x := nI 0) (y := nI 3) rfl rfl) (by omega))]
  try rw [(show (nI 3).toNatClampNeg = 3 from rf_cl_n rfl (by omega))]
  try rw [(show tBodies 3 = nI 13 from rfl)]
  try rw [(show α 83 0 = nI b from hb)]
  refine ok_icmp_ge bX9_speak_67 (fun h67 => absurd h67 (nI_ge (by omega) (by omega))) (fun _ => ?_)
  refine ok_step (ps := [rf_in (α 83 0) 40]) (L' := [some (.ref 83), some (.int (nI 0)), some (.int (nI 3)), some (.int x), some (.int (nI dep)), some (.int (nI 0)), some (.int (nI 13))]) (st' := []) (σ' := (rf_w (rf_w α 84 ((α 83 0).toNatClampNeg) (nI 13)) 83 0 (((rf_w α 84 ((α 83 0).toNatClampNeg) (nI 13)) 83 0) + (nI 1)), δ)) (pc' := 91) kX9_speak_70 rfl rfl (rf_a1 (rf_in_n (a := b) (by (try rw [(show α 83 0 = nI b from hb)]); all_goals exact rfl) (by omega)) rf_a0) ?_
  try rw [(show α 83 0 = nI b from hb)]
  try rw [(show (nI b).toNatClampNeg = b from rf_cl_n rfl (by omega))]
  try rw [(show (rf_w α 84 b (nI 13)) 83 0 = α 83 0 from by rw [rf_w_at, if_neg (fun h => absurd h.1 (by decide))])]
  try rw [(show α 83 0 = nI b from hb)]
  try rw [(show ((nI b) + (nI 1)) = nI (1 + b) from rf_eq (rf_nadd (x := nI b) (y := nI 1) rfl rfl) (by omega))]
  rw [show rf_w (rf_w α 84 b (nI 13)) 83 0 (nI (1 + b)) = apt 84 83 0 α b [13] from apt_w (L := []) (by simp) (by omega)]
  refine ok_step (ps := [rf_in (nI 0) 8]) (L' := [some (.ref 83), some (.int (nI 0)), some (.int (nI 3)), some (.int x), some (.int (nI dep)), some (.int (nI 0)), some (.int (nI 13))]) (st' := [.int ((nI dep) + (nI 1)), .int x, .int (tAbove ((nI 0).toNatClampNeg)), .int (nI 13), .ref 83]) (σ' := (apt 84 83 0 α b [13], δ)) (pc' := 105) kX9_speak_91 rfl rfl (rf_a1 (rf_in_n (a := 0) rfl (by omega)) rf_a0) ?_
  try rw [(show (nI 0).toNatClampNeg = 0 from rf_cl_n rfl (by omega))]
  try rw [(show tAbove 0 = nI 0 from rfl)]
  try rw [(show ((nI dep) + (nI 1)) = nI (1 + dep) from rf_eq (rf_nadd (x := nI dep) (y := nI 1) rfl rfl) (by omega))]
  have hc105 : rf_At (rf_T Ln xs) MX9_runBody 5 0 ([some (.ref 83), some (.int (nI 13)), some (.int (nI 0)), some (.int x), some (.int (nI (1 + dep)))], [], 108, (apt 84 83 0 α b [13], δ)) (some (.int (((x + nu) * nI 2) ^^^ (x - mn)))) 108 (apt 84 83 0 α b [13, 11, 10, 12], δ) := by
    refine rf_pa ?_
    refine ok_step (ps := []) (L' := [some (.ref 83), some (.int (nI 13)), some (.int (nI 0)), some (.int x), some (.int (nI (1 + dep)))]) (st' := [.int (nI 13)]) (σ' := (apt 84 83 0 α b [13], δ)) (pc' := 1) kX9_runBody_0 rfl rfl rf_a0 ?_
    refine ok_lkk (q := (13, 136)) (t := 137) bX9_runBody_1 (by decide) (by decide) (by decide) (by decide) ?_
    refine ok_step (ps := []) (L' := [some (.ref 83), some (.int (nI 13)), some (.int (nI 0)), some (.int x), some (.int (nI (1 + dep)))]) (st' := [.int (nI (1 + dep)), .int x, .int (nI 1), .int ((apt 84 83 0 α b [13]) 83 2), .ref 83]) (σ' := (apt 84 83 0 α b [13], δ)) (pc' := 146) kX9_runBody_137 rfl rfl rf_a0 ?_
    try rw [(show (apt 84 83 0 α b [13]) 83 2 = nI 6 from (apt_f (by decide) (by decide)).trans hk)]
    refine ok_V (As := [.int (nI 6), .int (nI 1), .int x, .int (nI (1 + dep))]) (b := 83) (st := []) mkX9_speak qX9_runBody_146 rfl (rc_83) rfl rfl rfl rfl (Nat.le_of_ble_eq_true rfl) (cv6_1_6 (b := (1 + b)) (dep := (1 + dep)) ((apt_f (by decide) (by decide)).trans hk) ((apt_f (by decide) (by decide)).trans hn) ((apt_f (by decide) (by decide)).trans hm) (apt_0 (by decide) hb) (by omega) (by omega)) ?_
    rw [show apt 84 83 0 (apt 84 83 0 α b [13]) (1 + b) [11, 10] = apt 84 83 0 α b [13, 11, 10] from apt_app (by simp)]
    refine ok_step (ps := []) (L' := [some (.ref 83), some (.int (nI 13)), some (.int (nI 0)), some (.int x), some (.int (nI (1 + dep)))]) (st' := [.int (nI (1 + dep)), .int x, .int (nI 2), .int ((apt 84 83 0 α b [13, 11, 10]) 83 2), .ref 83, .int ((x + nu) * nI 2)]) (σ' := (apt 84 83 0 α b [13, 11, 10], δ)) (pc' := 158) kX9_runBody_149 rfl rfl rf_a0 ?_
    try rw [(show (apt 84 83 0 α b [13, 11, 10]) 83 2 = nI 6 from (apt_f (by decide) (by decide)).trans hk)]
    refine ok_V (As := [.int (nI 6), .int (nI 2), .int x, .int (nI (1 + dep))]) (b := 83) (st := [.int ((x + nu) * nI 2)]) mkX9_speak qX9_runBody_158 rfl (rc_83) rfl rfl rfl rfl (Nat.le_of_ble_eq_true rfl) (cv6_2_6 (b := (3 + b)) (dep := (1 + dep)) ((apt_f (by decide) (by decide)).trans hk) ((apt_f (by decide) (by decide)).trans hn) ((apt_f (by decide) (by decide)).trans hm) (apt_0 (by decide) hb) (by omega) (by omega)) ?_
    rw [show apt 84 83 0 (apt 84 83 0 α b [13, 11, 10]) (3 + b) [12] = apt 84 83 0 α b [13, 11, 10, 12] from apt_app (by simp)]
    refine ok_step (ps := []) (L' := [some (.ref 83), some (.int (nI 13)), some (.int (nI 0)), some (.int x), some (.int (nI (1 + dep)))]) (st' := [.int (((x + nu) * nI 2) ^^^ (x - mn))]) (σ' := (apt 84 83 0 α b [13, 11, 10, 12], δ)) (pc' := 162) kX9_runBody_161 rfl rfl rf_a0 ?_
    refine ok_reti eX9_runBody_162 rfl ?_
    exact ⟨rfl, rfl⟩
  refine ok_V (As := [.int (nI 13), .int (nI 0), .int x, .int (nI (1 + dep))]) (b := 83) (st := []) mkX9_runBody qX9_speak_105 rfl (rc_83) rfl rfl rfl rfl (Nat.le_of_ble_eq_true rfl) (hc105) ?_
  refine ok_reti eX9_speak_108 rfl ?_
  exact ⟨rfl, rfl⟩
theorem cv6_3_1 {x : Int32} {b dep : Nat} (hk : α 83 2 = nI 6) (hn : α 83 3 = nu) (hm : α 83 4 = mn) (hb : α 83 0 = nI b) (hl : b + 5 ≤ 40) (hd : dep + 4 ≤ 30) : rf_At (rf_T Ln xs) MX9_speak 8 0 ([some (.ref 83), some (.int (nI 1)), some (.int (nI 3)), some (.int x), some (.int (nI dep)), none, none], [], 108, (α, δ)) (some (.int ((((x + nu) * nI 2) ^^^ (x - mn)) + nI 1))) 108 (apt 84 83 0 α b [20, 13, 11, 10, 12], δ) := by
  refine rf_pa ?_
  refine ok_step (ps := []) (L' := [some (.ref 83), some (.int (nI 1)), some (.int (nI 3)), some (.int x), some (.int (nI dep)), some (.int (nI 1)), some (.int (nI 0))]) (st' := []) (σ' := (α, δ)) (pc' := 6) kX9_speak_0 rfl rfl rf_a0 ?_
  refine ok_step (ps := []) (L' := [some (.ref 83), some (.int (nI 1)), some (.int (nI 3)), some (.int x), some (.int (nI dep)), some (.int (nI 1)), some (.int (nI 0))]) (st' := [.int (nI 8), .int (nI 0)]) (σ' := (α, δ)) (pc' := 10) kX9_speak_6 rfl rfl rf_a0 ?_
  refine ok_icmp_ge bX9_speak_10 (fun h10 => absurd h10 ((by decide))) (fun _ => ?_)
  refine ok_step (ps := [rf_in (((nI 1) * (nI 4)) + (nI 3)) 32]) (L' := [some (.ref 83), some (.int (nI 1)), some (.int (nI 3)), some (.int x), some (.int (nI dep)), some (.int (nI 1)), some (.int (nI 0))]) (st' := [.int (tBodies ((((nI 1) * (nI 4)) + (nI 3)).toNatClampNeg))]) (σ' := (α, δ)) (pc' := 23) kX9_speak_13 rfl rfl (rf_a1 (rf_in_n (a := 7) (by (try rw [(show ((nI 1) * (nI 4)) = nI 4 from rf_eq (rf_nmul (x := nI 1) (y := nI 4) rfl rfl) (by omega))]); (try rw [(show ((nI 4) + (nI 3)) = nI 7 from rf_eq (rf_nadd (x := nI 4) (y := nI 3) rfl rfl) (by omega))]); all_goals exact rfl) (by omega)) rf_a0) ?_
  try rw [(show ((nI 1) * (nI 4)) = nI 4 from rf_eq (rf_nmul (x := nI 1) (y := nI 4) rfl rfl) (by omega))]
  try rw [(show ((nI 4) + (nI 3)) = nI 7 from rf_eq (rf_nadd (x := nI 4) (y := nI 3) rfl rfl) (by omega))]
  try rw [(show (nI 7).toNatClampNeg = 7 from rf_cl_n rfl (by omega))]
  try rw [(show tBodies 7 = nI 20 from rfl)]
  refine ok_if_ne bX9_speak_23 (fun _ => ?_) (fun h23 => absurd h23 ((by decide)))
  refine ok_step (ps := []) (L' := [some (.ref 83), some (.int (nI 1)), some (.int (nI 3)), some (.int x), some (.int (nI dep)), some (.int (nI 1)), some (.int (nI 0))]) (st' := [.int (nI 30), .int (nI dep)]) (σ' := (α, δ)) (pc' := 44) kX9_speak_40 rfl rfl rf_a0 ?_
  refine ok_icmp_le bX9_speak_44 (fun _ => ?_) (fun h44 => absurd (nI_le (by omega) (by omega)) h44)
  refine ok_step (ps := [rf_in (((nI 1) * (nI 4)) + (nI 3)) 32]) (L' := [some (.ref 83), some (.int (nI 1)), some (.int (nI 3)), some (.int x), some (.int (nI dep)), some (.int (nI 1)), some (.int (tBodies ((((nI 1) * (nI 4)) + (nI 3)).toNatClampNeg)))]) (st' := [.int (nI 40), .int (α 83 0)]) (σ' := (α, δ)) (pc' := 67) kX9_speak_49 rfl rfl (rf_a1 (rf_in_n (a := 7) (by (try rw [(show ((nI 1) * (nI 4)) = nI 4 from rf_eq (rf_nmul (x := nI 1) (y := nI 4) rfl rfl) (by omega))]); (try rw [(show ((nI 4) + (nI 3)) = nI 7 from rf_eq (rf_nadd (x := nI 4) (y := nI 3) rfl rfl) (by omega))]); all_goals exact rfl) (by omega)) rf_a0) ?_
  try rw [(show ((nI 1) * (nI 4)) = nI 4 from rf_eq (rf_nmul (x := nI 1) (y := nI 4) rfl rfl) (by omega))]
  try rw [(show ((nI 4) + (nI 3)) = nI 7 from rf_eq (rf_nadd (x := nI 4) (y := nI 3) rfl rfl) (by omega))]
  try rw [(show (nI 7).toNatClampNeg = 7 from rf_cl_n rfl (by omega))]
  try rw [(show tBodies 7 = nI 20 from rfl)]
  try rw [(show α 83 0 = nI b from hb)]
  refine ok_icmp_ge bX9_speak_67 (fun h67 => absurd h67 (nI_ge (by omega) (by omega))) (fun _ => ?_)
  refine ok_step (ps := [rf_in (α 83 0) 40]) (L' := [some (.ref 83), some (.int (nI 1)), some (.int (nI 3)), some (.int x), some (.int (nI dep)), some (.int (nI 1)), some (.int (nI 20))]) (st' := []) (σ' := (rf_w (rf_w α 84 ((α 83 0).toNatClampNeg) (nI 20)) 83 0 (((rf_w α 84 ((α 83 0).toNatClampNeg) (nI 20)) 83 0) + (nI 1)), δ)) (pc' := 91) kX9_speak_70 rfl rfl (rf_a1 (rf_in_n (a := b) (by (try rw [(show α 83 0 = nI b from hb)]); all_goals exact rfl) (by omega)) rf_a0) ?_
  try rw [(show α 83 0 = nI b from hb)]
  try rw [(show (nI b).toNatClampNeg = b from rf_cl_n rfl (by omega))]
  try rw [(show (rf_w α 84 b (nI 20)) 83 0 = α 83 0 from by rw [rf_w_at, if_neg (fun h => absurd h.1 (by decide))])]
  try rw [(show α 83 0 = nI b from hb)]
  try rw [(show ((nI b) + (nI 1)) = nI (1 + b) from rf_eq (rf_nadd (x := nI b) (y := nI 1) rfl rfl) (by omega))]
  rw [show rf_w (rf_w α 84 b (nI 20)) 83 0 (nI (1 + b)) = apt 84 83 0 α b [20] from apt_w (L := []) (by simp) (by omega)]
  refine ok_step (ps := [rf_in (nI 1) 8]) (L' := [some (.ref 83), some (.int (nI 1)), some (.int (nI 3)), some (.int x), some (.int (nI dep)), some (.int (nI 1)), some (.int (nI 20))]) (st' := [.int ((nI dep) + (nI 1)), .int x, .int (tAbove ((nI 1).toNatClampNeg)), .int (nI 20), .ref 83]) (σ' := (apt 84 83 0 α b [20], δ)) (pc' := 105) kX9_speak_91 rfl rfl (rf_a1 (rf_in_n (a := 1) rfl (by omega)) rf_a0) ?_
  try rw [(show (nI 1).toNatClampNeg = 1 from rf_cl_n rfl (by omega))]
  try rw [(show tAbove 1 = nI 0 from rfl)]
  try rw [(show ((nI dep) + (nI 1)) = nI (1 + dep) from rf_eq (rf_nadd (x := nI dep) (y := nI 1) rfl rfl) (by omega))]
  have hc105 : rf_At (rf_T Ln xs) MX9_runBody 7 0 ([some (.ref 83), some (.int (nI 20)), some (.int (nI 0)), some (.int x), some (.int (nI (1 + dep)))], [], 108, (apt 84 83 0 α b [20], δ)) (some (.int ((((x + nu) * nI 2) ^^^ (x - mn)) + (nI 1)))) 108 (apt 84 83 0 α b [20, 13, 11, 10, 12], δ) := by
    refine rf_pa ?_
    refine ok_step (ps := []) (L' := [some (.ref 83), some (.int (nI 20)), some (.int (nI 0)), some (.int x), some (.int (nI (1 + dep)))]) (st' := [.int (nI 20)]) (σ' := (apt 84 83 0 α b [20], δ)) (pc' := 1) kX9_runBody_0 rfl rfl rf_a0 ?_
    refine ok_lkk (q := (20, 162)) (t := 163) bX9_runBody_1 (by decide) (by decide) (by decide) (by decide) ?_
    refine ok_step (ps := []) (L' := [some (.ref 83), some (.int (nI 20)), some (.int (nI 0)), some (.int x), some (.int (nI (1 + dep)))]) (st' := [.int (nI (1 + dep)), .int x, .int (nI 3), .int (nI 0), .ref 83]) (σ' := (apt 84 83 0 α b [20], δ)) (pc' := 169) kX9_runBody_163 rfl rfl rf_a0 ?_
    refine ok_V (As := [.int (nI 0), .int (nI 3), .int x, .int (nI (1 + dep))]) (b := 83) (st := []) mkX9_speak qX9_runBody_169 rfl (rc_83) rfl rfl rfl rfl (Nat.le_of_ble_eq_true rfl) (cv6_3_0 (b := (1 + b)) (dep := (1 + dep)) ((apt_f (by decide) (by decide)).trans hk) ((apt_f (by decide) (by decide)).trans hn) ((apt_f (by decide) (by decide)).trans hm) (apt_0 (by decide) hb) (by omega) (by omega)) ?_
    rw [show apt 84 83 0 (apt 84 83 0 α b [20]) (1 + b) [13, 11, 10, 12] = apt 84 83 0 α b [20, 13, 11, 10, 12] from apt_app (by simp)]
    refine ok_step (ps := []) (L' := [some (.ref 83), some (.int (nI 20)), some (.int (nI 0)), some (.int x), some (.int (nI (1 + dep)))]) (st' := [.int ((((x + nu) * nI 2) ^^^ (x - mn)) + (nI 1))]) (σ' := (apt 84 83 0 α b [20, 13, 11, 10, 12], δ)) (pc' := 174) kX9_runBody_172 rfl rfl rf_a0 ?_
    refine ok_reti eX9_runBody_174 rfl ?_
    exact ⟨rfl, rfl⟩
  refine ok_V (As := [.int (nI 20), .int (nI 0), .int x, .int (nI (1 + dep))]) (b := 83) (st := []) mkX9_runBody qX9_speak_105 rfl (rc_83) rfl rfl rfl rfl (Nat.le_of_ble_eq_true rfl) (hc105) ?_
  refine ok_reti eX9_speak_108 rfl ?_
  exact ⟨rfl, rfl⟩
theorem cv6_3_6 {x : Int32} {b dep : Nat} (hk : α 83 2 = nI 6) (hn : α 83 3 = nu) (hm : α 83 4 = mn) (hb : α 83 0 = nI b) (hl : b + 7 ≤ 40) (hd : dep + 5 ≤ 30) : rf_At (rf_T Ln xs) MX9_speak 10 0 ([some (.ref 83), some (.int (nI 6)), some (.int (nI 3)), some (.int x), some (.int (nI dep)), none, none], [], 108, (α, δ)) (some (.int (((nI 2) + nu) - ((((x + nu) * nI 2) ^^^ (x - mn)) + nI 1)))) 108 (apt 84 83 0 α b [70, 10, 20, 13, 11, 10, 12], δ) := by
  refine rf_pa ?_
  refine ok_step (ps := []) (L' := [some (.ref 83), some (.int (nI 6)), some (.int (nI 3)), some (.int x), some (.int (nI dep)), some (.int (nI 6)), some (.int (nI 0))]) (st' := []) (σ' := (α, δ)) (pc' := 6) kX9_speak_0 rfl rfl rf_a0 ?_
  refine ok_step (ps := []) (L' := [some (.ref 83), some (.int (nI 6)), some (.int (nI 3)), some (.int x), some (.int (nI dep)), some (.int (nI 6)), some (.int (nI 0))]) (st' := [.int (nI 8), .int (nI 0)]) (σ' := (α, δ)) (pc' := 10) kX9_speak_6 rfl rfl rf_a0 ?_
  refine ok_icmp_ge bX9_speak_10 (fun h10 => absurd h10 ((by decide))) (fun _ => ?_)
  refine ok_step (ps := [rf_in (((nI 6) * (nI 4)) + (nI 3)) 32]) (L' := [some (.ref 83), some (.int (nI 6)), some (.int (nI 3)), some (.int x), some (.int (nI dep)), some (.int (nI 6)), some (.int (nI 0))]) (st' := [.int (tBodies ((((nI 6) * (nI 4)) + (nI 3)).toNatClampNeg))]) (σ' := (α, δ)) (pc' := 23) kX9_speak_13 rfl rfl (rf_a1 (rf_in_n (a := 27) (by (try rw [(show ((nI 6) * (nI 4)) = nI 24 from rf_eq (rf_nmul (x := nI 6) (y := nI 4) rfl rfl) (by omega))]); (try rw [(show ((nI 24) + (nI 3)) = nI 27 from rf_eq (rf_nadd (x := nI 24) (y := nI 3) rfl rfl) (by omega))]); all_goals exact rfl) (by omega)) rf_a0) ?_
  try rw [(show ((nI 6) * (nI 4)) = nI 24 from rf_eq (rf_nmul (x := nI 6) (y := nI 4) rfl rfl) (by omega))]
  try rw [(show ((nI 24) + (nI 3)) = nI 27 from rf_eq (rf_nadd (x := nI 24) (y := nI 3) rfl rfl) (by omega))]
  try rw [(show (nI 27).toNatClampNeg = 27 from rf_cl_n rfl (by omega))]
  try rw [(show tBodies 27 = nI 70 from rfl)]
  refine ok_if_ne bX9_speak_23 (fun _ => ?_) (fun h23 => absurd h23 ((by decide)))
  refine ok_step (ps := []) (L' := [some (.ref 83), some (.int (nI 6)), some (.int (nI 3)), some (.int x), some (.int (nI dep)), some (.int (nI 6)), some (.int (nI 0))]) (st' := [.int (nI 30), .int (nI dep)]) (σ' := (α, δ)) (pc' := 44) kX9_speak_40 rfl rfl rf_a0 ?_
  refine ok_icmp_le bX9_speak_44 (fun _ => ?_) (fun h44 => absurd (nI_le (by omega) (by omega)) h44)
  refine ok_step (ps := [rf_in (((nI 6) * (nI 4)) + (nI 3)) 32]) (L' := [some (.ref 83), some (.int (nI 6)), some (.int (nI 3)), some (.int x), some (.int (nI dep)), some (.int (nI 6)), some (.int (tBodies ((((nI 6) * (nI 4)) + (nI 3)).toNatClampNeg)))]) (st' := [.int (nI 40), .int (α 83 0)]) (σ' := (α, δ)) (pc' := 67) kX9_speak_49 rfl rfl (rf_a1 (rf_in_n (a := 27) (by (try rw [(show ((nI 6) * (nI 4)) = nI 24 from rf_eq (rf_nmul (x := nI 6) (y := nI 4) rfl rfl) (by omega))]); (try rw [(show ((nI 24) + (nI 3)) = nI 27 from rf_eq (rf_nadd (x := nI 24) (y := nI 3) rfl rfl) (by omega))]); all_goals exact rfl) (by omega)) rf_a0) ?_
  try rw [(show ((nI 6) * (nI 4)) = nI 24 from rf_eq (rf_nmul (x := nI 6) (y := nI 4) rfl rfl) (by omega))]
  try rw [(show ((nI 24) + (nI 3)) = nI 27 from rf_eq (rf_nadd (x := nI 24) (y := nI 3) rfl rfl) (by omega))]
  try rw [(show (nI 27).toNatClampNeg = 27 from rf_cl_n rfl (by omega))]
  try rw [(show tBodies 27 = nI 70 from rfl)]
  try rw [(show α 83 0 = nI b from hb)]
  refine ok_icmp_ge bX9_speak_67 (fun h67 => absurd h67 (nI_ge (by omega) (by omega))) (fun _ => ?_)
  refine ok_step (ps := [rf_in (α 83 0) 40]) (L' := [some (.ref 83), some (.int (nI 6)), some (.int (nI 3)), some (.int x), some (.int (nI dep)), some (.int (nI 6)), some (.int (nI 70))]) (st' := []) (σ' := (rf_w (rf_w α 84 ((α 83 0).toNatClampNeg) (nI 70)) 83 0 (((rf_w α 84 ((α 83 0).toNatClampNeg) (nI 70)) 83 0) + (nI 1)), δ)) (pc' := 91) kX9_speak_70 rfl rfl (rf_a1 (rf_in_n (a := b) (by (try rw [(show α 83 0 = nI b from hb)]); all_goals exact rfl) (by omega)) rf_a0) ?_
  try rw [(show α 83 0 = nI b from hb)]
  try rw [(show (nI b).toNatClampNeg = b from rf_cl_n rfl (by omega))]
  try rw [(show (rf_w α 84 b (nI 70)) 83 0 = α 83 0 from by rw [rf_w_at, if_neg (fun h => absurd h.1 (by decide))])]
  try rw [(show α 83 0 = nI b from hb)]
  try rw [(show ((nI b) + (nI 1)) = nI (1 + b) from rf_eq (rf_nadd (x := nI b) (y := nI 1) rfl rfl) (by omega))]
  rw [show rf_w (rf_w α 84 b (nI 70)) 83 0 (nI (1 + b)) = apt 84 83 0 α b [70] from apt_w (L := []) (by simp) (by omega)]
  refine ok_step (ps := [rf_in (nI 6) 8]) (L' := [some (.ref 83), some (.int (nI 6)), some (.int (nI 3)), some (.int x), some (.int (nI dep)), some (.int (nI 6)), some (.int (nI 70))]) (st' := [.int ((nI dep) + (nI 1)), .int x, .int (tAbove ((nI 6).toNatClampNeg)), .int (nI 70), .ref 83]) (σ' := (apt 84 83 0 α b [70], δ)) (pc' := 105) kX9_speak_91 rfl rfl (rf_a1 (rf_in_n (a := 6) rfl (by omega)) rf_a0) ?_
  try rw [(show (nI 6).toNatClampNeg = 6 from rf_cl_n rfl (by omega))]
  try rw [(show tAbove 6 = nI 1 from rfl)]
  try rw [(show ((nI dep) + (nI 1)) = nI (1 + dep) from rf_eq (rf_nadd (x := nI dep) (y := nI 1) rfl rfl) (by omega))]
  have hc105 : rf_At (rf_T Ln xs) MX9_runBody 9 0 ([some (.ref 83), some (.int (nI 70)), some (.int (nI 1)), some (.int x), some (.int (nI (1 + dep)))], [], 108, (apt 84 83 0 α b [70], δ)) (some (.int (((nI 2) + nu) - ((((x + nu) * nI 2) ^^^ (x - mn)) + nI 1)))) 108 (apt 84 83 0 α b [70, 10, 20, 13, 11, 10, 12], δ) := by
    refine rf_pa ?_
    refine ok_step (ps := []) (L' := [some (.ref 83), some (.int (nI 70)), some (.int (nI 1)), some (.int x), some (.int (nI (1 + dep)))]) (st' := [.int (nI 70)]) (σ' := (apt 84 83 0 α b [70], δ)) (pc' := 1) kX9_runBody_0 rfl rfl rf_a0 ?_
    refine ok_lkk (q := (70, 247)) (t := 248) bX9_runBody_1 (by decide) (by decide) (by decide) (by decide) ?_
    refine ok_step (ps := []) (L' := [some (.ref 83), some (.int (nI 70)), some (.int (nI 1)), some (.int x), some (.int (nI (1 + dep)))]) (st' := [.int (nI (1 + dep)), .int (nI 2), .int (nI 0), .int ((apt 84 83 0 α b [70]) 83 2), .ref 83]) (σ' := (apt 84 83 0 α b [70], δ)) (pc' := 257) kX9_runBody_248 rfl rfl rf_a0 ?_
    try rw [(show (apt 84 83 0 α b [70]) 83 2 = nI 6 from (apt_f (by decide) (by decide)).trans hk)]
    refine ok_V (As := [.int (nI 6), .int (nI 0), .int (nI 2), .int (nI (1 + dep))]) (b := 83) (st := []) mkX9_speak qX9_runBody_257 rfl (rc_83) rfl rfl rfl rfl (Nat.le_of_ble_eq_true rfl) (cv6_0_6 (b := (1 + b)) (dep := (1 + dep)) ((apt_f (by decide) (by decide)).trans hk) ((apt_f (by decide) (by decide)).trans hn) ((apt_f (by decide) (by decide)).trans hm) (apt_0 (by decide) hb) (by omega) (by omega)) ?_
    rw [show apt 84 83 0 (apt 84 83 0 α b [70]) (1 + b) [10] = apt 84 83 0 α b [70, 10] from apt_app (by simp)]
    refine ok_step (ps := []) (L' := [some (.ref 83), some (.int (nI 70)), some (.int (nI 1)), some (.int x), some (.int (nI (1 + dep)))]) (st' := [.int (nI (1 + dep)), .int x, .int (nI 3), .int (nI 1), .ref 83, .int ((nI 2) + nu)]) (σ' := (apt 84 83 0 α b [70, 10], δ)) (pc' := 266) kX9_runBody_260 rfl rfl rf_a0 ?_
    refine ok_V (As := [.int (nI 1), .int (nI 3), .int x, .int (nI (1 + dep))]) (b := 83) (st := [.int ((nI 2) + nu)]) mkX9_speak qX9_runBody_266 rfl (rc_83) rfl rfl rfl rfl (Nat.le_of_ble_eq_true rfl) (cv6_3_1 (b := (2 + b)) (dep := (1 + dep)) ((apt_f (by decide) (by decide)).trans hk) ((apt_f (by decide) (by decide)).trans hn) ((apt_f (by decide) (by decide)).trans hm) (apt_0 (by decide) hb) (by omega) (by omega)) ?_
    rw [show apt 84 83 0 (apt 84 83 0 α b [70, 10]) (2 + b) [20, 13, 11, 10, 12] = apt 84 83 0 α b [70, 10, 20, 13, 11, 10, 12] from apt_app (by simp)]
    refine ok_step (ps := []) (L' := [some (.ref 83), some (.int (nI 70)), some (.int (nI 1)), some (.int x), some (.int (nI (1 + dep)))]) (st' := [.int (((nI 2) + nu) - ((((x + nu) * nI 2) ^^^ (x - mn)) + nI 1))]) (σ' := (apt 84 83 0 α b [70, 10, 20, 13, 11, 10, 12], δ)) (pc' := 270) kX9_runBody_269 rfl rfl rf_a0 ?_
    refine ok_reti eX9_runBody_270 rfl ?_
    exact ⟨rfl, rfl⟩
  refine ok_V (As := [.int (nI 70), .int (nI 1), .int x, .int (nI (1 + dep))]) (b := 83) (st := []) mkX9_runBody qX9_speak_105 rfl (rc_83) rfl rfl rfl rfl (Nat.le_of_ble_eq_true rfl) (hc105) ?_
  refine ok_reti eX9_speak_108 rfl ?_
  exact ⟨rfl, rfl⟩
theorem cv7_0_0 {x : Int32} {b dep : Nat} (hk : α 83 2 = nI 7) (hn : α 83 3 = nu) (hm : α 83 4 = mn) (hb : α 83 0 = nI b) (hl : b + 1 ≤ 40) (hd : dep + 1 ≤ 30) : rf_At (rf_T Ln xs) MX9_speak 2 0 ([some (.ref 83), some (.int (nI 0)), some (.int (nI 0)), some (.int x), some (.int (nI dep)), none, none], [], 108, (α, δ)) (some (.int (x + nu))) 108 (apt 84 83 0 α b [10], δ) := by
  refine rf_pa ?_
  refine ok_step (ps := []) (L' := [some (.ref 83), some (.int (nI 0)), some (.int (nI 0)), some (.int x), some (.int (nI dep)), some (.int (nI 0)), some (.int (nI 0))]) (st' := []) (σ' := (α, δ)) (pc' := 6) kX9_speak_0 rfl rfl rf_a0 ?_
  refine ok_step (ps := []) (L' := [some (.ref 83), some (.int (nI 0)), some (.int (nI 0)), some (.int x), some (.int (nI dep)), some (.int (nI 0)), some (.int (nI 0))]) (st' := [.int (nI 8), .int (nI 0)]) (σ' := (α, δ)) (pc' := 10) kX9_speak_6 rfl rfl rf_a0 ?_
  refine ok_icmp_ge bX9_speak_10 (fun h10 => absurd h10 ((by decide))) (fun _ => ?_)
  refine ok_step (ps := [rf_in (((nI 0) * (nI 4)) + (nI 0)) 32]) (L' := [some (.ref 83), some (.int (nI 0)), some (.int (nI 0)), some (.int x), some (.int (nI dep)), some (.int (nI 0)), some (.int (nI 0))]) (st' := [.int (tBodies ((((nI 0) * (nI 4)) + (nI 0)).toNatClampNeg))]) (σ' := (α, δ)) (pc' := 23) kX9_speak_13 rfl rfl (rf_a1 (rf_in_n (a := 0) (by (try rw [(show ((nI 0) * (nI 4)) = nI 0 from rf_eq (rf_nmul (x := nI 0) (y := nI 4) rfl rfl) (by omega))]); (try rw [(show ((nI 0) + (nI 0)) = nI 0 from rf_eq (rf_nadd (x := nI 0) (y := nI 0) rfl rfl) (by omega))]); all_goals exact rfl) (by omega)) rf_a0) ?_
  try rw [(show ((nI 0) * (nI 4)) = nI 0 from rf_eq (rf_nmul (x := nI 0) (y := nI 4) rfl rfl) (by omega))]
  try rw [(show ((nI 0) + (nI 0)) = nI 0 from rf_eq (rf_nadd (x := nI 0) (y := nI 0) rfl rfl) (by omega))]
  try rw [(show (nI 0).toNatClampNeg = 0 from rf_cl_n rfl (by omega))]
  try rw [(show tBodies 0 = nI 10 from rfl)]
  refine ok_if_ne bX9_speak_23 (fun _ => ?_) (fun h23 => absurd h23 ((by decide)))
  refine ok_step (ps := []) (L' := [some (.ref 83), some (.int (nI 0)), some (.int (nI 0)), some (.int x), some (.int (nI dep)), some (.int (nI 0)), some (.int (nI 0))]) (st' := [.int (nI 30), .int (nI dep)]) (σ' := (α, δ)) (pc' := 44) kX9_speak_40 rfl rfl rf_a0 ?_
  refine ok_icmp_le bX9_speak_44 (fun _ => ?_) (fun h44 => absurd (nI_le (by omega) (by omega)) h44)
  refine ok_step (ps := [rf_in (((nI 0) * (nI 4)) + (nI 0)) 32]) (L' := [some (.ref 83), some (.int (nI 0)), some (.int (nI 0)), some (.int x), some (.int (nI dep)), some (.int (nI 0)), some (.int (tBodies ((((nI 0) * (nI 4)) + (nI 0)).toNatClampNeg)))]) (st' := [.int (nI 40), .int (α 83 0)]) (σ' := (α, δ)) (pc' := 67) kX9_speak_49 rfl rfl (rf_a1 (rf_in_n (a := 0) (by (try rw [(show ((nI 0) * (nI 4)) = nI 0 from rf_eq (rf_nmul (x := nI 0) (y := nI 4) rfl rfl) (by omega))]); (try rw [(show ((nI 0) + (nI 0)) = nI 0 from rf_eq (rf_nadd (x := nI 0) (y := nI 0) rfl rfl) (by omega))]); all_goals exact rfl) (by omega)) rf_a0) ?_
  try rw [(show ((nI 0) * (nI 4)) = nI 0 from rf_eq (rf_nmul (x := nI 0) (y := nI 4) rfl rfl) (by omega))]
  try rw [(show ((nI 0) + (nI 0)) = nI 0 from rf_eq (rf_nadd (x := nI 0) (y := nI 0) rfl rfl) (by omega))]
  try rw [(show (nI 0).toNatClampNeg = 0 from rf_cl_n rfl (by omega))]
  try rw [(show tBodies 0 = nI 10 from rfl)]
  try rw [(show α 83 0 = nI b from hb)]
  refine ok_icmp_ge bX9_speak_67 (fun h67 => absurd h67 (nI_ge (by omega) (by omega))) (fun _ => ?_)
  refine ok_step (ps := [rf_in (α 83 0) 40]) (L' := [some (.ref 83), some (.int (nI 0)), some (.int (nI 0)), some (.int x), some (.int (nI dep)), some (.int (nI 0)), some (.int (nI 10))]) (st' := []) (σ' := (rf_w (rf_w α 84 ((α 83 0).toNatClampNeg) (nI 10)) 83 0 (((rf_w α 84 ((α 83 0).toNatClampNeg) (nI 10)) 83 0) + (nI 1)), δ)) (pc' := 91) kX9_speak_70 rfl rfl (rf_a1 (rf_in_n (a := b) (by (try rw [(show α 83 0 = nI b from hb)]); all_goals exact rfl) (by omega)) rf_a0) ?_
  try rw [(show α 83 0 = nI b from hb)]
  try rw [(show (nI b).toNatClampNeg = b from rf_cl_n rfl (by omega))]
  try rw [(show (rf_w α 84 b (nI 10)) 83 0 = α 83 0 from by rw [rf_w_at, if_neg (fun h => absurd h.1 (by decide))])]
  try rw [(show α 83 0 = nI b from hb)]
  try rw [(show ((nI b) + (nI 1)) = nI (1 + b) from rf_eq (rf_nadd (x := nI b) (y := nI 1) rfl rfl) (by omega))]
  rw [show rf_w (rf_w α 84 b (nI 10)) 83 0 (nI (1 + b)) = apt 84 83 0 α b [10] from apt_w (L := []) (by simp) (by omega)]
  refine ok_step (ps := [rf_in (nI 0) 8]) (L' := [some (.ref 83), some (.int (nI 0)), some (.int (nI 0)), some (.int x), some (.int (nI dep)), some (.int (nI 0)), some (.int (nI 10))]) (st' := [.int ((nI dep) + (nI 1)), .int x, .int (tAbove ((nI 0).toNatClampNeg)), .int (nI 10), .ref 83]) (σ' := (apt 84 83 0 α b [10], δ)) (pc' := 105) kX9_speak_91 rfl rfl (rf_a1 (rf_in_n (a := 0) rfl (by omega)) rf_a0) ?_
  try rw [(show (nI 0).toNatClampNeg = 0 from rf_cl_n rfl (by omega))]
  try rw [(show tAbove 0 = nI 0 from rfl)]
  try rw [(show ((nI dep) + (nI 1)) = nI (1 + dep) from rf_eq (rf_nadd (x := nI dep) (y := nI 1) rfl rfl) (by omega))]
  have hc105 : rf_At (rf_T Ln xs) MX9_runBody 1 0 ([some (.ref 83), some (.int (nI 10)), some (.int (nI 0)), some (.int x), some (.int (nI (1 + dep)))], [], 108, (apt 84 83 0 α b [10], δ)) (some (.int (x + nu))) 108 (apt 84 83 0 α b [10], δ) := by
    refine rf_pa ?_
    refine ok_step (ps := []) (L' := [some (.ref 83), some (.int (nI 10)), some (.int (nI 0)), some (.int x), some (.int (nI (1 + dep)))]) (st' := [.int (nI 10)]) (σ' := (apt 84 83 0 α b [10], δ)) (pc' := 1) kX9_runBody_0 rfl rfl rf_a0 ?_
    refine ok_lkk (q := (10, 107)) (t := 108) bX9_runBody_1 (by decide) (by decide) (by decide) (by decide) ?_
    refine ok_step (ps := []) (L' := [some (.ref 83), some (.int (nI 10)), some (.int (nI 0)), some (.int x), some (.int (nI (1 + dep)))]) (st' := [.int (x + ((apt 84 83 0 α b [10]) 83 3))]) (σ' := (apt 84 83 0 α b [10], δ)) (pc' := 114) kX9_runBody_108 rfl rfl rf_a0 ?_
    try rw [(show (apt 84 83 0 α b [10]) 83 3 = nu from (apt_f (by decide) (by decide)).trans hn)]
    refine ok_reti eX9_runBody_114 rfl ?_
    exact ⟨rfl, rfl⟩
  refine ok_V (As := [.int (nI 10), .int (nI 0), .int x, .int (nI (1 + dep))]) (b := 83) (st := []) mkX9_runBody qX9_speak_105 rfl (rc_83) rfl rfl rfl rfl (Nat.le_of_ble_eq_true rfl) (hc105) ?_
  refine ok_reti eX9_speak_108 rfl ?_
  exact ⟨rfl, rfl⟩
theorem cv7_0_5 {x : Int32} {b dep : Nat} (hk : α 83 2 = nI 7) (hn : α 83 3 = nu) (hm : α 83 4 = mn) (hb : α 83 0 = nI b) (hl : b + 2 ≤ 40) (hd : dep + 2 ≤ 30) : rf_At (rf_T Ln xs) MX9_speak 4 0 ([some (.ref 83), some (.int (nI 5)), some (.int (nI 0)), some (.int x), some (.int (nI dep)), none, none], [], 108, (α, δ)) (some (.int ((x + nu) ^^^ mn))) 108 (apt 84 83 0 α b [60, 10], δ) := by
  refine rf_pa ?_
  refine ok_step (ps := []) (L' := [some (.ref 83), some (.int (nI 5)), some (.int (nI 0)), some (.int x), some (.int (nI dep)), some (.int (nI 5)), some (.int (nI 0))]) (st' := []) (σ' := (α, δ)) (pc' := 6) kX9_speak_0 rfl rfl rf_a0 ?_
  refine ok_step (ps := []) (L' := [some (.ref 83), some (.int (nI 5)), some (.int (nI 0)), some (.int x), some (.int (nI dep)), some (.int (nI 5)), some (.int (nI 0))]) (st' := [.int (nI 8), .int (nI 0)]) (σ' := (α, δ)) (pc' := 10) kX9_speak_6 rfl rfl rf_a0 ?_
  refine ok_icmp_ge bX9_speak_10 (fun h10 => absurd h10 ((by decide))) (fun _ => ?_)
  refine ok_step (ps := [rf_in (((nI 5) * (nI 4)) + (nI 0)) 32]) (L' := [some (.ref 83), some (.int (nI 5)), some (.int (nI 0)), some (.int x), some (.int (nI dep)), some (.int (nI 5)), some (.int (nI 0))]) (st' := [.int (tBodies ((((nI 5) * (nI 4)) + (nI 0)).toNatClampNeg))]) (σ' := (α, δ)) (pc' := 23) kX9_speak_13 rfl rfl (rf_a1 (rf_in_n (a := 20) (by (try rw [(show ((nI 5) * (nI 4)) = nI 20 from rf_eq (rf_nmul (x := nI 5) (y := nI 4) rfl rfl) (by omega))]); (try rw [(show ((nI 20) + (nI 0)) = nI 20 from rf_eq (rf_nadd (x := nI 20) (y := nI 0) rfl rfl) (by omega))]); all_goals exact rfl) (by omega)) rf_a0) ?_
  try rw [(show ((nI 5) * (nI 4)) = nI 20 from rf_eq (rf_nmul (x := nI 5) (y := nI 4) rfl rfl) (by omega))]
  try rw [(show ((nI 20) + (nI 0)) = nI 20 from rf_eq (rf_nadd (x := nI 20) (y := nI 0) rfl rfl) (by omega))]
  try rw [(show (nI 20).toNatClampNeg = 20 from rf_cl_n rfl (by omega))]
  try rw [(show tBodies 20 = nI 60 from rfl)]
  refine ok_if_ne bX9_speak_23 (fun _ => ?_) (fun h23 => absurd h23 ((by decide)))
  refine ok_step (ps := []) (L' := [some (.ref 83), some (.int (nI 5)), some (.int (nI 0)), some (.int x), some (.int (nI dep)), some (.int (nI 5)), some (.int (nI 0))]) (st' := [.int (nI 30), .int (nI dep)]) (σ' := (α, δ)) (pc' := 44) kX9_speak_40 rfl rfl rf_a0 ?_
  refine ok_icmp_le bX9_speak_44 (fun _ => ?_) (fun h44 => absurd (nI_le (by omega) (by omega)) h44)
  refine ok_step (ps := [rf_in (((nI 5) * (nI 4)) + (nI 0)) 32]) (L' := [some (.ref 83), some (.int (nI 5)), some (.int (nI 0)), some (.int x), some (.int (nI dep)), some (.int (nI 5)), some (.int (tBodies ((((nI 5) * (nI 4)) + (nI 0)).toNatClampNeg)))]) (st' := [.int (nI 40), .int (α 83 0)]) (σ' := (α, δ)) (pc' := 67) kX9_speak_49 rfl rfl (rf_a1 (rf_in_n (a := 20) (by (try rw [(show ((nI 5) * (nI 4)) = nI 20 from rf_eq (rf_nmul (x := nI 5) (y := nI 4) rfl rfl) (by omega))]); (try rw [(show ((nI 20) + (nI 0)) = nI 20 from rf_eq (rf_nadd (x := nI 20) (y := nI 0) rfl rfl) (by omega))]); all_goals exact rfl) (by omega)) rf_a0) ?_
  try rw [(show ((nI 5) * (nI 4)) = nI 20 from rf_eq (rf_nmul (x := nI 5) (y := nI 4) rfl rfl) (by omega))]
  try rw [(show ((nI 20) + (nI 0)) = nI 20 from rf_eq (rf_nadd (x := nI 20) (y := nI 0) rfl rfl) (by omega))]
  try rw [(show (nI 20).toNatClampNeg = 20 from rf_cl_n rfl (by omega))]
  try rw [(show tBodies 20 = nI 60 from rfl)]
  try rw [(show α 83 0 = nI b from hb)]
  refine ok_icmp_ge bX9_speak_67 (fun h67 => absurd h67 (nI_ge (by omega) (by omega))) (fun _ => ?_)
  refine ok_step (ps := [rf_in (α 83 0) 40]) (L' := [some (.ref 83), some (.int (nI 5)), some (.int (nI 0)), some (.int x), some (.int (nI dep)), some (.int (nI 5)), some (.int (nI 60))]) (st' := []) (σ' := (rf_w (rf_w α 84 ((α 83 0).toNatClampNeg) (nI 60)) 83 0 (((rf_w α 84 ((α 83 0).toNatClampNeg) (nI 60)) 83 0) + (nI 1)), δ)) (pc' := 91) kX9_speak_70 rfl rfl (rf_a1 (rf_in_n (a := b) (by (try rw [(show α 83 0 = nI b from hb)]); all_goals exact rfl) (by omega)) rf_a0) ?_
  try rw [(show α 83 0 = nI b from hb)]
  try rw [(show (nI b).toNatClampNeg = b from rf_cl_n rfl (by omega))]
  try rw [(show (rf_w α 84 b (nI 60)) 83 0 = α 83 0 from by rw [rf_w_at, if_neg (fun h => absurd h.1 (by decide))])]
  try rw [(show α 83 0 = nI b from hb)]
  try rw [(show ((nI b) + (nI 1)) = nI (1 + b) from rf_eq (rf_nadd (x := nI b) (y := nI 1) rfl rfl) (by omega))]
  rw [show rf_w (rf_w α 84 b (nI 60)) 83 0 (nI (1 + b)) = apt 84 83 0 α b [60] from apt_w (L := []) (by simp) (by omega)]
  refine ok_step (ps := [rf_in (nI 5) 8]) (L' := [some (.ref 83), some (.int (nI 5)), some (.int (nI 0)), some (.int x), some (.int (nI dep)), some (.int (nI 5)), some (.int (nI 60))]) (st' := [.int ((nI dep) + (nI 1)), .int x, .int (tAbove ((nI 5).toNatClampNeg)), .int (nI 60), .ref 83]) (σ' := (apt 84 83 0 α b [60], δ)) (pc' := 105) kX9_speak_91 rfl rfl (rf_a1 (rf_in_n (a := 5) rfl (by omega)) rf_a0) ?_
  try rw [(show (nI 5).toNatClampNeg = 5 from rf_cl_n rfl (by omega))]
  try rw [(show tAbove 5 = nI 0 from rfl)]
  try rw [(show ((nI dep) + (nI 1)) = nI (1 + dep) from rf_eq (rf_nadd (x := nI dep) (y := nI 1) rfl rfl) (by omega))]
  have hc105 : rf_At (rf_T Ln xs) MX9_runBody 3 0 ([some (.ref 83), some (.int (nI 60)), some (.int (nI 0)), some (.int x), some (.int (nI (1 + dep)))], [], 108, (apt 84 83 0 α b [60], δ)) (some (.int ((x + nu) ^^^ mn))) 108 (apt 84 83 0 α b [60, 10], δ) := by
    refine rf_pa ?_
    refine ok_step (ps := []) (L' := [some (.ref 83), some (.int (nI 60)), some (.int (nI 0)), some (.int x), some (.int (nI (1 + dep)))]) (st' := [.int (nI 60)]) (σ' := (apt 84 83 0 α b [60], δ)) (pc' := 1) kX9_runBody_0 rfl rfl rf_a0 ?_
    refine ok_lkk (q := (60, 232)) (t := 233) bX9_runBody_1 (by decide) (by decide) (by decide) (by decide) ?_
    refine ok_step (ps := []) (L' := [some (.ref 83), some (.int (nI 60)), some (.int (nI 0)), some (.int x), some (.int (nI (1 + dep)))]) (st' := [.int (nI (1 + dep)), .int x, .int (nI 0), .int (nI 0), .ref 83]) (σ' := (apt 84 83 0 α b [60], δ)) (pc' := 239) kX9_runBody_233 rfl rfl rf_a0 ?_
    refine ok_V (As := [.int (nI 0), .int (nI 0), .int x, .int (nI (1 + dep))]) (b := 83) (st := []) mkX9_speak qX9_runBody_239 rfl (rc_83) rfl rfl rfl rfl (Nat.le_of_ble_eq_true rfl) (cv7_0_0 (b := (1 + b)) (dep := (1 + dep)) ((apt_f (by decide) (by decide)).trans hk) ((apt_f (by decide) (by decide)).trans hn) ((apt_f (by decide) (by decide)).trans hm) (apt_0 (by decide) hb) (by omega) (by omega)) ?_
    rw [show apt 84 83 0 (apt 84 83 0 α b [60]) (1 + b) [10] = apt 84 83 0 α b [60, 10] from apt_app (by simp)]
    refine ok_step (ps := []) (L' := [some (.ref 83), some (.int (nI 60)), some (.int (nI 0)), some (.int x), some (.int (nI (1 + dep)))]) (st' := [.int ((x + nu) ^^^ ((apt 84 83 0 α b [60, 10]) 83 4))]) (σ' := (apt 84 83 0 α b [60, 10], δ)) (pc' := 247) kX9_runBody_242 rfl rfl rf_a0 ?_
    try rw [(show (apt 84 83 0 α b [60, 10]) 83 4 = mn from (apt_f (by decide) (by decide)).trans hm)]
    refine ok_reti eX9_runBody_247 rfl ?_
    exact ⟨rfl, rfl⟩
  refine ok_V (As := [.int (nI 60), .int (nI 0), .int x, .int (nI (1 + dep))]) (b := 83) (st := []) mkX9_runBody qX9_speak_105 rfl (rc_83) rfl rfl rfl rfl (Nat.le_of_ble_eq_true rfl) (hc105) ?_
  refine ok_reti eX9_speak_108 rfl ?_
  exact ⟨rfl, rfl⟩
theorem cv7_0_7 {x : Int32} {b dep : Nat} (hk : α 83 2 = nI 7) (hn : α 83 3 = nu) (hm : α 83 4 = mn) (hb : α 83 0 = nI b) (hl : b + 3 ≤ 40) (hd : dep + 3 ≤ 30) : rf_At (rf_T Ln xs) MX9_speak 6 0 ([some (.ref 83), some (.int (nI 7)), some (.int (nI 0)), some (.int x), some (.int (nI dep)), none, none], [], 108, (α, δ)) (some (.int (((x + nu) ^^^ mn) + nu))) 108 (apt 84 83 0 α b [80, 60, 10], δ) := by
  refine rf_pa ?_
  refine ok_step (ps := []) (L' := [some (.ref 83), some (.int (nI 7)), some (.int (nI 0)), some (.int x), some (.int (nI dep)), some (.int (nI 7)), some (.int (nI 0))]) (st' := []) (σ' := (α, δ)) (pc' := 6) kX9_speak_0 rfl rfl rf_a0 ?_
  refine ok_step (ps := []) (L' := [some (.ref 83), some (.int (nI 7)), some (.int (nI 0)), some (.int x), some (.int (nI dep)), some (.int (nI 7)), some (.int (nI 0))]) (st' := [.int (nI 8), .int (nI 0)]) (σ' := (α, δ)) (pc' := 10) kX9_speak_6 rfl rfl rf_a0 ?_
  refine ok_icmp_ge bX9_speak_10 (fun h10 => absurd h10 ((by decide))) (fun _ => ?_)
  refine ok_step (ps := [rf_in (((nI 7) * (nI 4)) + (nI 0)) 32]) (L' := [some (.ref 83), some (.int (nI 7)), some (.int (nI 0)), some (.int x), some (.int (nI dep)), some (.int (nI 7)), some (.int (nI 0))]) (st' := [.int (tBodies ((((nI 7) * (nI 4)) + (nI 0)).toNatClampNeg))]) (σ' := (α, δ)) (pc' := 23) kX9_speak_13 rfl rfl (rf_a1 (rf_in_n (a := 28) (by (try rw [(show ((nI 7) * (nI 4)) = nI 28 from rf_eq (rf_nmul (x := nI 7) (y := nI 4) rfl rfl) (by omega))]); (try rw [(show ((nI 28) + (nI 0)) = nI 28 from rf_eq (rf_nadd (x := nI 28) (y := nI 0) rfl rfl) (by omega))]); all_goals exact rfl) (by omega)) rf_a0) ?_
  try rw [(show ((nI 7) * (nI 4)) = nI 28 from rf_eq (rf_nmul (x := nI 7) (y := nI 4) rfl rfl) (by omega))]
  try rw [(show ((nI 28) + (nI 0)) = nI 28 from rf_eq (rf_nadd (x := nI 28) (y := nI 0) rfl rfl) (by omega))]
  try rw [(show (nI 28).toNatClampNeg = 28 from rf_cl_n rfl (by omega))]
  try rw [(show tBodies 28 = nI 80 from rfl)]
  refine ok_if_ne bX9_speak_23 (fun _ => ?_) (fun h23 => absurd h23 ((by decide)))
  refine ok_step (ps := []) (L' := [some (.ref 83), some (.int (nI 7)), some (.int (nI 0)), some (.int x), some (.int (nI dep)), some (.int (nI 7)), some (.int (nI 0))]) (st' := [.int (nI 30), .int (nI dep)]) (σ' := (α, δ)) (pc' := 44) kX9_speak_40 rfl rfl rf_a0 ?_
  refine ok_icmp_le bX9_speak_44 (fun _ => ?_) (fun h44 => absurd (nI_le (by omega) (by omega)) h44)
  refine ok_step (ps := [rf_in (((nI 7) * (nI 4)) + (nI 0)) 32]) (L' := [some (.ref 83), some (.int (nI 7)), some (.int (nI 0)), some (.int x), some (.int (nI dep)), some (.int (nI 7)), some (.int (tBodies ((((nI 7) * (nI 4)) + (nI 0)).toNatClampNeg)))]) (st' := [.int (nI 40), .int (α 83 0)]) (σ' := (α, δ)) (pc' := 67) kX9_speak_49 rfl rfl (rf_a1 (rf_in_n (a := 28) (by (try rw [(show ((nI 7) * (nI 4)) = nI 28 from rf_eq (rf_nmul (x := nI 7) (y := nI 4) rfl rfl) (by omega))]); (try rw [(show ((nI 28) + (nI 0)) = nI 28 from rf_eq (rf_nadd (x := nI 28) (y := nI 0) rfl rfl) (by omega))]); all_goals exact rfl) (by omega)) rf_a0) ?_
  try rw [(show ((nI 7) * (nI 4)) = nI 28 from rf_eq (rf_nmul (x := nI 7) (y := nI 4) rfl rfl) (by omega))]
  try rw [(show ((nI 28) + (nI 0)) = nI 28 from rf_eq (rf_nadd (x := nI 28) (y := nI 0) rfl rfl) (by omega))]
  try rw [(show (nI 28).toNatClampNeg = 28 from rf_cl_n rfl (by omega))]
  try rw [(show tBodies 28 = nI 80 from rfl)]
  try rw [(show α 83 0 = nI b from hb)]
  refine ok_icmp_ge bX9_speak_67 (fun h67 => absurd h67 (nI_ge (by omega) (by omega))) (fun _ => ?_)
  refine ok_step (ps := [rf_in (α 83 0) 40]) (L' := [some (.ref 83), some (.int (nI 7)), some (.int (nI 0)), some (.int x), some (.int (nI dep)), some (.int (nI 7)), some (.int (nI 80))]) (st' := []) (σ' := (rf_w (rf_w α 84 ((α 83 0).toNatClampNeg) (nI 80)) 83 0 (((rf_w α 84 ((α 83 0).toNatClampNeg) (nI 80)) 83 0) + (nI 1)), δ)) (pc' := 91) kX9_speak_70 rfl rfl (rf_a1 (rf_in_n (a := b) (by (try rw [(show α 83 0 = nI b from hb)]); all_goals exact rfl) (by omega)) rf_a0) ?_
  try rw [(show α 83 0 = nI b from hb)]
  try rw [(show (nI b).toNatClampNeg = b from rf_cl_n rfl (by omega))]
  try rw [(show (rf_w α 84 b (nI 80)) 83 0 = α 83 0 from by rw [rf_w_at, if_neg (fun h => absurd h.1 (by decide))])]
  try rw [(show α 83 0 = nI b from hb)]
  try rw [(show ((nI b) + (nI 1)) = nI (1 + b) from rf_eq (rf_nadd (x := nI b) (y := nI 1) rfl rfl) (by omega))]
  rw [show rf_w (rf_w α 84 b (nI 80)) 83 0 (nI (1 + b)) = apt 84 83 0 α b [80] from apt_w (L := []) (by simp) (by omega)]
  refine ok_step (ps := [rf_in (nI 7) 8]) (L' := [some (.ref 83), some (.int (nI 7)), some (.int (nI 0)), some (.int x), some (.int (nI dep)), some (.int (nI 7)), some (.int (nI 80))]) (st' := [.int ((nI dep) + (nI 1)), .int x, .int (tAbove ((nI 7).toNatClampNeg)), .int (nI 80), .ref 83]) (σ' := (apt 84 83 0 α b [80], δ)) (pc' := 105) kX9_speak_91 rfl rfl (rf_a1 (rf_in_n (a := 7) rfl (by omega)) rf_a0) ?_
  try rw [(show (nI 7).toNatClampNeg = 7 from rf_cl_n rfl (by omega))]
  try rw [(show tAbove 7 = nI 5 from rfl)]
  try rw [(show ((nI dep) + (nI 1)) = nI (1 + dep) from rf_eq (rf_nadd (x := nI dep) (y := nI 1) rfl rfl) (by omega))]
  have hc105 : rf_At (rf_T Ln xs) MX9_runBody 5 0 ([some (.ref 83), some (.int (nI 80)), some (.int (nI 5)), some (.int x), some (.int (nI (1 + dep)))], [], 108, (apt 84 83 0 α b [80], δ)) (some (.int (((x + nu) ^^^ mn) + nu))) 108 (apt 84 83 0 α b [80, 60, 10], δ) := by
    refine rf_pa ?_
    refine ok_step (ps := []) (L' := [some (.ref 83), some (.int (nI 80)), some (.int (nI 5)), some (.int x), some (.int (nI (1 + dep)))]) (st' := [.int (nI 80)]) (σ' := (apt 84 83 0 α b [80], δ)) (pc' := 1) kX9_runBody_0 rfl rfl rf_a0 ?_
    refine ok_lkk (q := (80, 270)) (t := 271) bX9_runBody_1 (by decide) (by decide) (by decide) (by decide) ?_
    refine ok_step (ps := []) (L' := [some (.ref 83), some (.int (nI 80)), some (.int (nI 5)), some (.int x), some (.int (nI (1 + dep)))]) (st' := [.int (nI (1 + dep)), .int x, .int (nI 0), .int (nI 5), .ref 83]) (σ' := (apt 84 83 0 α b [80], δ)) (pc' := 277) kX9_runBody_271 rfl rfl rf_a0 ?_
    refine ok_V (As := [.int (nI 5), .int (nI 0), .int x, .int (nI (1 + dep))]) (b := 83) (st := []) mkX9_speak qX9_runBody_277 rfl (rc_83) rfl rfl rfl rfl (Nat.le_of_ble_eq_true rfl) (cv7_0_5 (b := (1 + b)) (dep := (1 + dep)) ((apt_f (by decide) (by decide)).trans hk) ((apt_f (by decide) (by decide)).trans hn) ((apt_f (by decide) (by decide)).trans hm) (apt_0 (by decide) hb) (by omega) (by omega)) ?_
    rw [show apt 84 83 0 (apt 84 83 0 α b [80]) (1 + b) [60, 10] = apt 84 83 0 α b [80, 60, 10] from apt_app (by simp)]
    refine ok_step (ps := []) (L' := [some (.ref 83), some (.int (nI 80)), some (.int (nI 5)), some (.int x), some (.int (nI (1 + dep)))]) (st' := [.int (((x + nu) ^^^ mn) + ((apt 84 83 0 α b [80, 60, 10]) 83 3))]) (σ' := (apt 84 83 0 α b [80, 60, 10], δ)) (pc' := 285) kX9_runBody_280 rfl rfl rf_a0 ?_
    try rw [(show (apt 84 83 0 α b [80, 60, 10]) 83 3 = nu from (apt_f (by decide) (by decide)).trans hn)]
    refine ok_reti eX9_runBody_285 rfl ?_
    exact ⟨rfl, rfl⟩
  refine ok_V (As := [.int (nI 80), .int (nI 5), .int x, .int (nI (1 + dep))]) (b := 83) (st := []) mkX9_runBody qX9_speak_105 rfl (rc_83) rfl rfl rfl rfl (Nat.le_of_ble_eq_true rfl) (hc105) ?_
  refine ok_reti eX9_speak_108 rfl ?_
  exact ⟨rfl, rfl⟩
theorem cv7_1_7 {x : Int32} {b dep : Nat} (hk : α 83 2 = nI 7) (hn : α 83 3 = nu) (hm : α 83 4 = mn) (hb : α 83 0 = nI b) (hl : b + 4 ≤ 40) (hd : dep + 4 ≤ 30) : rf_At (rf_T Ln xs) MX9_speak 8 0 ([some (.ref 83), some (.int (nI 7)), some (.int (nI 1)), some (.int x), some (.int (nI dep)), none, none], [], 108, (α, δ)) (some (.int ((((x + nu) ^^^ mn) + nu) * nI 2))) 108 (apt 84 83 0 α b [11, 80, 60, 10], δ) := by
  refine rf_pa ?_
  refine ok_step (ps := []) (L' := [some (.ref 83), some (.int (nI 7)), some (.int (nI 1)), some (.int x), some (.int (nI dep)), some (.int (nI 7)), some (.int (nI 0))]) (st' := []) (σ' := (α, δ)) (pc' := 6) kX9_speak_0 rfl rfl rf_a0 ?_
  refine ok_step (ps := []) (L' := [some (.ref 83), some (.int (nI 7)), some (.int (nI 1)), some (.int x), some (.int (nI dep)), some (.int (nI 7)), some (.int (nI 0))]) (st' := [.int (nI 8), .int (nI 0)]) (σ' := (α, δ)) (pc' := 10) kX9_speak_6 rfl rfl rf_a0 ?_
  refine ok_icmp_ge bX9_speak_10 (fun h10 => absurd h10 ((by decide))) (fun _ => ?_)
  refine ok_step (ps := [rf_in (((nI 7) * (nI 4)) + (nI 1)) 32]) (L' := [some (.ref 83), some (.int (nI 7)), some (.int (nI 1)), some (.int x), some (.int (nI dep)), some (.int (nI 7)), some (.int (nI 0))]) (st' := [.int (tBodies ((((nI 7) * (nI 4)) + (nI 1)).toNatClampNeg))]) (σ' := (α, δ)) (pc' := 23) kX9_speak_13 rfl rfl (rf_a1 (rf_in_n (a := 29) (by (try rw [(show ((nI 7) * (nI 4)) = nI 28 from rf_eq (rf_nmul (x := nI 7) (y := nI 4) rfl rfl) (by omega))]); (try rw [(show ((nI 28) + (nI 1)) = nI 29 from rf_eq (rf_nadd (x := nI 28) (y := nI 1) rfl rfl) (by omega))]); all_goals exact rfl) (by omega)) rf_a0) ?_
  try rw [(show ((nI 7) * (nI 4)) = nI 28 from rf_eq (rf_nmul (x := nI 7) (y := nI 4) rfl rfl) (by omega))]
  try rw [(show ((nI 28) + (nI 1)) = nI 29 from rf_eq (rf_nadd (x := nI 28) (y := nI 1) rfl rfl) (by omega))]
  try rw [(show (nI 29).toNatClampNeg = 29 from rf_cl_n rfl (by omega))]
  try rw [(show tBodies 29 = nI 0 from rfl)]
  refine ok_if_ne bX9_speak_23 (fun h23 => absurd ((by decide)) h23) (fun _ => ?_)
  refine ok_step (ps := [rf_in (nI 7) 8]) (L' := [some (.ref 83), some (.int (nI 7)), some (.int (nI 1)), some (.int x), some (.int (nI dep)), some (.int (tAbove ((nI 7).toNatClampNeg))), some (.int ((nI 0) + (nI 1)))]) (st' := []) (σ' := (α, δ)) (pc' := 37) kX9_speak_26 rfl rfl (rf_a1 (rf_in_n (a := 7) rfl (by omega)) rf_a0) ?_
  try rw [(show (nI 7).toNatClampNeg = 7 from rf_cl_n rfl (by omega))]
  try rw [(show tAbove 7 = nI 5 from rfl)]
  try rw [(show ((nI 0) + (nI 1)) = nI 1 from rf_eq (rf_nadd (x := nI 0) (y := nI 1) rfl rfl) (by omega))]
  refine ok_goto bX9_speak_37 ?_
  refine ok_step (ps := []) (L' := [some (.ref 83), some (.int (nI 7)), some (.int (nI 1)), some (.int x), some (.int (nI dep)), some (.int (nI 5)), some (.int (nI 1))]) (st' := [.int (nI 8), .int (nI 1)]) (σ' := (α, δ)) (pc' := 10) kX9_speak_6 rfl rfl rf_a0 ?_
  refine ok_icmp_ge bX9_speak_10 (fun h10 => absurd h10 ((by decide))) (fun _ => ?_)
  refine ok_step (ps := [rf_in (((nI 5) * (nI 4)) + (nI 1)) 32]) (L' := [some (.ref 83), some (.int (nI 7)), some (.int (nI 1)), some (.int x), some (.int (nI dep)), some (.int (nI 5)), some (.int (nI 1))]) (st' := [.int (tBodies ((((nI 5) * (nI 4)) + (nI 1)).toNatClampNeg))]) (σ' := (α, δ)) (pc' := 23) kX9_speak_13 rfl rfl (rf_a1 (rf_in_n (a := 21) (by (try rw [(show ((nI 5) * (nI 4)) = nI 20 from rf_eq (rf_nmul (x := nI 5) (y := nI 4) rfl rfl) (by omega))]); (try rw [(show ((nI 20) + (nI 1)) = nI 21 from rf_eq (rf_nadd (x := nI 20) (y := nI 1) rfl rfl) (by omega))]); all_goals exact rfl) (by omega)) rf_a0) ?_
  try rw [(show ((nI 5) * (nI 4)) = nI 20 from rf_eq (rf_nmul (x := nI 5) (y := nI 4) rfl rfl) (by omega))]
  try rw [(show ((nI 20) + (nI 1)) = nI 21 from rf_eq (rf_nadd (x := nI 20) (y := nI 1) rfl rfl) (by omega))]
  try rw [(show (nI 21).toNatClampNeg = 21 from rf_cl_n rfl (by omega))]
  try rw [(show tBodies 21 = nI 0 from rfl)]
  refine ok_if_ne bX9_speak_23 (fun h23 => absurd ((by decide)) h23) (fun _ => ?_)
  refine ok_step (ps := [rf_in (nI 5) 8]) (L' := [some (.ref 83), some (.int (nI 7)), some (.int (nI 1)), some (.int x), some (.int (nI dep)), some (.int (tAbove ((nI 5).toNatClampNeg))), some (.int ((nI 1) + (nI 1)))]) (st' := []) (σ' := (α, δ)) (pc' := 37) kX9_speak_26 rfl rfl (rf_a1 (rf_in_n (a := 5) rfl (by omega)) rf_a0) ?_
  try rw [(show (nI 5).toNatClampNeg = 5 from rf_cl_n rfl (by omega))]
  try rw [(show tAbove 5 = nI 0 from rfl)]
  try rw [(show ((nI 1) + (nI 1)) = nI 2 from rf_eq (rf_nadd (x := nI 1) (y := nI 1) rfl rfl) (by omega))]
  refine ok_goto bX9_speak_37 ?_
  refine ok_step (ps := []) (L' := [some (.ref 83), some (.int (nI 7)), some (.int (nI 1)), some (.int x), some (.int (nI dep)), some (.int (nI 0)), some (.int (nI 2))]) (st' := [.int (nI 8), .int (nI 2)]) (σ' := (α, δ)) (pc' := 10) kX9_speak_6 rfl rfl rf_a0 ?_
  refine ok_icmp_ge bX9_speak_10 (fun h10 => absurd h10 ((by decide))) (fun _ => ?_)
  refine ok_step (ps := [rf_in (((nI 0) * (nI 4)) + (nI 1)) 32]) (L' := [some (.ref 83), some (.int (nI 7)), some (.int (nI 1)), some (.int x), some (.int (nI dep)), some (.int (nI 0)), some (.int (nI 2))]) (st' := [.int (tBodies ((((nI 0) * (nI 4)) + (nI 1)).toNatClampNeg))]) (σ' := (α, δ)) (pc' := 23) kX9_speak_13 rfl rfl (rf_a1 (rf_in_n (a := 1) (by (try rw [(show ((nI 0) * (nI 4)) = nI 0 from rf_eq (rf_nmul (x := nI 0) (y := nI 4) rfl rfl) (by omega))]); (try rw [(show ((nI 0) + (nI 1)) = nI 1 from rf_eq (rf_nadd (x := nI 0) (y := nI 1) rfl rfl) (by omega))]); all_goals exact rfl) (by omega)) rf_a0) ?_
  try rw [(show ((nI 0) * (nI 4)) = nI 0 from rf_eq (rf_nmul (x := nI 0) (y := nI 4) rfl rfl) (by omega))]
  try rw [(show ((nI 0) + (nI 1)) = nI 1 from rf_eq (rf_nadd (x := nI 0) (y := nI 1) rfl rfl) (by omega))]
  try rw [(show (nI 1).toNatClampNeg = 1 from rf_cl_n rfl (by omega))]
  try rw [(show tBodies 1 = nI 11 from rfl)]
  refine ok_if_ne bX9_speak_23 (fun _ => ?_) (fun h23 => absurd h23 ((by decide)))
  refine ok_step (ps := []) (L' := [some (.ref 83), some (.int (nI 7)), some (.int (nI 1)), some (.int x), some (.int (nI dep)), some (.int (nI 0)), some (.int (nI 2))]) (st' := [.int (nI 30), .int (nI dep)]) (σ' := (α, δ)) (pc' := 44) kX9_speak_40 rfl rfl rf_a0 ?_
  refine ok_icmp_le bX9_speak_44 (fun _ => ?_) (fun h44 => absurd (nI_le (by omega) (by omega)) h44)
  refine ok_step (ps := [rf_in (((nI 0) * (nI 4)) + (nI 1)) 32]) (L' := [some (.ref 83), some (.int (nI 7)), some (.int (nI 1)), some (.int x), some (.int (nI dep)), some (.int (nI 0)), some (.int (tBodies ((((nI 0) * (nI 4)) + (nI 1)).toNatClampNeg)))]) (st' := [.int (nI 40), .int (α 83 0)]) (σ' := (α, δ)) (pc' := 67) kX9_speak_49 rfl rfl (rf_a1 (rf_in_n (a := 1) (by (try rw [(show ((nI 0) * (nI 4)) = nI 0 from rf_eq (rf_nmul (x := nI 0) (y := nI 4) rfl rfl) (by omega))]); (try rw [(show ((nI 0) + (nI 1)) = nI 1 from rf_eq (rf_nadd (x := nI 0) (y := nI 1) rfl rfl) (by omega))]); all_goals exact rfl) (by omega)) rf_a0) ?_
  try rw [(show ((nI 0) * (nI 4)) = nI 0 from rf_eq (rf_nmul (x := nI 0) (y := nI 4) rfl rfl) (by omega))]
  try rw [(show ((nI 0) + (nI 1)) = nI 1 from rf_eq (rf_nadd (x := nI 0) (y := nI 1) rfl rfl) (by omega))]
  try rw [(show (nI 1).toNatClampNeg = 1 from rf_cl_n rfl (by omega))]
  try rw [(show tBodies 1 = nI 11 from rfl)]
  try rw [(show α 83 0 = nI b from hb)]
  refine ok_icmp_ge bX9_speak_67 (fun h67 => absurd h67 (nI_ge (by omega) (by omega))) (fun _ => ?_)
  refine ok_step (ps := [rf_in (α 83 0) 40]) (L' := [some (.ref 83), some (.int (nI 7)), some (.int (nI 1)), some (.int x), some (.int (nI dep)), some (.int (nI 0)), some (.int (nI 11))]) (st' := []) (σ' := (rf_w (rf_w α 84 ((α 83 0).toNatClampNeg) (nI 11)) 83 0 (((rf_w α 84 ((α 83 0).toNatClampNeg) (nI 11)) 83 0) + (nI 1)), δ)) (pc' := 91) kX9_speak_70 rfl rfl (rf_a1 (rf_in_n (a := b) (by (try rw [(show α 83 0 = nI b from hb)]); all_goals exact rfl) (by omega)) rf_a0) ?_
  try rw [(show α 83 0 = nI b from hb)]
  try rw [(show (nI b).toNatClampNeg = b from rf_cl_n rfl (by omega))]
  try rw [(show (rf_w α 84 b (nI 11)) 83 0 = α 83 0 from by rw [rf_w_at, if_neg (fun h => absurd h.1 (by decide))])]
  try rw [(show α 83 0 = nI b from hb)]
  try rw [(show ((nI b) + (nI 1)) = nI (1 + b) from rf_eq (rf_nadd (x := nI b) (y := nI 1) rfl rfl) (by omega))]
  rw [show rf_w (rf_w α 84 b (nI 11)) 83 0 (nI (1 + b)) = apt 84 83 0 α b [11] from apt_w (L := []) (by simp) (by omega)]
  refine ok_step (ps := [rf_in (nI 0) 8]) (L' := [some (.ref 83), some (.int (nI 7)), some (.int (nI 1)), some (.int x), some (.int (nI dep)), some (.int (nI 0)), some (.int (nI 11))]) (st' := [.int ((nI dep) + (nI 1)), .int x, .int (tAbove ((nI 0).toNatClampNeg)), .int (nI 11), .ref 83]) (σ' := (apt 84 83 0 α b [11], δ)) (pc' := 105) kX9_speak_91 rfl rfl (rf_a1 (rf_in_n (a := 0) rfl (by omega)) rf_a0) ?_
  try rw [(show (nI 0).toNatClampNeg = 0 from rf_cl_n rfl (by omega))]
  try rw [(show tAbove 0 = nI 0 from rfl)]
  try rw [(show ((nI dep) + (nI 1)) = nI (1 + dep) from rf_eq (rf_nadd (x := nI dep) (y := nI 1) rfl rfl) (by omega))]
  have hc105 : rf_At (rf_T Ln xs) MX9_runBody 7 0 ([some (.ref 83), some (.int (nI 11)), some (.int (nI 0)), some (.int x), some (.int (nI (1 + dep)))], [], 108, (apt 84 83 0 α b [11], δ)) (some (.int ((((x + nu) ^^^ mn) + nu) * (nI 2)))) 108 (apt 84 83 0 α b [11, 80, 60, 10], δ) := by
    refine rf_pa ?_
    refine ok_step (ps := []) (L' := [some (.ref 83), some (.int (nI 11)), some (.int (nI 0)), some (.int x), some (.int (nI (1 + dep)))]) (st' := [.int (nI 11)]) (σ' := (apt 84 83 0 α b [11], δ)) (pc' := 1) kX9_runBody_0 rfl rfl rf_a0 ?_
    refine ok_lkk (q := (11, 114)) (t := 115) bX9_runBody_1 (by decide) (by decide) (by decide) (by decide) ?_
    refine ok_step (ps := []) (L' := [some (.ref 83), some (.int (nI 11)), some (.int (nI 0)), some (.int x), some (.int (nI (1 + dep)))]) (st' := [.int (nI (1 + dep)), .int x, .int (nI 0), .int ((apt 84 83 0 α b [11]) 83 2), .ref 83]) (σ' := (apt 84 83 0 α b [11], δ)) (pc' := 124) kX9_runBody_115 rfl rfl rf_a0 ?_
    try rw [(show (apt 84 83 0 α b [11]) 83 2 = nI 7 from (apt_f (by decide) (by decide)).trans hk)]
    refine ok_V (As := [.int (nI 7), .int (nI 0), .int x, .int (nI (1 + dep))]) (b := 83) (st := []) mkX9_speak qX9_runBody_124 rfl (rc_83) rfl rfl rfl rfl (Nat.le_of_ble_eq_true rfl) (cv7_0_7 (b := (1 + b)) (dep := (1 + dep)) ((apt_f (by decide) (by decide)).trans hk) ((apt_f (by decide) (by decide)).trans hn) ((apt_f (by decide) (by decide)).trans hm) (apt_0 (by decide) hb) (by omega) (by omega)) ?_
    rw [show apt 84 83 0 (apt 84 83 0 α b [11]) (1 + b) [80, 60, 10] = apt 84 83 0 α b [11, 80, 60, 10] from apt_app (by simp)]
    refine ok_step (ps := []) (L' := [some (.ref 83), some (.int (nI 11)), some (.int (nI 0)), some (.int x), some (.int (nI (1 + dep)))]) (st' := [.int ((((x + nu) ^^^ mn) + nu) * (nI 2))]) (σ' := (apt 84 83 0 α b [11, 80, 60, 10], δ)) (pc' := 129) kX9_runBody_127 rfl rfl rf_a0 ?_
    refine ok_reti eX9_runBody_129 rfl ?_
    exact ⟨rfl, rfl⟩
  refine ok_V (As := [.int (nI 11), .int (nI 0), .int x, .int (nI (1 + dep))]) (b := 83) (st := []) mkX9_runBody qX9_speak_105 rfl (rc_83) rfl rfl rfl rfl (Nat.le_of_ble_eq_true rfl) (hc105) ?_
  refine ok_reti eX9_speak_108 rfl ?_
  exact ⟨rfl, rfl⟩
theorem cv7_2_5 {x : Int32} {b dep : Nat} (hk : α 83 2 = nI 7) (hn : α 83 3 = nu) (hm : α 83 4 = mn) (hb : α 83 0 = nI b) (hl : b + 1 ≤ 40) (hd : dep + 1 ≤ 30) : rf_At (rf_T Ln xs) MX9_speak 2 0 ([some (.ref 83), some (.int (nI 5)), some (.int (nI 2)), some (.int x), some (.int (nI dep)), none, none], [], 108, (α, δ)) (some (.int (x - mn))) 108 (apt 84 83 0 α b [12], δ) := by
  refine rf_pa ?_
  refine ok_step (ps := []) (L' := [some (.ref 83), some (.int (nI 5)), some (.int (nI 2)), some (.int x), some (.int (nI dep)), some (.int (nI 5)), some (.int (nI 0))]) (st' := []) (σ' := (α, δ)) (pc' := 6) kX9_speak_0 rfl rfl rf_a0 ?_
  refine ok_step (ps := []) (L' := [some (.ref 83), some (.int (nI 5)), some (.int (nI 2)), some (.int x), some (.int (nI dep)), some (.int (nI 5)), some (.int (nI 0))]) (st' := [.int (nI 8), .int (nI 0)]) (σ' := (α, δ)) (pc' := 10) kX9_speak_6 rfl rfl rf_a0 ?_
  refine ok_icmp_ge bX9_speak_10 (fun h10 => absurd h10 ((by decide))) (fun _ => ?_)
  refine ok_step (ps := [rf_in (((nI 5) * (nI 4)) + (nI 2)) 32]) (L' := [some (.ref 83), some (.int (nI 5)), some (.int (nI 2)), some (.int x), some (.int (nI dep)), some (.int (nI 5)), some (.int (nI 0))]) (st' := [.int (tBodies ((((nI 5) * (nI 4)) + (nI 2)).toNatClampNeg))]) (σ' := (α, δ)) (pc' := 23) kX9_speak_13 rfl rfl (rf_a1 (rf_in_n (a := 22) (by (try rw [(show ((nI 5) * (nI 4)) = nI 20 from rf_eq (rf_nmul (x := nI 5) (y := nI 4) rfl rfl) (by omega))]); (try rw [(show ((nI 20) + (nI 2)) = nI 22 from rf_eq (rf_nadd (x := nI 20) (y := nI 2) rfl rfl) (by omega))]); all_goals exact rfl) (by omega)) rf_a0) ?_
  try rw [(show ((nI 5) * (nI 4)) = nI 20 from rf_eq (rf_nmul (x := nI 5) (y := nI 4) rfl rfl) (by omega))]
  try rw [(show ((nI 20) + (nI 2)) = nI 22 from rf_eq (rf_nadd (x := nI 20) (y := nI 2) rfl rfl) (by omega))]
  try rw [(show (nI 22).toNatClampNeg = 22 from rf_cl_n rfl (by omega))]
  try rw [(show tBodies 22 = nI 0 from rfl)]
  refine ok_if_ne bX9_speak_23 (fun h23 => absurd ((by decide)) h23) (fun _ => ?_)
  refine ok_step (ps := [rf_in (nI 5) 8]) (L' := [some (.ref 83), some (.int (nI 5)), some (.int (nI 2)), some (.int x), some (.int (nI dep)), some (.int (tAbove ((nI 5).toNatClampNeg))), some (.int ((nI 0) + (nI 1)))]) (st' := []) (σ' := (α, δ)) (pc' := 37) kX9_speak_26 rfl rfl (rf_a1 (rf_in_n (a := 5) rfl (by omega)) rf_a0) ?_
  try rw [(show (nI 5).toNatClampNeg = 5 from rf_cl_n rfl (by omega))]
  try rw [(show tAbove 5 = nI 0 from rfl)]
  try rw [(show ((nI 0) + (nI 1)) = nI 1 from rf_eq (rf_nadd (x := nI 0) (y := nI 1) rfl rfl) (by omega))]
  refine ok_goto bX9_speak_37 ?_
  refine ok_step (ps := []) (L' := [some (.ref 83), some (.int (nI 5)), some (.int (nI 2)), some (.int x), some (.int (nI dep)), some (.int (nI 0)), some (.int (nI 1))]) (st' := [.int (nI 8), .int (nI 1)]) (σ' := (α, δ)) (pc' := 10) kX9_speak_6 rfl rfl rf_a0 ?_
  refine ok_icmp_ge bX9_speak_10 (fun h10 => absurd h10 ((by decide))) (fun _ => ?_)
  refine ok_step (ps := [rf_in (((nI 0) * (nI 4)) + (nI 2)) 32]) (L' := [some (.ref 83), some (.int (nI 5)), some (.int (nI 2)), some (.int x), some (.int (nI dep)), some (.int (nI 0)), some (.int (nI 1))]) (st' := [.int (tBodies ((((nI 0) * (nI 4)) + (nI 2)).toNatClampNeg))]) (σ' := (α, δ)) (pc' := 23) kX9_speak_13 rfl rfl (rf_a1 (rf_in_n (a := 2) (by (try rw [(show ((nI 0) * (nI 4)) = nI 0 from rf_eq (rf_nmul (x := nI 0) (y := nI 4) rfl rfl) (by omega))]); (try rw [(show ((nI 0) + (nI 2)) = nI 2 from rf_eq (rf_nadd (x := nI 0) (y := nI 2) rfl rfl) (by omega))]); all_goals exact rfl) (by omega)) rf_a0) ?_
  try rw [(show ((nI 0) * (nI 4)) = nI 0 from rf_eq (rf_nmul (x := nI 0) (y := nI 4) rfl rfl) (by omega))]
  try rw [(show ((nI 0) + (nI 2)) = nI 2 from rf_eq (rf_nadd (x := nI 0) (y := nI 2) rfl rfl) (by omega))]
  try rw [(show (nI 2).toNatClampNeg = 2 from rf_cl_n rfl (by omega))]
  try rw [(show tBodies 2 = nI 12 from rfl)]
  refine ok_if_ne bX9_speak_23 (fun _ => ?_) (fun h23 => absurd h23 ((by decide)))
  refine ok_step (ps := []) (L' := [some (.ref 83), some (.int (nI 5)), some (.int (nI 2)), some (.int x), some (.int (nI dep)), some (.int (nI 0)), some (.int (nI 1))]) (st' := [.int (nI 30), .int (nI dep)]) (σ' := (α, δ)) (pc' := 44) kX9_speak_40 rfl rfl rf_a0 ?_
  refine ok_icmp_le bX9_speak_44 (fun _ => ?_) (fun h44 => absurd (nI_le (by omega) (by omega)) h44)
  refine ok_step (ps := [rf_in (((nI 0) * (nI 4)) + (nI 2)) 32]) (L' := [some (.ref 83), some (.int (nI 5)), some (.int (nI 2)), some (.int x), some (.int (nI dep)), some (.int (nI 0)), some (.int (tBodies ((((nI 0) * (nI 4)) + (nI 2)).toNatClampNeg)))]) (st' := [.int (nI 40), .int (α 83 0)]) (σ' := (α, δ)) (pc' := 67) kX9_speak_49 rfl rfl (rf_a1 (rf_in_n (a := 2) (by (try rw [(show ((nI 0) * (nI 4)) = nI 0 from rf_eq (rf_nmul (x := nI 0) (y := nI 4) rfl rfl) (by omega))]); (try rw [(show ((nI 0) + (nI 2)) = nI 2 from rf_eq (rf_nadd (x := nI 0) (y := nI 2) rfl rfl) (by omega))]); all_goals exact rfl) (by omega)) rf_a0) ?_
  try rw [(show ((nI 0) * (nI 4)) = nI 0 from rf_eq (rf_nmul (x := nI 0) (y := nI 4) rfl rfl) (by omega))]
  try rw [(show ((nI 0) + (nI 2)) = nI 2 from rf_eq (rf_nadd (x := nI 0) (y := nI 2) rfl rfl) (by omega))]
  try rw [(show (nI 2).toNatClampNeg = 2 from rf_cl_n rfl (by omega))]
  try rw [(show tBodies 2 = nI 12 from rfl)]
  try rw [(show α 83 0 = nI b from hb)]
  refine ok_icmp_ge bX9_speak_67 (fun h67 => absurd h67 (nI_ge (by omega) (by omega))) (fun _ => ?_)
  refine ok_step (ps := [rf_in (α 83 0) 40]) (L' := [some (.ref 83), some (.int (nI 5)), some (.int (nI 2)), some (.int x), some (.int (nI dep)), some (.int (nI 0)), some (.int (nI 12))]) (st' := []) (σ' := (rf_w (rf_w α 84 ((α 83 0).toNatClampNeg) (nI 12)) 83 0 (((rf_w α 84 ((α 83 0).toNatClampNeg) (nI 12)) 83 0) + (nI 1)), δ)) (pc' := 91) kX9_speak_70 rfl rfl (rf_a1 (rf_in_n (a := b) (by (try rw [(show α 83 0 = nI b from hb)]); all_goals exact rfl) (by omega)) rf_a0) ?_
  try rw [(show α 83 0 = nI b from hb)]
  try rw [(show (nI b).toNatClampNeg = b from rf_cl_n rfl (by omega))]
  try rw [(show (rf_w α 84 b (nI 12)) 83 0 = α 83 0 from by rw [rf_w_at, if_neg (fun h => absurd h.1 (by decide))])]
  try rw [(show α 83 0 = nI b from hb)]
  try rw [(show ((nI b) + (nI 1)) = nI (1 + b) from rf_eq (rf_nadd (x := nI b) (y := nI 1) rfl rfl) (by omega))]
  rw [show rf_w (rf_w α 84 b (nI 12)) 83 0 (nI (1 + b)) = apt 84 83 0 α b [12] from apt_w (L := []) (by simp) (by omega)]
  refine ok_step (ps := [rf_in (nI 0) 8]) (L' := [some (.ref 83), some (.int (nI 5)), some (.int (nI 2)), some (.int x), some (.int (nI dep)), some (.int (nI 0)), some (.int (nI 12))]) (st' := [.int ((nI dep) + (nI 1)), .int x, .int (tAbove ((nI 0).toNatClampNeg)), .int (nI 12), .ref 83]) (σ' := (apt 84 83 0 α b [12], δ)) (pc' := 105) kX9_speak_91 rfl rfl (rf_a1 (rf_in_n (a := 0) rfl (by omega)) rf_a0) ?_
  try rw [(show (nI 0).toNatClampNeg = 0 from rf_cl_n rfl (by omega))]
  try rw [(show tAbove 0 = nI 0 from rfl)]
  try rw [(show ((nI dep) + (nI 1)) = nI (1 + dep) from rf_eq (rf_nadd (x := nI dep) (y := nI 1) rfl rfl) (by omega))]
  have hc105 : rf_At (rf_T Ln xs) MX9_runBody 1 0 ([some (.ref 83), some (.int (nI 12)), some (.int (nI 0)), some (.int x), some (.int (nI (1 + dep)))], [], 108, (apt 84 83 0 α b [12], δ)) (some (.int (x - mn))) 108 (apt 84 83 0 α b [12], δ) := by
    refine rf_pa ?_
    refine ok_step (ps := []) (L' := [some (.ref 83), some (.int (nI 12)), some (.int (nI 0)), some (.int x), some (.int (nI (1 + dep)))]) (st' := [.int (nI 12)]) (σ' := (apt 84 83 0 α b [12], δ)) (pc' := 1) kX9_runBody_0 rfl rfl rf_a0 ?_
    refine ok_lkk (q := (12, 129)) (t := 130) bX9_runBody_1 (by decide) (by decide) (by decide) (by decide) ?_
    refine ok_step (ps := []) (L' := [some (.ref 83), some (.int (nI 12)), some (.int (nI 0)), some (.int x), some (.int (nI (1 + dep)))]) (st' := [.int (x - ((apt 84 83 0 α b [12]) 83 4))]) (σ' := (apt 84 83 0 α b [12], δ)) (pc' := 136) kX9_runBody_130 rfl rfl rf_a0 ?_
    try rw [(show (apt 84 83 0 α b [12]) 83 4 = mn from (apt_f (by decide) (by decide)).trans hm)]
    refine ok_reti eX9_runBody_136 rfl ?_
    exact ⟨rfl, rfl⟩
  refine ok_V (As := [.int (nI 12), .int (nI 0), .int x, .int (nI (1 + dep))]) (b := 83) (st := []) mkX9_runBody qX9_speak_105 rfl (rc_83) rfl rfl rfl rfl (Nat.le_of_ble_eq_true rfl) (hc105) ?_
  refine ok_reti eX9_speak_108 rfl ?_
  exact ⟨rfl, rfl⟩
theorem cv7_2_7 {x : Int32} {b dep : Nat} (hk : α 83 2 = nI 7) (hn : α 83 3 = nu) (hm : α 83 4 = mn) (hb : α 83 0 = nI b) (hl : b + 2 ≤ 40) (hd : dep + 2 ≤ 30) : rf_At (rf_T Ln xs) MX9_speak 4 0 ([some (.ref 83), some (.int (nI 7)), some (.int (nI 2)), some (.int x), some (.int (nI dep)), none, none], [], 108, (α, δ)) (some (.int ((x - mn) * nI 5))) 108 (apt 84 83 0 α b [81, 12], δ) := by
  refine rf_pa ?_
  refine ok_step (ps := []) (L' := [some (.ref 83), some (.int (nI 7)), some (.int (nI 2)), some (.int x), some (.int (nI dep)), some (.int (nI 7)), some (.int (nI 0))]) (st' := []) (σ' := (α, δ)) (pc' := 6) kX9_speak_0 rfl rfl rf_a0 ?_
  refine ok_step (ps := []) (L' := [some (.ref 83), some (.int (nI 7)), some (.int (nI 2)), some (.int x), some (.int (nI dep)), some (.int (nI 7)), some (.int (nI 0))]) (st' := [.int (nI 8), .int (nI 0)]) (σ' := (α, δ)) (pc' := 10) kX9_speak_6 rfl rfl rf_a0 ?_
  refine ok_icmp_ge bX9_speak_10 (fun h10 => absurd h10 ((by decide))) (fun _ => ?_)
  refine ok_step (ps := [rf_in (((nI 7) * (nI 4)) + (nI 2)) 32]) (L' := [some (.ref 83), some (.int (nI 7)), some (.int (nI 2)), some (.int x), some (.int (nI dep)), some (.int (nI 7)), some (.int (nI 0))]) (st' := [.int (tBodies ((((nI 7) * (nI 4)) + (nI 2)).toNatClampNeg))]) (σ' := (α, δ)) (pc' := 23) kX9_speak_13 rfl rfl (rf_a1 (rf_in_n (a := 30) (by (try rw [(show ((nI 7) * (nI 4)) = nI 28 from rf_eq (rf_nmul (x := nI 7) (y := nI 4) rfl rfl) (by omega))]); (try rw [(show ((nI 28) + (nI 2)) = nI 30 from rf_eq (rf_nadd (x := nI 28) (y := nI 2) rfl rfl) (by omega))]); all_goals exact rfl) (by omega)) rf_a0) ?_
  try rw [(show ((nI 7) * (nI 4)) = nI 28 from rf_eq (rf_nmul (x := nI 7) (y := nI 4) rfl rfl) (by omega))]
  try rw [(show ((nI 28) + (nI 2)) = nI 30 from rf_eq (rf_nadd (x := nI 28) (y := nI 2) rfl rfl) (by omega))]
  try rw [(show (nI 30).toNatClampNeg = 30 from rf_cl_n rfl (by omega))]
  try rw [(show tBodies 30 = nI 81 from rfl)]
  refine ok_if_ne bX9_speak_23 (fun _ => ?_) (fun h23 => absurd h23 ((by decide)))
  refine ok_step (ps := []) (L' := [some (.ref 83), some (.int (nI 7)), some (.int (nI 2)), some (.int x), some (.int (nI dep)), some (.int (nI 7)), some (.int (nI 0))]) (st' := [.int (nI 30), .int (nI dep)]) (σ' := (α, δ)) (pc' := 44) kX9_speak_40 rfl rfl rf_a0 ?_
  refine ok_icmp_le bX9_speak_44 (fun _ => ?_) (fun h44 => absurd (nI_le (by omega) (by omega)) h44)
  refine ok_step (ps := [rf_in (((nI 7) * (nI 4)) + (nI 2)) 32]) (L' := [some (.ref 83), some (.int (nI 7)), some (.int (nI 2)), some (.int x), some (.int (nI dep)), some (.int (nI 7)), some (.int (tBodies ((((nI 7) * (nI 4)) + (nI 2)).toNatClampNeg)))]) (st' := [.int (nI 40), .int (α 83 0)]) (σ' := (α, δ)) (pc' := 67) kX9_speak_49 rfl rfl (rf_a1 (rf_in_n (a := 30) (by (try rw [(show ((nI 7) * (nI 4)) = nI 28 from rf_eq (rf_nmul (x := nI 7) (y := nI 4) rfl rfl) (by omega))]); (try rw [(show ((nI 28) + (nI 2)) = nI 30 from rf_eq (rf_nadd (x := nI 28) (y := nI 2) rfl rfl) (by omega))]); all_goals exact rfl) (by omega)) rf_a0) ?_
  try rw [(show ((nI 7) * (nI 4)) = nI 28 from rf_eq (rf_nmul (x := nI 7) (y := nI 4) rfl rfl) (by omega))]
  try rw [(show ((nI 28) + (nI 2)) = nI 30 from rf_eq (rf_nadd (x := nI 28) (y := nI 2) rfl rfl) (by omega))]
  try rw [(show (nI 30).toNatClampNeg = 30 from rf_cl_n rfl (by omega))]
  try rw [(show tBodies 30 = nI 81 from rfl)]
  try rw [(show α 83 0 = nI b from hb)]
  refine ok_icmp_ge bX9_speak_67 (fun h67 => absurd h67 (nI_ge (by omega) (by omega))) (fun _ => ?_)
  refine ok_step (ps := [rf_in (α 83 0) 40]) (L' := [some (.ref 83), some (.int (nI 7)), some (.int (nI 2)), some (.int x), some (.int (nI dep)), some (.int (nI 7)), some (.int (nI 81))]) (st' := []) (σ' := (rf_w (rf_w α 84 ((α 83 0).toNatClampNeg) (nI 81)) 83 0 (((rf_w α 84 ((α 83 0).toNatClampNeg) (nI 81)) 83 0) + (nI 1)), δ)) (pc' := 91) kX9_speak_70 rfl rfl (rf_a1 (rf_in_n (a := b) (by (try rw [(show α 83 0 = nI b from hb)]); all_goals exact rfl) (by omega)) rf_a0) ?_
  try rw [(show α 83 0 = nI b from hb)]
  try rw [(show (nI b).toNatClampNeg = b from rf_cl_n rfl (by omega))]
  try rw [(show (rf_w α 84 b (nI 81)) 83 0 = α 83 0 from by rw [rf_w_at, if_neg (fun h => absurd h.1 (by decide))])]
  try rw [(show α 83 0 = nI b from hb)]
  try rw [(show ((nI b) + (nI 1)) = nI (1 + b) from rf_eq (rf_nadd (x := nI b) (y := nI 1) rfl rfl) (by omega))]
  rw [show rf_w (rf_w α 84 b (nI 81)) 83 0 (nI (1 + b)) = apt 84 83 0 α b [81] from apt_w (L := []) (by simp) (by omega)]
  refine ok_step (ps := [rf_in (nI 7) 8]) (L' := [some (.ref 83), some (.int (nI 7)), some (.int (nI 2)), some (.int x), some (.int (nI dep)), some (.int (nI 7)), some (.int (nI 81))]) (st' := [.int ((nI dep) + (nI 1)), .int x, .int (tAbove ((nI 7).toNatClampNeg)), .int (nI 81), .ref 83]) (σ' := (apt 84 83 0 α b [81], δ)) (pc' := 105) kX9_speak_91 rfl rfl (rf_a1 (rf_in_n (a := 7) rfl (by omega)) rf_a0) ?_
  try rw [(show (nI 7).toNatClampNeg = 7 from rf_cl_n rfl (by omega))]
  try rw [(show tAbove 7 = nI 5 from rfl)]
  try rw [(show ((nI dep) + (nI 1)) = nI (1 + dep) from rf_eq (rf_nadd (x := nI dep) (y := nI 1) rfl rfl) (by omega))]
  have hc105 : rf_At (rf_T Ln xs) MX9_runBody 3 0 ([some (.ref 83), some (.int (nI 81)), some (.int (nI 5)), some (.int x), some (.int (nI (1 + dep)))], [], 108, (apt 84 83 0 α b [81], δ)) (some (.int ((x - mn) * (nI 5)))) 108 (apt 84 83 0 α b [81, 12], δ) := by
    refine rf_pa ?_
    refine ok_step (ps := []) (L' := [some (.ref 83), some (.int (nI 81)), some (.int (nI 5)), some (.int x), some (.int (nI (1 + dep)))]) (st' := [.int (nI 81)]) (σ' := (apt 84 83 0 α b [81], δ)) (pc' := 1) kX9_runBody_0 rfl rfl rf_a0 ?_
    refine ok_lkd bX9_runBody_1 (by decide) ?_
    refine ok_step (ps := []) (L' := [some (.ref 83), some (.int (nI 81)), some (.int (nI 5)), some (.int x), some (.int (nI (1 + dep)))]) (st' := [.int (nI (1 + dep)), .int x, .int (nI 2), .int (nI 5), .ref 83]) (σ' := (apt 84 83 0 α b [81], δ)) (pc' := 292) kX9_runBody_286 rfl rfl rf_a0 ?_
    refine ok_V (As := [.int (nI 5), .int (nI 2), .int x, .int (nI (1 + dep))]) (b := 83) (st := []) mkX9_speak qX9_runBody_292 rfl (rc_83) rfl rfl rfl rfl (Nat.le_of_ble_eq_true rfl) (cv7_2_5 (b := (1 + b)) (dep := (1 + dep)) ((apt_f (by decide) (by decide)).trans hk) ((apt_f (by decide) (by decide)).trans hn) ((apt_f (by decide) (by decide)).trans hm) (apt_0 (by decide) hb) (by omega) (by omega)) ?_
    rw [show apt 84 83 0 (apt 84 83 0 α b [81]) (1 + b) [12] = apt 84 83 0 α b [81, 12] from apt_app (by simp)]
    refine ok_step (ps := []) (L' := [some (.ref 83), some (.int (nI 81)), some (.int (nI 5)), some (.int x), some (.int (nI (1 + dep)))]) (st' := [.int ((x - mn) * (nI 5))]) (σ' := (apt 84 83 0 α b [81, 12], δ)) (pc' := 297) kX9_runBody_295 rfl rfl rf_a0 ?_
    refine ok_reti eX9_runBody_297 rfl ?_
    exact ⟨rfl, rfl⟩
  refine ok_V (As := [.int (nI 81), .int (nI 5), .int x, .int (nI (1 + dep))]) (b := 83) (st := []) mkX9_runBody qX9_speak_105 rfl (rc_83) rfl rfl rfl rfl (Nat.le_of_ble_eq_true rfl) (hc105) ?_
  refine ok_reti eX9_speak_108 rfl ?_
  exact ⟨rfl, rfl⟩
theorem cv7_3_7 {x : Int32} {b dep : Nat} (hk : α 83 2 = nI 7) (hn : α 83 3 = nu) (hm : α 83 4 = mn) (hb : α 83 0 = nI b) (hl : b + 7 ≤ 40) (hd : dep + 5 ≤ 30) : rf_At (rf_T Ln xs) MX9_speak 10 0 ([some (.ref 83), some (.int (nI 7)), some (.int (nI 3)), some (.int x), some (.int (nI dep)), none, none], [], 108, (α, δ)) (some (.int (((((x + nu) ^^^ mn) + nu) * nI 2) ^^^ ((x - mn) * nI 5)))) 108 (apt 84 83 0 α b [13, 11, 80, 60, 10, 81, 12], δ) := by
  refine rf_pa ?_
  refine ok_step (ps := []) (L' := [some (.ref 83), some (.int (nI 7)), some (.int (nI 3)), some (.int x), some (.int (nI dep)), some (.int (nI 7)), some (.int (nI 0))]) (st' := []) (σ' := (α, δ)) (pc' := 6) kX9_speak_0 rfl rfl rf_a0 ?_
  refine ok_step (ps := []) (L' := [some (.ref 83), some (.int (nI 7)), some (.int (nI 3)), some (.int x), some (.int (nI dep)), some (.int (nI 7)), some (.int (nI 0))]) (st' := [.int (nI 8), .int (nI 0)]) (σ' := (α, δ)) (pc' := 10) kX9_speak_6 rfl rfl rf_a0 ?_
  refine ok_icmp_ge bX9_speak_10 (fun h10 => absurd h10 ((by decide))) (fun _ => ?_)
  refine ok_step (ps := [rf_in (((nI 7) * (nI 4)) + (nI 3)) 32]) (L' := [some (.ref 83), some (.int (nI 7)), some (.int (nI 3)), some (.int x), some (.int (nI dep)), some (.int (nI 7)), some (.int (nI 0))]) (st' := [.int (tBodies ((((nI 7) * (nI 4)) + (nI 3)).toNatClampNeg))]) (σ' := (α, δ)) (pc' := 23) kX9_speak_13 rfl rfl (rf_a1 (rf_in_n (a := 31) (by (try rw [(show ((nI 7) * (nI 4)) = nI 28 from rf_eq (rf_nmul (x := nI 7) (y := nI 4) rfl rfl) (by omega))]); (try rw [(show ((nI 28) + (nI 3)) = nI 31 from rf_eq (rf_nadd (x := nI 28) (y := nI 3) rfl rfl) (by omega))]); all_goals exact rfl) (by omega)) rf_a0) ?_
  try rw [(show ((nI 7) * (nI 4)) = nI 28 from rf_eq (rf_nmul (x := nI 7) (y := nI 4) rfl rfl) (by omega))]
  try rw [(show ((nI 28) + (nI 3)) = nI 31 from rf_eq (rf_nadd (x := nI 28) (y := nI 3) rfl rfl) (by omega))]
  try rw [(show (nI 31).toNatClampNeg = 31 from rf_cl_n rfl (by omega))]
  try rw [(show tBodies 31 = nI 0 from rfl)]
  refine ok_if_ne bX9_speak_23 (fun h23 => absurd ((by decide)) h23) (fun _ => ?_)
  refine ok_step (ps := [rf_in (nI 7) 8]) (L' := [some (.ref 83), some (.int (nI 7)), some (.int (nI 3)), some (.int x), some (.int (nI dep)), some (.int (tAbove ((nI 7).toNatClampNeg))), some (.int ((nI 0) + (nI 1)))]) (st' := []) (σ' := (α, δ)) (pc' := 37) kX9_speak_26 rfl rfl (rf_a1 (rf_in_n (a := 7) rfl (by omega)) rf_a0) ?_
  try rw [(show (nI 7).toNatClampNeg = 7 from rf_cl_n rfl (by omega))]
  try rw [(show tAbove 7 = nI 5 from rfl)]
  try rw [(show ((nI 0) + (nI 1)) = nI 1 from rf_eq (rf_nadd (x := nI 0) (y := nI 1) rfl rfl) (by omega))]
  refine ok_goto bX9_speak_37 ?_
  refine ok_step (ps := []) (L' := [some (.ref 83), some (.int (nI 7)), some (.int (nI 3)), some (.int x), some (.int (nI dep)), some (.int (nI 5)), some (.int (nI 1))]) (st' := [.int (nI 8), .int (nI 1)]) (σ' := (α, δ)) (pc' := 10) kX9_speak_6 rfl rfl rf_a0 ?_
  refine ok_icmp_ge bX9_speak_10 (fun h10 => absurd h10 ((by decide))) (fun _ => ?_)
  refine ok_step (ps := [rf_in (((nI 5) * (nI 4)) + (nI 3)) 32]) (L' := [some (.ref 83), some (.int (nI 7)), some (.int (nI 3)), some (.int x), some (.int (nI dep)), some (.int (nI 5)), some (.int (nI 1))]) (st' := [.int (tBodies ((((nI 5) * (nI 4)) + (nI 3)).toNatClampNeg))]) (σ' := (α, δ)) (pc' := 23) kX9_speak_13 rfl rfl (rf_a1 (rf_in_n (a := 23) (by (try rw [(show ((nI 5) * (nI 4)) = nI 20 from rf_eq (rf_nmul (x := nI 5) (y := nI 4) rfl rfl) (by omega))]); (try rw [(show ((nI 20) + (nI 3)) = nI 23 from rf_eq (rf_nadd (x := nI 20) (y := nI 3) rfl rfl) (by omega))]); all_goals exact rfl) (by omega)) rf_a0) ?_
  try rw [(show ((nI 5) * (nI 4)) = nI 20 from rf_eq (rf_nmul (x := nI 5) (y := nI 4) rfl rfl) (by omega))]
  try rw [(show ((nI 20) + (nI 3)) = nI 23 from rf_eq (rf_nadd (x := nI 20) (y := nI 3) rfl rfl) (by omega))]
  try rw [(show (nI 23).toNatClampNeg = 23 from rf_cl_n rfl (by omega))]
  try rw [(show tBodies 23 = nI 0 from rfl)]
  refine ok_if_ne bX9_speak_23 (fun h23 => absurd ((by decide)) h23) (fun _ => ?_)
  refine ok_step (ps := [rf_in (nI 5) 8]) (L' := [some (.ref 83), some (.int (nI 7)), some (.int (nI 3)), some (.int x), some (.int (nI dep)), some (.int (tAbove ((nI 5).toNatClampNeg))), some (.int ((nI 1) + (nI 1)))]) (st' := []) (σ' := (α, δ)) (pc' := 37) kX9_speak_26 rfl rfl (rf_a1 (rf_in_n (a := 5) rfl (by omega)) rf_a0) ?_
  try rw [(show (nI 5).toNatClampNeg = 5 from rf_cl_n rfl (by omega))]
  try rw [(show tAbove 5 = nI 0 from rfl)]
  try rw [(show ((nI 1) + (nI 1)) = nI 2 from rf_eq (rf_nadd (x := nI 1) (y := nI 1) rfl rfl) (by omega))]
  refine ok_goto bX9_speak_37 ?_
  refine ok_step (ps := []) (L' := [some (.ref 83), some (.int (nI 7)), some (.int (nI 3)), some (.int x), some (.int (nI dep)), some (.int (nI 0)), some (.int (nI 2))]) (st' := [.int (nI 8), .int (nI 2)]) (σ' := (α, δ)) (pc' := 10) kX9_speak_6 rfl rfl rf_a0 ?_
  refine ok_icmp_ge bX9_speak_10 (fun h10 => absurd h10 ((by decide))) (fun _ => ?_)
  refine ok_step (ps := [rf_in (((nI 0) * (nI 4)) + (nI 3)) 32]) (L' := [some (.ref 83), some (.int (nI 7)), some (.int (nI 3)), some (.int x), some (.int (nI dep)), some (.int (nI 0)), some (.int (nI 2))]) (st' := [.int (tBodies ((((nI 0) * (nI 4)) + (nI 3)).toNatClampNeg))]) (σ' := (α, δ)) (pc' := 23) kX9_speak_13 rfl rfl (rf_a1 (rf_in_n (a := 3) (by (try rw [(show ((nI 0) * (nI 4)) = nI 0 from rf_eq (rf_nmul (x := nI 0) (y := nI 4) rfl rfl) (by omega))]); (try rw [(show ((nI 0) + (nI 3)) = nI 3 from rf_eq (rf_nadd (x := nI 0) (y := nI 3) rfl rfl) (by omega))]); all_goals exact rfl) (by omega)) rf_a0) ?_
  try rw [(show ((nI 0) * (nI 4)) = nI 0 from rf_eq (rf_nmul (x := nI 0) (y := nI 4) rfl rfl) (by omega))]
  try rw [(show ((nI 0) + (nI 3)) = nI 3 from rf_eq (rf_nadd (x := nI 0) (y := nI 3) rfl rfl) (by omega))]
  try rw [(show (nI 3).toNatClampNeg = 3 from rf_cl_n rfl (by omega))]
  try rw [(show tBodies 3 = nI 13 from rfl)]
  refine ok_if_ne bX9_speak_23 (fun _ => ?_) (fun h23 => absurd h23 ((by decide)))
  refine ok_step (ps := []) (L' := [some (.ref 83), some (.int (nI 7)), some (.int (nI 3)), some (.int x), some (.int (nI dep)), some (.int (nI 0)), some (.int (nI 2))]) (st' := [.int (nI 30), .int (nI dep)]) (σ' := (α, δ)) (pc' := 44) kX9_speak_40 rfl rfl rf_a0 ?_
  refine ok_icmp_le bX9_speak_44 (fun _ => ?_) (fun h44 => absurd (nI_le (by omega) (by omega)) h44)
  refine ok_step (ps := [rf_in (((nI 0) * (nI 4)) + (nI 3)) 32]) (L' := [some (.ref 83), some (.int (nI 7)), some (.int (nI 3)), some (.int x), some (.int (nI dep)), some (.int (nI 0)), some (.int (tBodies ((((nI 0) * (nI 4)) + (nI 3)).toNatClampNeg)))]) (st' := [.int (nI 40), .int (α 83 0)]) (σ' := (α, δ)) (pc' := 67) kX9_speak_49 rfl rfl (rf_a1 (rf_in_n (a := 3) (by (try rw [(show ((nI 0) * (nI 4)) = nI 0 from rf_eq (rf_nmul (x := nI 0) (y := nI 4) rfl rfl) (by omega))]); (try rw [(show ((nI 0) + (nI 3)) = nI 3 from rf_eq (rf_nadd (x := nI 0) (y := nI 3) rfl rfl) (by omega))]); all_goals exact rfl) (by omega)) rf_a0) ?_
  try rw [(show ((nI 0) * (nI 4)) = nI 0 from rf_eq (rf_nmul (x := nI 0) (y := nI 4) rfl rfl) (by omega))]
  try rw [(show ((nI 0) + (nI 3)) = nI 3 from rf_eq (rf_nadd (x := nI 0) (y := nI 3) rfl rfl) (by omega))]
  try rw [(show (nI 3).toNatClampNeg = 3 from rf_cl_n rfl (by omega))]
  try rw [(show tBodies 3 = nI 13 from rfl)]
  try rw [(show α 83 0 = nI b from hb)]
  refine ok_icmp_ge bX9_speak_67 (fun h67 => absurd h67 (nI_ge (by omega) (by omega))) (fun _ => ?_)
  refine ok_step (ps := [rf_in (α 83 0) 40]) (L' := [some (.ref 83), some (.int (nI 7)), some (.int (nI 3)), some (.int x), some (.int (nI dep)), some (.int (nI 0)), some (.int (nI 13))]) (st' := []) (σ' := (rf_w (rf_w α 84 ((α 83 0).toNatClampNeg) (nI 13)) 83 0 (((rf_w α 84 ((α 83 0).toNatClampNeg) (nI 13)) 83 0) + (nI 1)), δ)) (pc' := 91) kX9_speak_70 rfl rfl (rf_a1 (rf_in_n (a := b) (by (try rw [(show α 83 0 = nI b from hb)]); all_goals exact rfl) (by omega)) rf_a0) ?_
  try rw [(show α 83 0 = nI b from hb)]
  try rw [(show (nI b).toNatClampNeg = b from rf_cl_n rfl (by omega))]
  try rw [(show (rf_w α 84 b (nI 13)) 83 0 = α 83 0 from by rw [rf_w_at, if_neg (fun h => absurd h.1 (by decide))])]
  try rw [(show α 83 0 = nI b from hb)]
  try rw [(show ((nI b) + (nI 1)) = nI (1 + b) from rf_eq (rf_nadd (x := nI b) (y := nI 1) rfl rfl) (by omega))]
  rw [show rf_w (rf_w α 84 b (nI 13)) 83 0 (nI (1 + b)) = apt 84 83 0 α b [13] from apt_w (L := []) (by simp) (by omega)]
  refine ok_step (ps := [rf_in (nI 0) 8]) (L' := [some (.ref 83), some (.int (nI 7)), some (.int (nI 3)), some (.int x), some (.int (nI dep)), some (.int (nI 0)), some (.int (nI 13))]) (st' := [.int ((nI dep) + (nI 1)), .int x, .int (tAbove ((nI 0).toNatClampNeg)), .int (nI 13), .ref 83]) (σ' := (apt 84 83 0 α b [13], δ)) (pc' := 105) kX9_speak_91 rfl rfl (rf_a1 (rf_in_n (a := 0) rfl (by omega)) rf_a0) ?_
  try rw [(show (nI 0).toNatClampNeg = 0 from rf_cl_n rfl (by omega))]
  try rw [(show tAbove 0 = nI 0 from rfl)]
  try rw [(show ((nI dep) + (nI 1)) = nI (1 + dep) from rf_eq (rf_nadd (x := nI dep) (y := nI 1) rfl rfl) (by omega))]
  have hc105 : rf_At (rf_T Ln xs) MX9_runBody 9 0 ([some (.ref 83), some (.int (nI 13)), some (.int (nI 0)), some (.int x), some (.int (nI (1 + dep)))], [], 108, (apt 84 83 0 α b [13], δ)) (some (.int (((((x + nu) ^^^ mn) + nu) * nI 2) ^^^ ((x - mn) * nI 5)))) 108 (apt 84 83 0 α b [13, 11, 80, 60, 10, 81, 12], δ) := by
    refine rf_pa ?_
    refine ok_step (ps := []) (L' := [some (.ref 83), some (.int (nI 13)), some (.int (nI 0)), some (.int x), some (.int (nI (1 + dep)))]) (st' := [.int (nI 13)]) (σ' := (apt 84 83 0 α b [13], δ)) (pc' := 1) kX9_runBody_0 rfl rfl rf_a0 ?_
    refine ok_lkk (q := (13, 136)) (t := 137) bX9_runBody_1 (by decide) (by decide) (by decide) (by decide) ?_
    refine ok_step (ps := []) (L' := [some (.ref 83), some (.int (nI 13)), some (.int (nI 0)), some (.int x), some (.int (nI (1 + dep)))]) (st' := [.int (nI (1 + dep)), .int x, .int (nI 1), .int ((apt 84 83 0 α b [13]) 83 2), .ref 83]) (σ' := (apt 84 83 0 α b [13], δ)) (pc' := 146) kX9_runBody_137 rfl rfl rf_a0 ?_
    try rw [(show (apt 84 83 0 α b [13]) 83 2 = nI 7 from (apt_f (by decide) (by decide)).trans hk)]
    refine ok_V (As := [.int (nI 7), .int (nI 1), .int x, .int (nI (1 + dep))]) (b := 83) (st := []) mkX9_speak qX9_runBody_146 rfl (rc_83) rfl rfl rfl rfl (Nat.le_of_ble_eq_true rfl) (cv7_1_7 (b := (1 + b)) (dep := (1 + dep)) ((apt_f (by decide) (by decide)).trans hk) ((apt_f (by decide) (by decide)).trans hn) ((apt_f (by decide) (by decide)).trans hm) (apt_0 (by decide) hb) (by omega) (by omega)) ?_
    rw [show apt 84 83 0 (apt 84 83 0 α b [13]) (1 + b) [11, 80, 60, 10] = apt 84 83 0 α b [13, 11, 80, 60, 10] from apt_app (by simp)]
    refine ok_step (ps := []) (L' := [some (.ref 83), some (.int (nI 13)), some (.int (nI 0)), some (.int x), some (.int (nI (1 + dep)))]) (st' := [.int (nI (1 + dep)), .int x, .int (nI 2), .int ((apt 84 83 0 α b [13, 11, 80, 60, 10]) 83 2), .ref 83, .int ((((x + nu) ^^^ mn) + nu) * nI 2)]) (σ' := (apt 84 83 0 α b [13, 11, 80, 60, 10], δ)) (pc' := 158) kX9_runBody_149 rfl rfl rf_a0 ?_
    try rw [(show (apt 84 83 0 α b [13, 11, 80, 60, 10]) 83 2 = nI 7 from (apt_f (by decide) (by decide)).trans hk)]
    refine ok_V (As := [.int (nI 7), .int (nI 2), .int x, .int (nI (1 + dep))]) (b := 83) (st := [.int ((((x + nu) ^^^ mn) + nu) * nI 2)]) mkX9_speak qX9_runBody_158 rfl (rc_83) rfl rfl rfl rfl (Nat.le_of_ble_eq_true rfl) (cv7_2_7 (b := (5 + b)) (dep := (1 + dep)) ((apt_f (by decide) (by decide)).trans hk) ((apt_f (by decide) (by decide)).trans hn) ((apt_f (by decide) (by decide)).trans hm) (apt_0 (by decide) hb) (by omega) (by omega)) ?_
    rw [show apt 84 83 0 (apt 84 83 0 α b [13, 11, 80, 60, 10]) (5 + b) [81, 12] = apt 84 83 0 α b [13, 11, 80, 60, 10, 81, 12] from apt_app (by simp)]
    refine ok_step (ps := []) (L' := [some (.ref 83), some (.int (nI 13)), some (.int (nI 0)), some (.int x), some (.int (nI (1 + dep)))]) (st' := [.int (((((x + nu) ^^^ mn) + nu) * nI 2) ^^^ ((x - mn) * nI 5))]) (σ' := (apt 84 83 0 α b [13, 11, 80, 60, 10, 81, 12], δ)) (pc' := 162) kX9_runBody_161 rfl rfl rf_a0 ?_
    refine ok_reti eX9_runBody_162 rfl ?_
    exact ⟨rfl, rfl⟩
  refine ok_V (As := [.int (nI 13), .int (nI 0), .int x, .int (nI (1 + dep))]) (b := 83) (st := []) mkX9_runBody qX9_speak_105 rfl (rc_83) rfl rfl rfl rfl (Nat.le_of_ble_eq_true rfl) (hc105) ?_
  refine ok_reti eX9_speak_108 rfl ?_
  exact ⟨rfl, rfl⟩
theorem m_ran {x b : Nat} (hb : ν 94 18 = nI b) (hl : b < 40) : rf_At (rf_T Ln xs) MX12_ran 1 0 ([some (.ref 94), some (.int (nI x))], [], 108, (γ, ν)) none 108 (γ, apt 103 94 18 ν b [x]) := by
  refine rf_pa ?_
  refine ok_step (ps := []) (L' := [some (.ref 94), some (.int (nI x))]) (st' := [.int (nI 40), .int (ν 94 18)]) (σ' := (γ, ν)) (pc' := 6) kX12_ran_0 rfl rfl rf_a0 ?_
  try rw [(show ν 94 18 = nI b from hb)]
  refine ok_icmp_ge bX12_ran_6 (fun h6 => absurd h6 (nI_ge (by omega) (by omega))) (fun _ => ?_)
  refine ok_step (ps := [rf_in (ν 94 18) 40]) (L' := [some (.ref 94), some (.int (nI x))]) (st' := []) (σ' := (γ, rf_w (rf_w ν 103 ((ν 94 18).toNatClampNeg) (nI x)) 94 18 (((rf_w ν 103 ((ν 94 18).toNatClampNeg) (nI x)) 94 18) + (nI 1)))) (pc' := 29) kX12_ran_9 rfl rfl (rf_a1 (rf_in_n (a := b) (by (try rw [(show ν 94 18 = nI b from hb)]); all_goals exact rfl) (by omega)) rf_a0) ?_
  try rw [(show ν 94 18 = nI b from hb)]
  try rw [(show (nI b).toNatClampNeg = b from rf_cl_n rfl (by omega))]
  try rw [(show (rf_w ν 103 b (nI x)) 94 18 = ν 94 18 from by rw [rf_w_at, if_neg (fun h => absurd h.1 (by decide))])]
  try rw [(show ν 94 18 = nI b from hb)]
  try rw [(show ((nI b) + (nI 1)) = nI (1 + b) from rf_eq (rf_nadd (x := nI b) (y := nI 1) rfl rfl) (by omega))]
  refine ok_retv eX12_ran_29 rfl ?_
  exact ⟨rfl, rfl⟩
theorem m_abv0 : rf_At (rf_T Ln xs) MX12_above 1 0 ([some (.int (nI 0))], [], 108, (γ, ν)) (some (.int (nI 0))) 108 (γ, ν) := by
  refine rf_pa ?_
  refine ok_step (ps := []) (L' := [some (.int (nI 0))]) (st' := [.int (nI 3), .int (nI 0)]) (σ' := (γ, ν)) (pc' := 2) kX12_above_0 rfl rfl rf_a0 ?_
  refine ok_icmp_eq bX12_above_2 (fun h2 => absurd h2 ((by decide))) (fun _ => ?_)
  refine ok_step (ps := []) (L' := [some (.int (nI 0))]) (st' := [.int (nI 4), .int (nI 0)]) (σ' := (γ, ν)) (pc' := 7) kX12_above_5 rfl rfl rf_a0 ?_
  refine ok_icmp_ne bX12_above_7 (fun _ => ?_) (fun h7 => absurd h7 ((by decide)))
  refine ok_step (ps := []) (L' := [some (.int (nI 0))]) (st' := [.int (nI 6), .int (nI 0)]) (σ' := (γ, ν)) (pc' := 17) kX12_above_14 rfl rfl rf_a0 ?_
  refine ok_icmp_ne bX12_above_17 (fun _ => ?_) (fun h17 => absurd h17 ((by decide)))
  refine ok_step (ps := []) (L' := [some (.int (nI 0))]) (st' := [.int (nI 7), .int (nI 0)]) (σ' := (γ, ν)) (pc' := 27) kX12_above_24 rfl rfl rf_a0 ?_
  refine ok_icmp_ne bX12_above_27 (fun _ => ?_) (fun h27 => absurd h27 ((by decide)))
  refine ok_step (ps := []) (L' := [some (.int (nI 0))]) (st' := [.int (nI 0)]) (σ' := (γ, ν)) (pc' := 35) kX12_above_34 rfl rfl rf_a0 ?_
  refine ok_reti eX12_above_35 rfl ?_
  exact ⟨rfl, rfl⟩
theorem m_abv1 : rf_At (rf_T Ln xs) MX12_above 1 0 ([some (.int (nI 1))], [], 108, (γ, ν)) (some (.int (nI 0))) 108 (γ, ν) := by
  refine rf_pa ?_
  refine ok_step (ps := []) (L' := [some (.int (nI 1))]) (st' := [.int (nI 3), .int (nI 1)]) (σ' := (γ, ν)) (pc' := 2) kX12_above_0 rfl rfl rf_a0 ?_
  refine ok_icmp_eq bX12_above_2 (fun h2 => absurd h2 ((by decide))) (fun _ => ?_)
  refine ok_step (ps := []) (L' := [some (.int (nI 1))]) (st' := [.int (nI 4), .int (nI 1)]) (σ' := (γ, ν)) (pc' := 7) kX12_above_5 rfl rfl rf_a0 ?_
  refine ok_icmp_ne bX12_above_7 (fun _ => ?_) (fun h7 => absurd h7 ((by decide)))
  refine ok_step (ps := []) (L' := [some (.int (nI 1))]) (st' := [.int (nI 6), .int (nI 1)]) (σ' := (γ, ν)) (pc' := 17) kX12_above_14 rfl rfl rf_a0 ?_
  refine ok_icmp_ne bX12_above_17 (fun _ => ?_) (fun h17 => absurd h17 ((by decide)))
  refine ok_step (ps := []) (L' := [some (.int (nI 1))]) (st' := [.int (nI 7), .int (nI 1)]) (σ' := (γ, ν)) (pc' := 27) kX12_above_24 rfl rfl rf_a0 ?_
  refine ok_icmp_ne bX12_above_27 (fun _ => ?_) (fun h27 => absurd h27 ((by decide)))
  refine ok_step (ps := []) (L' := [some (.int (nI 1))]) (st' := [.int (nI 0)]) (σ' := (γ, ν)) (pc' := 35) kX12_above_34 rfl rfl rf_a0 ?_
  refine ok_reti eX12_above_35 rfl ?_
  exact ⟨rfl, rfl⟩
theorem m_abv2 : rf_At (rf_T Ln xs) MX12_above 1 0 ([some (.int (nI 2))], [], 108, (γ, ν)) (some (.int (nI 0))) 108 (γ, ν) := by
  refine rf_pa ?_
  refine ok_step (ps := []) (L' := [some (.int (nI 2))]) (st' := [.int (nI 3), .int (nI 2)]) (σ' := (γ, ν)) (pc' := 2) kX12_above_0 rfl rfl rf_a0 ?_
  refine ok_icmp_eq bX12_above_2 (fun h2 => absurd h2 ((by decide))) (fun _ => ?_)
  refine ok_step (ps := []) (L' := [some (.int (nI 2))]) (st' := [.int (nI 4), .int (nI 2)]) (σ' := (γ, ν)) (pc' := 7) kX12_above_5 rfl rfl rf_a0 ?_
  refine ok_icmp_ne bX12_above_7 (fun _ => ?_) (fun h7 => absurd h7 ((by decide)))
  refine ok_step (ps := []) (L' := [some (.int (nI 2))]) (st' := [.int (nI 6), .int (nI 2)]) (σ' := (γ, ν)) (pc' := 17) kX12_above_14 rfl rfl rf_a0 ?_
  refine ok_icmp_ne bX12_above_17 (fun _ => ?_) (fun h17 => absurd h17 ((by decide)))
  refine ok_step (ps := []) (L' := [some (.int (nI 2))]) (st' := [.int (nI 7), .int (nI 2)]) (σ' := (γ, ν)) (pc' := 27) kX12_above_24 rfl rfl rf_a0 ?_
  refine ok_icmp_ne bX12_above_27 (fun _ => ?_) (fun h27 => absurd h27 ((by decide)))
  refine ok_step (ps := []) (L' := [some (.int (nI 2))]) (st' := [.int (nI 0)]) (σ' := (γ, ν)) (pc' := 35) kX12_above_34 rfl rfl rf_a0 ?_
  refine ok_reti eX12_above_35 rfl ?_
  exact ⟨rfl, rfl⟩
theorem m_abv3 : rf_At (rf_T Ln xs) MX12_above 1 0 ([some (.int (nI 3))], [], 108, (γ, ν)) (some (.int (nI 2))) 108 (γ, ν) := by
  refine rf_pa ?_
  refine ok_step (ps := []) (L' := [some (.int (nI 3))]) (st' := [.int (nI 3), .int (nI 3)]) (σ' := (γ, ν)) (pc' := 2) kX12_above_0 rfl rfl rf_a0 ?_
  refine ok_icmp_eq bX12_above_2 (fun _ => ?_) (fun h2 => absurd ((by decide)) h2)
  refine ok_step (ps := []) (L' := [some (.int (nI 3))]) (st' := [.int (nI 2)]) (σ' := (γ, ν)) (pc' := 11) kX12_above_10 rfl rfl rf_a0 ?_
  refine ok_goto bX12_above_11 ?_
  refine ok_reti eX12_above_35 rfl ?_
  exact ⟨rfl, rfl⟩
theorem m_abv4 : rf_At (rf_T Ln xs) MX12_above 1 0 ([some (.int (nI 4))], [], 108, (γ, ν)) (some (.int (nI 2))) 108 (γ, ν) := by
  refine rf_pa ?_
  refine ok_step (ps := []) (L' := [some (.int (nI 4))]) (st' := [.int (nI 3), .int (nI 4)]) (σ' := (γ, ν)) (pc' := 2) kX12_above_0 rfl rfl rf_a0 ?_
  refine ok_icmp_eq bX12_above_2 (fun h2 => absurd h2 ((by decide))) (fun _ => ?_)
  refine ok_step (ps := []) (L' := [some (.int (nI 4))]) (st' := [.int (nI 4), .int (nI 4)]) (σ' := (γ, ν)) (pc' := 7) kX12_above_5 rfl rfl rf_a0 ?_
  refine ok_icmp_ne bX12_above_7 (fun h7 => absurd ((by decide)) h7) (fun _ => ?_)
  refine ok_step (ps := []) (L' := [some (.int (nI 4))]) (st' := [.int (nI 2)]) (σ' := (γ, ν)) (pc' := 11) kX12_above_10 rfl rfl rf_a0 ?_
  refine ok_goto bX12_above_11 ?_
  refine ok_reti eX12_above_35 rfl ?_
  exact ⟨rfl, rfl⟩
theorem m_abv5 : rf_At (rf_T Ln xs) MX12_above 1 0 ([some (.int (nI 5))], [], 108, (γ, ν)) (some (.int (nI 0))) 108 (γ, ν) := by
  refine rf_pa ?_
  refine ok_step (ps := []) (L' := [some (.int (nI 5))]) (st' := [.int (nI 3), .int (nI 5)]) (σ' := (γ, ν)) (pc' := 2) kX12_above_0 rfl rfl rf_a0 ?_
  refine ok_icmp_eq bX12_above_2 (fun h2 => absurd h2 ((by decide))) (fun _ => ?_)
  refine ok_step (ps := []) (L' := [some (.int (nI 5))]) (st' := [.int (nI 4), .int (nI 5)]) (σ' := (γ, ν)) (pc' := 7) kX12_above_5 rfl rfl rf_a0 ?_
  refine ok_icmp_ne bX12_above_7 (fun _ => ?_) (fun h7 => absurd h7 ((by decide)))
  refine ok_step (ps := []) (L' := [some (.int (nI 5))]) (st' := [.int (nI 6), .int (nI 5)]) (σ' := (γ, ν)) (pc' := 17) kX12_above_14 rfl rfl rf_a0 ?_
  refine ok_icmp_ne bX12_above_17 (fun _ => ?_) (fun h17 => absurd h17 ((by decide)))
  refine ok_step (ps := []) (L' := [some (.int (nI 5))]) (st' := [.int (nI 7), .int (nI 5)]) (σ' := (γ, ν)) (pc' := 27) kX12_above_24 rfl rfl rf_a0 ?_
  refine ok_icmp_ne bX12_above_27 (fun _ => ?_) (fun h27 => absurd h27 ((by decide)))
  refine ok_step (ps := []) (L' := [some (.int (nI 5))]) (st' := [.int (nI 0)]) (σ' := (γ, ν)) (pc' := 35) kX12_above_34 rfl rfl rf_a0 ?_
  refine ok_reti eX12_above_35 rfl ?_
  exact ⟨rfl, rfl⟩
theorem m_abv6 : rf_At (rf_T Ln xs) MX12_above 1 0 ([some (.int (nI 6))], [], 108, (γ, ν)) (some (.int (nI 1))) 108 (γ, ν) := by
  refine rf_pa ?_
  refine ok_step (ps := []) (L' := [some (.int (nI 6))]) (st' := [.int (nI 3), .int (nI 6)]) (σ' := (γ, ν)) (pc' := 2) kX12_above_0 rfl rfl rf_a0 ?_
  refine ok_icmp_eq bX12_above_2 (fun h2 => absurd h2 ((by decide))) (fun _ => ?_)
  refine ok_step (ps := []) (L' := [some (.int (nI 6))]) (st' := [.int (nI 4), .int (nI 6)]) (σ' := (γ, ν)) (pc' := 7) kX12_above_5 rfl rfl rf_a0 ?_
  refine ok_icmp_ne bX12_above_7 (fun _ => ?_) (fun h7 => absurd h7 ((by decide)))
  refine ok_step (ps := []) (L' := [some (.int (nI 6))]) (st' := [.int (nI 6), .int (nI 6)]) (σ' := (γ, ν)) (pc' := 17) kX12_above_14 rfl rfl rf_a0 ?_
  refine ok_icmp_ne bX12_above_17 (fun h17 => absurd ((by decide)) h17) (fun _ => ?_)
  refine ok_step (ps := []) (L' := [some (.int (nI 6))]) (st' := [.int (nI 1)]) (σ' := (γ, ν)) (pc' := 21) kX12_above_20 rfl rfl rf_a0 ?_
  refine ok_goto bX12_above_21 ?_
  refine ok_reti eX12_above_35 rfl ?_
  exact ⟨rfl, rfl⟩
theorem m_abv7 : rf_At (rf_T Ln xs) MX12_above 1 0 ([some (.int (nI 7))], [], 108, (γ, ν)) (some (.int (nI 5))) 108 (γ, ν) := by
  refine rf_pa ?_
  refine ok_step (ps := []) (L' := [some (.int (nI 7))]) (st' := [.int (nI 3), .int (nI 7)]) (σ' := (γ, ν)) (pc' := 2) kX12_above_0 rfl rfl rf_a0 ?_
  refine ok_icmp_eq bX12_above_2 (fun h2 => absurd h2 ((by decide))) (fun _ => ?_)
  refine ok_step (ps := []) (L' := [some (.int (nI 7))]) (st' := [.int (nI 4), .int (nI 7)]) (σ' := (γ, ν)) (pc' := 7) kX12_above_5 rfl rfl rf_a0 ?_
  refine ok_icmp_ne bX12_above_7 (fun _ => ?_) (fun h7 => absurd h7 ((by decide)))
  refine ok_step (ps := []) (L' := [some (.int (nI 7))]) (st' := [.int (nI 6), .int (nI 7)]) (σ' := (γ, ν)) (pc' := 17) kX12_above_14 rfl rfl rf_a0 ?_
  refine ok_icmp_ne bX12_above_17 (fun _ => ?_) (fun h17 => absurd h17 ((by decide)))
  refine ok_step (ps := []) (L' := [some (.int (nI 7))]) (st' := [.int (nI 7), .int (nI 7)]) (σ' := (γ, ν)) (pc' := 27) kX12_above_24 rfl rfl rf_a0 ?_
  refine ok_icmp_ne bX12_above_27 (fun h27 => absurd ((by decide)) h27) (fun _ => ?_)
  refine ok_step (ps := []) (L' := [some (.int (nI 7))]) (st' := [.int (nI 5)]) (σ' := (γ, ν)) (pc' := 31) kX12_above_30 rfl rfl rf_a0 ?_
  refine ok_goto bX12_above_31 ?_
  refine ok_reti eX12_above_35 rfl ?_
  exact ⟨rfl, rfl⟩
theorem m_own {K g : Nat} (hg : g < 16) (hk : ν 95 (190 + 8 * g) = nI K) (hn : ν 94 19 = nI g) : rf_At (rf_T Ln xs) MX12_own 2 0 ([some (.ref 94)], [], 108, (γ, ν)) (some (.int (nI K))) 108 (γ, ν) := by
  refine rf_pa ?_
  refine ok_step (ps := []) (L' := [some (.ref 94)]) (st' := [.int (nI 0), .int (ν 94 19), .ref 94]) (σ' := (γ, ν)) (pc' := 6) kX12_own_0 rfl rfl rf_a0 ?_
  try rw [(show ν 94 19 = nI g from hn)]
  refine ok_V (As := [.int (nI g), .int (nI 0)]) (b := 94) (st := []) mkX12_gr qX12_own_6 rfl (rc_94) rfl rfl rfl rfl (Nat.le_of_ble_eq_true rfl) (m_gr hg (by decide)) ?_
  rw [show ν 95 (190 + 8 * g + 0) = nI K from hk]
  refine ok_reti eX12_own_9 rfl ?_
  exact ⟨rfl, rfl⟩
theorem mv0_0_0 {x : Int32} {b g : Nat} (hk : ν 95 (190 + 8 * g) = nI 0) (hm : ν 95 (194 + 8 * g) = mn) (hn : ν 94 19 = nI g) (hg : g < 16) (hb : ν 94 18 = nI b) (hl : b + 1 ≤ 40) : rf_At (rf_T Ln xs) MX12_goes 3 0 ([some (.ref 94), some (.int (nI 0)), some (.int x)], [], 108, (γ, ν)) (some (.int (x + (nI g)))) 108 (γ, apt 103 94 18 ν b [10]) := by
  refine rf_pa ?_
  refine ok_step (ps := []) (L' := [some (.ref 94), some (.int (nI 0)), some (.int x)]) (st' := [.int (nI 0)]) (σ' := (γ, ν)) (pc' := 1) kX12_goes_0 rfl rfl rf_a0 ?_
  refine ok_tk bX12_goes_1 (i := 0) rfl (rfl) ?_
  refine ok_step (ps := []) (L' := [some (.ref 94), some (.int (nI 0)), some (.int x)]) (st' := [.int (nI 10), .ref 94]) (σ' := (γ, ν)) (pc' := 51) kX12_goes_48 rfl rfl rf_a0 ?_
  refine ok_V (As := [.int (nI 10)]) (b := 94) (st := []) mkX12_ran qX12_goes_51 rfl (rc_94) rfl rfl rfl rfl (Nat.le_of_ble_eq_true rfl) (m_ran (b := b) hb (by omega)) ?_
  refine ok_step (ps := []) (L' := [some (.ref 94), some (.int (nI 0)), some (.int x)]) (st' := [.int (x + ((apt 103 94 18 ν b [10]) 94 19))]) (σ' := (γ, apt 103 94 18 ν b [10])) (pc' := 60) kX12_goes_54 rfl rfl rf_a0 ?_
  try rw [(show (apt 103 94 18 ν b [10]) 94 19 = nI g from (apt_f (by decide) (by omega)).trans hn)]
  refine ok_reti eX12_goes_60 rfl ?_
  exact ⟨rfl, rfl⟩
theorem mv0_1_0 {x : Int32} {b g : Nat} (hk : ν 95 (190 + 8 * g) = nI 0) (hm : ν 95 (194 + 8 * g) = mn) (hn : ν 94 19 = nI g) (hg : g < 16) (hb : ν 94 18 = nI b) (hl : b + 2 ≤ 40) : rf_At (rf_T Ln xs) MX12_weighsOf 4 0 ([some (.ref 94), some (.int (nI 0)), some (.int x), none], [], 108, (γ, ν)) (some (.int ((x + (nI g)) * nI 2))) 108 (γ, apt 103 94 18 ν b [11, 10]) := by
  refine rf_pa ?_
  refine ok_step (ps := []) (L' := [some (.ref 94), some (.int (nI 0)), some (.int x), none]) (st' := [.int (nI 0)]) (σ' := (γ, ν)) (pc' := 1) kX12_weighsOf_0 rfl rfl rf_a0 ?_
  refine ok_tk bX12_weighsOf_1 (i := 0) rfl (rfl) ?_
  refine ok_step (ps := []) (L' := [some (.ref 94), some (.int (nI 0)), some (.int x), none]) (st' := [.int (nI 11), .ref 94]) (σ' := (γ, ν)) (pc' := 39) kX12_weighsOf_36 rfl rfl rf_a0 ?_
  refine ok_V (As := [.int (nI 11)]) (b := 94) (st := []) mkX12_ran qX12_weighsOf_39 rfl (rc_94) rfl rfl rfl rfl (Nat.le_of_ble_eq_true rfl) (m_ran (b := b) hb (by omega)) ?_
  refine ok_step (ps := []) (L' := [some (.ref 94), some (.int (nI 0)), some (.int x), none]) (st' := [.ref 94, .ref 94]) (σ' := (γ, apt 103 94 18 ν b [11])) (pc' := 44) kX12_weighsOf_42 rfl rfl rf_a0 ?_
  refine ok_V (As := []) (b := 94) (st := [.ref 94]) mkX12_own qX12_weighsOf_44 rfl (rc_94) rfl rfl rfl rfl (Nat.le_of_ble_eq_true rfl) (m_own (K := 0) hg ((apt_f (by decide) (by omega)).trans hk) ((apt_f (by decide) (by omega)).trans hn)) ?_
  refine ok_step (ps := []) (L' := [some (.ref 94), some (.int (nI 0)), some (.int x), none]) (st' := [.int x, .int (nI 0), .ref 94]) (σ' := (γ, apt 103 94 18 ν b [11])) (pc' := 48) kX12_weighsOf_47 rfl rfl rf_a0 ?_
  refine ok_V (As := [.int (nI 0), .int x]) (b := 94) (st := []) mkX12_goes qX12_weighsOf_48 rfl (rc_94) rfl rfl rfl rfl (Nat.le_of_ble_eq_true rfl) (mv0_0_0 (b := (1 + b)) ((apt_f (by decide) (by omega)).trans hk) ((apt_f (by decide) (by omega)).trans hm) ((apt_f (by decide) (by omega)).trans hn) hg (apt_0 (by decide) hb) (by omega)) ?_
  rw [show apt 103 94 18 (apt 103 94 18 ν b [11]) (1 + b) [10] = apt 103 94 18 ν b [11, 10] from apt_app (by simp)]
  refine ok_step (ps := []) (L' := [some (.ref 94), some (.int (nI 0)), some (.int x), none]) (st' := [.int ((x + (nI g)) * (nI 2))]) (σ' := (γ, apt 103 94 18 ν b [11, 10])) (pc' := 53) kX12_weighsOf_51 rfl rfl rf_a0 ?_
  refine ok_reti eX12_weighsOf_53 rfl ?_
  exact ⟨rfl, rfl⟩
theorem mv0_2_0 {x : Int32} {b g : Nat} (hk : ν 95 (190 + 8 * g) = nI 0) (hm : ν 95 (194 + 8 * g) = mn) (hn : ν 94 19 = nI g) (hg : g < 16) (hb : ν 94 18 = nI b) (hl : b + 1 ≤ 40) : rf_At (rf_T Ln xs) MX12_tellsOf 3 0 ([some (.ref 94), some (.int (nI 0)), some (.int x)], [], 108, (γ, ν)) (some (.int (x - mn))) 108 (γ, apt 103 94 18 ν b [12]) := by
  refine rf_pa ?_
  refine ok_step (ps := []) (L' := [some (.ref 94), some (.int (nI 0)), some (.int x)]) (st' := [.int (nI 0)]) (σ' := (γ, ν)) (pc' := 1) kX12_tellsOf_0 rfl rfl rf_a0 ?_
  refine ok_lkk (q := (0, 35)) (t := 36) bX12_tellsOf_1 (by decide) (by decide) (by decide) (by decide) ?_
  refine ok_step (ps := []) (L' := [some (.ref 94), some (.int (nI 0)), some (.int x)]) (st' := [.int (nI 12), .ref 94]) (σ' := (γ, ν)) (pc' := 39) kX12_tellsOf_36 rfl rfl rf_a0 ?_
  refine ok_V (As := [.int (nI 12)]) (b := 94) (st := []) mkX12_ran qX12_tellsOf_39 rfl (rc_94) rfl rfl rfl rfl (Nat.le_of_ble_eq_true rfl) (m_ran (b := b) hb (by omega)) ?_
  refine ok_step (ps := []) (L' := [some (.ref 94), some (.int (nI 0)), some (.int x)]) (st' := [.int (nI 4), .int ((apt 103 94 18 ν b [12]) 94 19), .ref 94, .int x]) (σ' := (γ, apt 103 94 18 ν b [12])) (pc' := 49) kX12_tellsOf_42 rfl rfl rf_a0 ?_
  try rw [(show (apt 103 94 18 ν b [12]) 94 19 = nI g from (apt_f (by decide) (by omega)).trans hn)]
  refine ok_V (As := [.int (nI g), .int (nI 4)]) (b := 94) (st := [.int x]) mkX12_gr qX12_tellsOf_49 rfl (rc_94) rfl rfl rfl rfl (Nat.le_of_ble_eq_true rfl) (m_gr hg (by decide)) ?_
  rw [show (apt 103 94 18 ν b [12]) 95 (190 + 8 * g + 4) = mn from (congrArg ((apt 103 94 18 ν b [12]) 95) (by omega)).trans ((apt_f (by decide) (by omega)).trans hm)]
  refine ok_step (ps := []) (L' := [some (.ref 94), some (.int (nI 0)), some (.int x)]) (st' := [.int (x - mn)]) (σ' := (γ, apt 103 94 18 ν b [12])) (pc' := 53) kX12_tellsOf_52 rfl rfl rf_a0 ?_
  refine ok_reti eX12_tellsOf_53 rfl ?_
  exact ⟨rfl, rfl⟩
theorem mv0_3_0 {x : Int32} {b g : Nat} (hk : ν 95 (190 + 8 * g) = nI 0) (hm : ν 95 (194 + 8 * g) = mn) (hn : ν 94 19 = nI g) (hg : g < 16) (hb : ν 94 18 = nI b) (hl : b + 4 ≤ 40) : rf_At (rf_T Ln xs) MX12_paysOf 5 0 ([some (.ref 94), some (.int (nI 0)), some (.int x), none], [], 108, (γ, ν)) (some (.int (((x + (nI g)) * nI 2) ^^^ (x - mn)))) 108 (γ, apt 103 94 18 ν b [13, 11, 10, 12]) := by
  refine rf_pa ?_
  refine ok_step (ps := []) (L' := [some (.ref 94), some (.int (nI 0)), some (.int x), none]) (st' := [.int (nI 0)]) (σ' := (γ, ν)) (pc' := 1) kX12_paysOf_0 rfl rfl rf_a0 ?_
  refine ok_lkk (q := (0, 35)) (t := 36) bX12_paysOf_1 (by decide) (by decide) (by decide) (by decide) ?_
  refine ok_step (ps := []) (L' := [some (.ref 94), some (.int (nI 0)), some (.int x), none]) (st' := [.int (nI 13), .ref 94]) (σ' := (γ, ν)) (pc' := 39) kX12_paysOf_36 rfl rfl rf_a0 ?_
  refine ok_V (As := [.int (nI 13)]) (b := 94) (st := []) mkX12_ran qX12_paysOf_39 rfl (rc_94) rfl rfl rfl rfl (Nat.le_of_ble_eq_true rfl) (m_ran (b := b) hb (by omega)) ?_
  refine ok_step (ps := []) (L' := [some (.ref 94), some (.int (nI 0)), some (.int x), none]) (st' := [.ref 94, .ref 94]) (σ' := (γ, apt 103 94 18 ν b [13])) (pc' := 44) kX12_paysOf_42 rfl rfl rf_a0 ?_
  refine ok_V (As := []) (b := 94) (st := [.ref 94]) mkX12_own qX12_paysOf_44 rfl (rc_94) rfl rfl rfl rfl (Nat.le_of_ble_eq_true rfl) (m_own (K := 0) hg ((apt_f (by decide) (by omega)).trans hk) ((apt_f (by decide) (by omega)).trans hn)) ?_
  refine ok_step (ps := []) (L' := [some (.ref 94), some (.int (nI 0)), some (.int x), none]) (st' := [.int x, .int (nI 0), .ref 94]) (σ' := (γ, apt 103 94 18 ν b [13])) (pc' := 48) kX12_paysOf_47 rfl rfl rf_a0 ?_
  refine ok_V (As := [.int (nI 0), .int x]) (b := 94) (st := []) mkX12_weighsOf qX12_paysOf_48 rfl (rc_94) rfl rfl rfl rfl (Nat.le_of_ble_eq_true rfl) (mv0_1_0 (b := (1 + b)) ((apt_f (by decide) (by omega)).trans hk) ((apt_f (by decide) (by omega)).trans hm) ((apt_f (by decide) (by omega)).trans hn) hg (apt_0 (by decide) hb) (by omega)) ?_
  rw [show apt 103 94 18 (apt 103 94 18 ν b [13]) (1 + b) [11, 10] = apt 103 94 18 ν b [13, 11, 10] from apt_app (by simp)]
  refine ok_step (ps := []) (L' := [some (.ref 94), some (.int (nI 0)), some (.int x), some (.int ((x + (nI g)) * nI 2))]) (st' := [.ref 94, .ref 94, .int ((x + (nI g)) * nI 2)]) (σ' := (γ, apt 103 94 18 ν b [13, 11, 10])) (pc' := 55) kX12_paysOf_51 rfl rfl rf_a0 ?_
  refine ok_V (As := []) (b := 94) (st := [.ref 94, .int ((x + (nI g)) * nI 2)]) mkX12_own qX12_paysOf_55 rfl (rc_94) rfl rfl rfl rfl (Nat.le_of_ble_eq_true rfl) (m_own (K := 0) hg ((apt_f (by decide) (by omega)).trans hk) ((apt_f (by decide) (by omega)).trans hn)) ?_
  refine ok_step (ps := []) (L' := [some (.ref 94), some (.int (nI 0)), some (.int x), some (.int ((x + (nI g)) * nI 2))]) (st' := [.int x, .int (nI 0), .ref 94, .int ((x + (nI g)) * nI 2)]) (σ' := (γ, apt 103 94 18 ν b [13, 11, 10])) (pc' := 59) kX12_paysOf_58 rfl rfl rf_a0 ?_
  refine ok_V (As := [.int (nI 0), .int x]) (b := 94) (st := [.int ((x + (nI g)) * nI 2)]) mkX12_tellsOf qX12_paysOf_59 rfl (rc_94) rfl rfl rfl rfl (Nat.le_of_ble_eq_true rfl) (mv0_2_0 (b := (3 + b)) ((apt_f (by decide) (by omega)).trans hk) ((apt_f (by decide) (by omega)).trans hm) ((apt_f (by decide) (by omega)).trans hn) hg (apt_0 (by decide) hb) (by omega)) ?_
  rw [show apt 103 94 18 (apt 103 94 18 ν b [13, 11, 10]) (3 + b) [12] = apt 103 94 18 ν b [13, 11, 10, 12] from apt_app (by simp)]
  refine ok_step (ps := []) (L' := [some (.ref 94), some (.int (nI 0)), some (.int x), some (.int ((x + (nI g)) * nI 2))]) (st' := [.int (((x + (nI g)) * nI 2) ^^^ (x - mn))]) (σ' := (γ, apt 103 94 18 ν b [13, 11, 10, 12])) (pc' := 63) kX12_paysOf_62 rfl rfl rf_a0 ?_
  refine ok_reti eX12_paysOf_63 rfl ?_
  exact ⟨rfl, rfl⟩
theorem mv1_0_0 {x : Int32} {b g : Nat} (hk : ν 95 (190 + 8 * g) = nI 1) (hm : ν 95 (194 + 8 * g) = mn) (hn : ν 94 19 = nI g) (hg : g < 16) (hb : ν 94 18 = nI b) (hl : b + 1 ≤ 40) : rf_At (rf_T Ln xs) MX12_goes 3 0 ([some (.ref 94), some (.int (nI 0)), some (.int x)], [], 108, (γ, ν)) (some (.int (x + (nI g)))) 108 (γ, apt 103 94 18 ν b [10]) := by
  refine rf_pa ?_
  refine ok_step (ps := []) (L' := [some (.ref 94), some (.int (nI 0)), some (.int x)]) (st' := [.int (nI 0)]) (σ' := (γ, ν)) (pc' := 1) kX12_goes_0 rfl rfl rf_a0 ?_
  refine ok_tk bX12_goes_1 (i := 0) rfl (rfl) ?_
  refine ok_step (ps := []) (L' := [some (.ref 94), some (.int (nI 0)), some (.int x)]) (st' := [.int (nI 10), .ref 94]) (σ' := (γ, ν)) (pc' := 51) kX12_goes_48 rfl rfl rf_a0 ?_
  refine ok_V (As := [.int (nI 10)]) (b := 94) (st := []) mkX12_ran qX12_goes_51 rfl (rc_94) rfl rfl rfl rfl (Nat.le_of_ble_eq_true rfl) (m_ran (b := b) hb (by omega)) ?_
  refine ok_step (ps := []) (L' := [some (.ref 94), some (.int (nI 0)), some (.int x)]) (st' := [.int (x + ((apt 103 94 18 ν b [10]) 94 19))]) (σ' := (γ, apt 103 94 18 ν b [10])) (pc' := 60) kX12_goes_54 rfl rfl rf_a0 ?_
  try rw [(show (apt 103 94 18 ν b [10]) 94 19 = nI g from (apt_f (by decide) (by omega)).trans hn)]
  refine ok_reti eX12_goes_60 rfl ?_
  exact ⟨rfl, rfl⟩
theorem mv1_0_1 {x : Int32} {b g : Nat} (hk : ν 95 (190 + 8 * g) = nI 1) (hm : ν 95 (194 + 8 * g) = mn) (hn : ν 94 19 = nI g) (hg : g < 16) (hb : ν 94 18 = nI b) (hl : b + 1 ≤ 40) : rf_At (rf_T Ln xs) MX12_goes 4 0 ([some (.ref 94), some (.int (nI 1)), some (.int x)], [], 108, (γ, ν)) (some (.int (x + (nI g)))) 108 (γ, apt 103 94 18 ν b [10]) := by
  refine rf_pa ?_
  refine ok_step (ps := []) (L' := [some (.ref 94), some (.int (nI 1)), some (.int x)]) (st' := [.int (nI 1)]) (σ' := (γ, ν)) (pc' := 1) kX12_goes_0 rfl rfl rf_a0 ?_
  refine ok_tk bX12_goes_1 (i := 1) rfl (rfl) ?_
  refine ok_step (ps := []) (L' := [some (.ref 94), some (.int (nI 1)), some (.int x)]) (st' := [.int (nI 1), .ref 94]) (σ' := (γ, ν)) (pc' := 129) kX12_goes_127 rfl rfl rf_a0 ?_
  refine ok_S (As := [.int (nI 1)]) (st := [.ref 94]) mkX12_above qX12_goes_129 rfl rfl rfl rfl rfl (Nat.le_of_ble_eq_true rfl) (m_abv1) ?_
  refine ok_step (ps := []) (L' := [some (.ref 94), some (.int (nI 1)), some (.int x)]) (st' := [.int x, .int (nI 0), .ref 94]) (σ' := (γ, ν)) (pc' := 133) kX12_goes_132 rfl rfl rf_a0 ?_
  refine ok_V (As := [.int (nI 0), .int x]) (b := 94) (st := []) mkX12_goes qX12_goes_133 rfl (rc_94) rfl rfl rfl rfl (Nat.le_of_ble_eq_true rfl) (mv1_0_0 (b := b) hk hm hn hg hb (by omega)) ?_
  refine ok_reti eX12_goes_136 rfl ?_
  exact ⟨rfl, rfl⟩
theorem mv1_1_0 {x : Int32} {b g : Nat} (hk : ν 95 (190 + 8 * g) = nI 1) (hm : ν 95 (194 + 8 * g) = mn) (hn : ν 94 19 = nI g) (hg : g < 16) (hb : ν 94 18 = nI b) (hl : b + 2 ≤ 40) : rf_At (rf_T Ln xs) MX12_weighsOf 5 0 ([some (.ref 94), some (.int (nI 0)), some (.int x), none], [], 108, (γ, ν)) (some (.int ((x + (nI g)) * nI 2))) 108 (γ, apt 103 94 18 ν b [11, 10]) := by
  refine rf_pa ?_
  refine ok_step (ps := []) (L' := [some (.ref 94), some (.int (nI 0)), some (.int x), none]) (st' := [.int (nI 0)]) (σ' := (γ, ν)) (pc' := 1) kX12_weighsOf_0 rfl rfl rf_a0 ?_
  refine ok_tk bX12_weighsOf_1 (i := 0) rfl (rfl) ?_
  refine ok_step (ps := []) (L' := [some (.ref 94), some (.int (nI 0)), some (.int x), none]) (st' := [.int (nI 11), .ref 94]) (σ' := (γ, ν)) (pc' := 39) kX12_weighsOf_36 rfl rfl rf_a0 ?_
  refine ok_V (As := [.int (nI 11)]) (b := 94) (st := []) mkX12_ran qX12_weighsOf_39 rfl (rc_94) rfl rfl rfl rfl (Nat.le_of_ble_eq_true rfl) (m_ran (b := b) hb (by omega)) ?_
  refine ok_step (ps := []) (L' := [some (.ref 94), some (.int (nI 0)), some (.int x), none]) (st' := [.ref 94, .ref 94]) (σ' := (γ, apt 103 94 18 ν b [11])) (pc' := 44) kX12_weighsOf_42 rfl rfl rf_a0 ?_
  refine ok_V (As := []) (b := 94) (st := [.ref 94]) mkX12_own qX12_weighsOf_44 rfl (rc_94) rfl rfl rfl rfl (Nat.le_of_ble_eq_true rfl) (m_own (K := 1) hg ((apt_f (by decide) (by omega)).trans hk) ((apt_f (by decide) (by omega)).trans hn)) ?_
  refine ok_step (ps := []) (L' := [some (.ref 94), some (.int (nI 0)), some (.int x), none]) (st' := [.int x, .int (nI 1), .ref 94]) (σ' := (γ, apt 103 94 18 ν b [11])) (pc' := 48) kX12_weighsOf_47 rfl rfl rf_a0 ?_
  refine ok_V (As := [.int (nI 1), .int x]) (b := 94) (st := []) mkX12_goes qX12_weighsOf_48 rfl (rc_94) rfl rfl rfl rfl (Nat.le_of_ble_eq_true rfl) (mv1_0_1 (b := (1 + b)) ((apt_f (by decide) (by omega)).trans hk) ((apt_f (by decide) (by omega)).trans hm) ((apt_f (by decide) (by omega)).trans hn) hg (apt_0 (by decide) hb) (by omega)) ?_
  rw [show apt 103 94 18 (apt 103 94 18 ν b [11]) (1 + b) [10] = apt 103 94 18 ν b [11, 10] from apt_app (by simp)]
  refine ok_step (ps := []) (L' := [some (.ref 94), some (.int (nI 0)), some (.int x), none]) (st' := [.int ((x + (nI g)) * (nI 2))]) (σ' := (γ, apt 103 94 18 ν b [11, 10])) (pc' := 53) kX12_weighsOf_51 rfl rfl rf_a0 ?_
  refine ok_reti eX12_weighsOf_53 rfl ?_
  exact ⟨rfl, rfl⟩
theorem mv1_1_1 {x : Int32} {b g : Nat} (hk : ν 95 (190 + 8 * g) = nI 1) (hm : ν 95 (194 + 8 * g) = mn) (hn : ν 94 19 = nI g) (hg : g < 16) (hb : ν 94 18 = nI b) (hl : b + 2 ≤ 40) : rf_At (rf_T Ln xs) MX12_weighsOf 6 0 ([some (.ref 94), some (.int (nI 1)), some (.int x), none], [], 108, (γ, ν)) (some (.int ((x + (nI g)) * nI 2))) 108 (γ, apt 103 94 18 ν b [11, 10]) := by
  refine rf_pa ?_
  refine ok_step (ps := []) (L' := [some (.ref 94), some (.int (nI 1)), some (.int x), none]) (st' := [.int (nI 1)]) (σ' := (γ, ν)) (pc' := 1) kX12_weighsOf_0 rfl rfl rf_a0 ?_
  refine ok_tk bX12_weighsOf_1 (i := 1) rfl (rfl) ?_
  refine ok_step (ps := []) (L' := [some (.ref 94), some (.int (nI 1)), some (.int x), none]) (st' := [.int (nI 1), .ref 94]) (σ' := (γ, ν)) (pc' := 102) kX12_weighsOf_100 rfl rfl rf_a0 ?_
  refine ok_S (As := [.int (nI 1)]) (st := [.ref 94]) mkX12_above qX12_weighsOf_102 rfl rfl rfl rfl rfl (Nat.le_of_ble_eq_true rfl) (m_abv1) ?_
  refine ok_step (ps := []) (L' := [some (.ref 94), some (.int (nI 1)), some (.int x), none]) (st' := [.int x, .int (nI 0), .ref 94]) (σ' := (γ, ν)) (pc' := 106) kX12_weighsOf_105 rfl rfl rf_a0 ?_
  refine ok_V (As := [.int (nI 0), .int x]) (b := 94) (st := []) mkX12_weighsOf qX12_weighsOf_106 rfl (rc_94) rfl rfl rfl rfl (Nat.le_of_ble_eq_true rfl) (mv1_1_0 (b := b) hk hm hn hg hb (by omega)) ?_
  refine ok_reti eX12_weighsOf_109 rfl ?_
  exact ⟨rfl, rfl⟩
theorem mv1_2_0 {x : Int32} {b g : Nat} (hk : ν 95 (190 + 8 * g) = nI 1) (hm : ν 95 (194 + 8 * g) = mn) (hn : ν 94 19 = nI g) (hg : g < 16) (hb : ν 94 18 = nI b) (hl : b + 1 ≤ 40) : rf_At (rf_T Ln xs) MX12_tellsOf 3 0 ([some (.ref 94), some (.int (nI 0)), some (.int x)], [], 108, (γ, ν)) (some (.int (x - mn))) 108 (γ, apt 103 94 18 ν b [12]) := by
  refine rf_pa ?_
  refine ok_step (ps := []) (L' := [some (.ref 94), some (.int (nI 0)), some (.int x)]) (st' := [.int (nI 0)]) (σ' := (γ, ν)) (pc' := 1) kX12_tellsOf_0 rfl rfl rf_a0 ?_
  refine ok_lkk (q := (0, 35)) (t := 36) bX12_tellsOf_1 (by decide) (by decide) (by decide) (by decide) ?_
  refine ok_step (ps := []) (L' := [some (.ref 94), some (.int (nI 0)), some (.int x)]) (st' := [.int (nI 12), .ref 94]) (σ' := (γ, ν)) (pc' := 39) kX12_tellsOf_36 rfl rfl rf_a0 ?_
  refine ok_V (As := [.int (nI 12)]) (b := 94) (st := []) mkX12_ran qX12_tellsOf_39 rfl (rc_94) rfl rfl rfl rfl (Nat.le_of_ble_eq_true rfl) (m_ran (b := b) hb (by omega)) ?_
  refine ok_step (ps := []) (L' := [some (.ref 94), some (.int (nI 0)), some (.int x)]) (st' := [.int (nI 4), .int ((apt 103 94 18 ν b [12]) 94 19), .ref 94, .int x]) (σ' := (γ, apt 103 94 18 ν b [12])) (pc' := 49) kX12_tellsOf_42 rfl rfl rf_a0 ?_
  try rw [(show (apt 103 94 18 ν b [12]) 94 19 = nI g from (apt_f (by decide) (by omega)).trans hn)]
  refine ok_V (As := [.int (nI g), .int (nI 4)]) (b := 94) (st := [.int x]) mkX12_gr qX12_tellsOf_49 rfl (rc_94) rfl rfl rfl rfl (Nat.le_of_ble_eq_true rfl) (m_gr hg (by decide)) ?_
  rw [show (apt 103 94 18 ν b [12]) 95 (190 + 8 * g + 4) = mn from (congrArg ((apt 103 94 18 ν b [12]) 95) (by omega)).trans ((apt_f (by decide) (by omega)).trans hm)]
  refine ok_step (ps := []) (L' := [some (.ref 94), some (.int (nI 0)), some (.int x)]) (st' := [.int (x - mn)]) (σ' := (γ, apt 103 94 18 ν b [12])) (pc' := 53) kX12_tellsOf_52 rfl rfl rf_a0 ?_
  refine ok_reti eX12_tellsOf_53 rfl ?_
  exact ⟨rfl, rfl⟩
theorem mv1_2_1 {x : Int32} {b g : Nat} (hk : ν 95 (190 + 8 * g) = nI 1) (hm : ν 95 (194 + 8 * g) = mn) (hn : ν 94 19 = nI g) (hg : g < 16) (hb : ν 94 18 = nI b) (hl : b + 1 ≤ 40) : rf_At (rf_T Ln xs) MX12_tellsOf 4 0 ([some (.ref 94), some (.int (nI 1)), some (.int x)], [], 108, (γ, ν)) (some (.int (x - mn))) 108 (γ, apt 103 94 18 ν b [12]) := by
  refine rf_pa ?_
  refine ok_step (ps := []) (L' := [some (.ref 94), some (.int (nI 1)), some (.int x)]) (st' := [.int (nI 1)]) (σ' := (γ, ν)) (pc' := 1) kX12_tellsOf_0 rfl rfl rf_a0 ?_
  refine ok_lkd bX12_tellsOf_1 (by decide) ?_
  refine ok_step (ps := []) (L' := [some (.ref 94), some (.int (nI 1)), some (.int x)]) (st' := [.int (nI 1), .ref 94]) (σ' := (γ, ν)) (pc' := 92) kX12_tellsOf_90 rfl rfl rf_a0 ?_
  refine ok_S (As := [.int (nI 1)]) (st := [.ref 94]) mkX12_above qX12_tellsOf_92 rfl rfl rfl rfl rfl (Nat.le_of_ble_eq_true rfl) (m_abv1) ?_
  refine ok_step (ps := []) (L' := [some (.ref 94), some (.int (nI 1)), some (.int x)]) (st' := [.int x, .int (nI 0), .ref 94]) (σ' := (γ, ν)) (pc' := 96) kX12_tellsOf_95 rfl rfl rf_a0 ?_
  refine ok_V (As := [.int (nI 0), .int x]) (b := 94) (st := []) mkX12_tellsOf qX12_tellsOf_96 rfl (rc_94) rfl rfl rfl rfl (Nat.le_of_ble_eq_true rfl) (mv1_2_0 (b := b) hk hm hn hg hb (by omega)) ?_
  refine ok_reti eX12_tellsOf_99 rfl ?_
  exact ⟨rfl, rfl⟩
theorem mv1_3_0 {x : Int32} {b g : Nat} (hk : ν 95 (190 + 8 * g) = nI 1) (hm : ν 95 (194 + 8 * g) = mn) (hn : ν 94 19 = nI g) (hg : g < 16) (hb : ν 94 18 = nI b) (hl : b + 4 ≤ 40) : rf_At (rf_T Ln xs) MX12_paysOf 7 0 ([some (.ref 94), some (.int (nI 0)), some (.int x), none], [], 108, (γ, ν)) (some (.int (((x + (nI g)) * nI 2) ^^^ (x - mn)))) 108 (γ, apt 103 94 18 ν b [13, 11, 10, 12]) := by
  refine rf_pa ?_
  refine ok_step (ps := []) (L' := [some (.ref 94), some (.int (nI 0)), some (.int x), none]) (st' := [.int (nI 0)]) (σ' := (γ, ν)) (pc' := 1) kX12_paysOf_0 rfl rfl rf_a0 ?_
  refine ok_lkk (q := (0, 35)) (t := 36) bX12_paysOf_1 (by decide) (by decide) (by decide) (by decide) ?_
  refine ok_step (ps := []) (L' := [some (.ref 94), some (.int (nI 0)), some (.int x), none]) (st' := [.int (nI 13), .ref 94]) (σ' := (γ, ν)) (pc' := 39) kX12_paysOf_36 rfl rfl rf_a0 ?_
  refine ok_V (As := [.int (nI 13)]) (b := 94) (st := []) mkX12_ran qX12_paysOf_39 rfl (rc_94) rfl rfl rfl rfl (Nat.le_of_ble_eq_true rfl) (m_ran (b := b) hb (by omega)) ?_
  refine ok_step (ps := []) (L' := [some (.ref 94), some (.int (nI 0)), some (.int x), none]) (st' := [.ref 94, .ref 94]) (σ' := (γ, apt 103 94 18 ν b [13])) (pc' := 44) kX12_paysOf_42 rfl rfl rf_a0 ?_
  refine ok_V (As := []) (b := 94) (st := [.ref 94]) mkX12_own qX12_paysOf_44 rfl (rc_94) rfl rfl rfl rfl (Nat.le_of_ble_eq_true rfl) (m_own (K := 1) hg ((apt_f (by decide) (by omega)).trans hk) ((apt_f (by decide) (by omega)).trans hn)) ?_
  refine ok_step (ps := []) (L' := [some (.ref 94), some (.int (nI 0)), some (.int x), none]) (st' := [.int x, .int (nI 1), .ref 94]) (σ' := (γ, apt 103 94 18 ν b [13])) (pc' := 48) kX12_paysOf_47 rfl rfl rf_a0 ?_
  refine ok_V (As := [.int (nI 1), .int x]) (b := 94) (st := []) mkX12_weighsOf qX12_paysOf_48 rfl (rc_94) rfl rfl rfl rfl (Nat.le_of_ble_eq_true rfl) (mv1_1_1 (b := (1 + b)) ((apt_f (by decide) (by omega)).trans hk) ((apt_f (by decide) (by omega)).trans hm) ((apt_f (by decide) (by omega)).trans hn) hg (apt_0 (by decide) hb) (by omega)) ?_
  rw [show apt 103 94 18 (apt 103 94 18 ν b [13]) (1 + b) [11, 10] = apt 103 94 18 ν b [13, 11, 10] from apt_app (by simp)]
  refine ok_step (ps := []) (L' := [some (.ref 94), some (.int (nI 0)), some (.int x), some (.int ((x + (nI g)) * nI 2))]) (st' := [.ref 94, .ref 94, .int ((x + (nI g)) * nI 2)]) (σ' := (γ, apt 103 94 18 ν b [13, 11, 10])) (pc' := 55) kX12_paysOf_51 rfl rfl rf_a0 ?_
  refine ok_V (As := []) (b := 94) (st := [.ref 94, .int ((x + (nI g)) * nI 2)]) mkX12_own qX12_paysOf_55 rfl (rc_94) rfl rfl rfl rfl (Nat.le_of_ble_eq_true rfl) (m_own (K := 1) hg ((apt_f (by decide) (by omega)).trans hk) ((apt_f (by decide) (by omega)).trans hn)) ?_
  refine ok_step (ps := []) (L' := [some (.ref 94), some (.int (nI 0)), some (.int x), some (.int ((x + (nI g)) * nI 2))]) (st' := [.int x, .int (nI 1), .ref 94, .int ((x + (nI g)) * nI 2)]) (σ' := (γ, apt 103 94 18 ν b [13, 11, 10])) (pc' := 59) kX12_paysOf_58 rfl rfl rf_a0 ?_
  refine ok_V (As := [.int (nI 1), .int x]) (b := 94) (st := [.int ((x + (nI g)) * nI 2)]) mkX12_tellsOf qX12_paysOf_59 rfl (rc_94) rfl rfl rfl rfl (Nat.le_of_ble_eq_true rfl) (mv1_2_1 (b := (3 + b)) ((apt_f (by decide) (by omega)).trans hk) ((apt_f (by decide) (by omega)).trans hm) ((apt_f (by decide) (by omega)).trans hn) hg (apt_0 (by decide) hb) (by omega)) ?_
  rw [show apt 103 94 18 (apt 103 94 18 ν b [13, 11, 10]) (3 + b) [12] = apt 103 94 18 ν b [13, 11, 10, 12] from apt_app (by simp)]
  refine ok_step (ps := []) (L' := [some (.ref 94), some (.int (nI 0)), some (.int x), some (.int ((x + (nI g)) * nI 2))]) (st' := [.int (((x + (nI g)) * nI 2) ^^^ (x - mn))]) (σ' := (γ, apt 103 94 18 ν b [13, 11, 10, 12])) (pc' := 63) kX12_paysOf_62 rfl rfl rf_a0 ?_
  refine ok_reti eX12_paysOf_63 rfl ?_
  exact ⟨rfl, rfl⟩
theorem mv1_3_1 {x : Int32} {b g : Nat} (hk : ν 95 (190 + 8 * g) = nI 1) (hm : ν 95 (194 + 8 * g) = mn) (hn : ν 94 19 = nI g) (hg : g < 16) (hb : ν 94 18 = nI b) (hl : b + 5 ≤ 40) : rf_At (rf_T Ln xs) MX12_paysOf 8 0 ([some (.ref 94), some (.int (nI 1)), some (.int x), none], [], 108, (γ, ν)) (some (.int ((((x + (nI g)) * nI 2) ^^^ (x - mn)) + nI 1))) 108 (γ, apt 103 94 18 ν b [20, 13, 11, 10, 12]) := by
  refine rf_pa ?_
  refine ok_step (ps := []) (L' := [some (.ref 94), some (.int (nI 1)), some (.int x), none]) (st' := [.int (nI 1)]) (σ' := (γ, ν)) (pc' := 1) kX12_paysOf_0 rfl rfl rf_a0 ?_
  refine ok_lkk (q := (1, 63)) (t := 64) bX12_paysOf_1 (by decide) (by decide) (by decide) (by decide) ?_
  refine ok_step (ps := []) (L' := [some (.ref 94), some (.int (nI 1)), some (.int x), none]) (st' := [.int (nI 20), .ref 94]) (σ' := (γ, ν)) (pc' := 67) kX12_paysOf_64 rfl rfl rf_a0 ?_
  refine ok_V (As := [.int (nI 20)]) (b := 94) (st := []) mkX12_ran qX12_paysOf_67 rfl (rc_94) rfl rfl rfl rfl (Nat.le_of_ble_eq_true rfl) (m_ran (b := b) hb (by omega)) ?_
  refine ok_step (ps := []) (L' := [some (.ref 94), some (.int (nI 1)), some (.int x), none]) (st' := [.int (nI 1), .ref 94]) (σ' := (γ, apt 103 94 18 ν b [20])) (pc' := 72) kX12_paysOf_70 rfl rfl rf_a0 ?_
  refine ok_S (As := [.int (nI 1)]) (st := [.ref 94]) mkX12_above qX12_paysOf_72 rfl rfl rfl rfl rfl (Nat.le_of_ble_eq_true rfl) (m_abv1) ?_
  refine ok_step (ps := []) (L' := [some (.ref 94), some (.int (nI 1)), some (.int x), none]) (st' := [.int x, .int (nI 0), .ref 94]) (σ' := (γ, apt 103 94 18 ν b [20])) (pc' := 76) kX12_paysOf_75 rfl rfl rf_a0 ?_
  refine ok_V (As := [.int (nI 0), .int x]) (b := 94) (st := []) mkX12_paysOf qX12_paysOf_76 rfl (rc_94) rfl rfl rfl rfl (Nat.le_of_ble_eq_true rfl) (mv1_3_0 (b := (1 + b)) ((apt_f (by decide) (by omega)).trans hk) ((apt_f (by decide) (by omega)).trans hm) ((apt_f (by decide) (by omega)).trans hn) hg (apt_0 (by decide) hb) (by omega)) ?_
  rw [show apt 103 94 18 (apt 103 94 18 ν b [20]) (1 + b) [13, 11, 10, 12] = apt 103 94 18 ν b [20, 13, 11, 10, 12] from apt_app (by simp)]
  refine ok_step (ps := []) (L' := [some (.ref 94), some (.int (nI 1)), some (.int x), none]) (st' := [.int ((((x + (nI g)) * nI 2) ^^^ (x - mn)) + (nI 1))]) (σ' := (γ, apt 103 94 18 ν b [20, 13, 11, 10, 12])) (pc' := 81) kX12_paysOf_79 rfl rfl rf_a0 ?_
  refine ok_reti eX12_paysOf_81 rfl ?_
  exact ⟨rfl, rfl⟩
theorem mv2_0_0 {x : Int32} {b g : Nat} (hk : ν 95 (190 + 8 * g) = nI 2) (hm : ν 95 (194 + 8 * g) = mn) (hn : ν 94 19 = nI g) (hg : g < 16) (hb : ν 94 18 = nI b) (hl : b + 1 ≤ 40) : rf_At (rf_T Ln xs) MX12_goes 3 0 ([some (.ref 94), some (.int (nI 0)), some (.int x)], [], 108, (γ, ν)) (some (.int (x + (nI g)))) 108 (γ, apt 103 94 18 ν b [10]) := by
  refine rf_pa ?_
  refine ok_step (ps := []) (L' := [some (.ref 94), some (.int (nI 0)), some (.int x)]) (st' := [.int (nI 0)]) (σ' := (γ, ν)) (pc' := 1) kX12_goes_0 rfl rfl rf_a0 ?_
  refine ok_tk bX12_goes_1 (i := 0) rfl (rfl) ?_
  refine ok_step (ps := []) (L' := [some (.ref 94), some (.int (nI 0)), some (.int x)]) (st' := [.int (nI 10), .ref 94]) (σ' := (γ, ν)) (pc' := 51) kX12_goes_48 rfl rfl rf_a0 ?_
  refine ok_V (As := [.int (nI 10)]) (b := 94) (st := []) mkX12_ran qX12_goes_51 rfl (rc_94) rfl rfl rfl rfl (Nat.le_of_ble_eq_true rfl) (m_ran (b := b) hb (by omega)) ?_
  refine ok_step (ps := []) (L' := [some (.ref 94), some (.int (nI 0)), some (.int x)]) (st' := [.int (x + ((apt 103 94 18 ν b [10]) 94 19))]) (σ' := (γ, apt 103 94 18 ν b [10])) (pc' := 60) kX12_goes_54 rfl rfl rf_a0 ?_
  try rw [(show (apt 103 94 18 ν b [10]) 94 19 = nI g from (apt_f (by decide) (by omega)).trans hn)]
  refine ok_reti eX12_goes_60 rfl ?_
  exact ⟨rfl, rfl⟩
theorem mv2_0_2 {x : Int32} {b g : Nat} (hk : ν 95 (190 + 8 * g) = nI 2) (hm : ν 95 (194 + 8 * g) = mn) (hn : ν 94 19 = nI g) (hg : g < 16) (hb : ν 94 18 = nI b) (hl : b + 1 ≤ 40) : rf_At (rf_T Ln xs) MX12_goes 4 0 ([some (.ref 94), some (.int (nI 2)), some (.int x)], [], 108, (γ, ν)) (some (.int (x + (nI g)))) 108 (γ, apt 103 94 18 ν b [10]) := by
  refine rf_pa ?_
  refine ok_step (ps := []) (L' := [some (.ref 94), some (.int (nI 2)), some (.int x)]) (st' := [.int (nI 2)]) (σ' := (γ, ν)) (pc' := 1) kX12_goes_0 rfl rfl rf_a0 ?_
  refine ok_tk bX12_goes_1 (i := 2) rfl (rfl) ?_
  refine ok_step (ps := []) (L' := [some (.ref 94), some (.int (nI 2)), some (.int x)]) (st' := [.int (nI 2), .ref 94]) (σ' := (γ, ν)) (pc' := 129) kX12_goes_127 rfl rfl rf_a0 ?_
  refine ok_S (As := [.int (nI 2)]) (st := [.ref 94]) mkX12_above qX12_goes_129 rfl rfl rfl rfl rfl (Nat.le_of_ble_eq_true rfl) (m_abv2) ?_
  refine ok_step (ps := []) (L' := [some (.ref 94), some (.int (nI 2)), some (.int x)]) (st' := [.int x, .int (nI 0), .ref 94]) (σ' := (γ, ν)) (pc' := 133) kX12_goes_132 rfl rfl rf_a0 ?_
  refine ok_V (As := [.int (nI 0), .int x]) (b := 94) (st := []) mkX12_goes qX12_goes_133 rfl (rc_94) rfl rfl rfl rfl (Nat.le_of_ble_eq_true rfl) (mv2_0_0 (b := b) hk hm hn hg hb (by omega)) ?_
  refine ok_reti eX12_goes_136 rfl ?_
  exact ⟨rfl, rfl⟩
theorem mv2_1_0 {x : Int32} {b g : Nat} (hk : ν 95 (190 + 8 * g) = nI 2) (hm : ν 95 (194 + 8 * g) = mn) (hn : ν 94 19 = nI g) (hg : g < 16) (hb : ν 94 18 = nI b) (hl : b + 2 ≤ 40) : rf_At (rf_T Ln xs) MX12_weighsOf 5 0 ([some (.ref 94), some (.int (nI 0)), some (.int x), none], [], 108, (γ, ν)) (some (.int ((x + (nI g)) * nI 2))) 108 (γ, apt 103 94 18 ν b [11, 10]) := by
  refine rf_pa ?_
  refine ok_step (ps := []) (L' := [some (.ref 94), some (.int (nI 0)), some (.int x), none]) (st' := [.int (nI 0)]) (σ' := (γ, ν)) (pc' := 1) kX12_weighsOf_0 rfl rfl rf_a0 ?_
  refine ok_tk bX12_weighsOf_1 (i := 0) rfl (rfl) ?_
  refine ok_step (ps := []) (L' := [some (.ref 94), some (.int (nI 0)), some (.int x), none]) (st' := [.int (nI 11), .ref 94]) (σ' := (γ, ν)) (pc' := 39) kX12_weighsOf_36 rfl rfl rf_a0 ?_
  refine ok_V (As := [.int (nI 11)]) (b := 94) (st := []) mkX12_ran qX12_weighsOf_39 rfl (rc_94) rfl rfl rfl rfl (Nat.le_of_ble_eq_true rfl) (m_ran (b := b) hb (by omega)) ?_
  refine ok_step (ps := []) (L' := [some (.ref 94), some (.int (nI 0)), some (.int x), none]) (st' := [.ref 94, .ref 94]) (σ' := (γ, apt 103 94 18 ν b [11])) (pc' := 44) kX12_weighsOf_42 rfl rfl rf_a0 ?_
  refine ok_V (As := []) (b := 94) (st := [.ref 94]) mkX12_own qX12_weighsOf_44 rfl (rc_94) rfl rfl rfl rfl (Nat.le_of_ble_eq_true rfl) (m_own (K := 2) hg ((apt_f (by decide) (by omega)).trans hk) ((apt_f (by decide) (by omega)).trans hn)) ?_
  refine ok_step (ps := []) (L' := [some (.ref 94), some (.int (nI 0)), some (.int x), none]) (st' := [.int x, .int (nI 2), .ref 94]) (σ' := (γ, apt 103 94 18 ν b [11])) (pc' := 48) kX12_weighsOf_47 rfl rfl rf_a0 ?_
  refine ok_V (As := [.int (nI 2), .int x]) (b := 94) (st := []) mkX12_goes qX12_weighsOf_48 rfl (rc_94) rfl rfl rfl rfl (Nat.le_of_ble_eq_true rfl) (mv2_0_2 (b := (1 + b)) ((apt_f (by decide) (by omega)).trans hk) ((apt_f (by decide) (by omega)).trans hm) ((apt_f (by decide) (by omega)).trans hn) hg (apt_0 (by decide) hb) (by omega)) ?_
  rw [show apt 103 94 18 (apt 103 94 18 ν b [11]) (1 + b) [10] = apt 103 94 18 ν b [11, 10] from apt_app (by simp)]
  refine ok_step (ps := []) (L' := [some (.ref 94), some (.int (nI 0)), some (.int x), none]) (st' := [.int ((x + (nI g)) * (nI 2))]) (σ' := (γ, apt 103 94 18 ν b [11, 10])) (pc' := 53) kX12_weighsOf_51 rfl rfl rf_a0 ?_
  refine ok_reti eX12_weighsOf_53 rfl ?_
  exact ⟨rfl, rfl⟩
theorem mv2_2_0 {x : Int32} {b g : Nat} (hk : ν 95 (190 + 8 * g) = nI 2) (hm : ν 95 (194 + 8 * g) = mn) (hn : ν 94 19 = nI g) (hg : g < 16) (hb : ν 94 18 = nI b) (hl : b + 1 ≤ 40) : rf_At (rf_T Ln xs) MX12_tellsOf 3 0 ([some (.ref 94), some (.int (nI 0)), some (.int x)], [], 108, (γ, ν)) (some (.int (x - mn))) 108 (γ, apt 103 94 18 ν b [12]) := by
  refine rf_pa ?_
  refine ok_step (ps := []) (L' := [some (.ref 94), some (.int (nI 0)), some (.int x)]) (st' := [.int (nI 0)]) (σ' := (γ, ν)) (pc' := 1) kX12_tellsOf_0 rfl rfl rf_a0 ?_
  refine ok_lkk (q := (0, 35)) (t := 36) bX12_tellsOf_1 (by decide) (by decide) (by decide) (by decide) ?_
  refine ok_step (ps := []) (L' := [some (.ref 94), some (.int (nI 0)), some (.int x)]) (st' := [.int (nI 12), .ref 94]) (σ' := (γ, ν)) (pc' := 39) kX12_tellsOf_36 rfl rfl rf_a0 ?_
  refine ok_V (As := [.int (nI 12)]) (b := 94) (st := []) mkX12_ran qX12_tellsOf_39 rfl (rc_94) rfl rfl rfl rfl (Nat.le_of_ble_eq_true rfl) (m_ran (b := b) hb (by omega)) ?_
  refine ok_step (ps := []) (L' := [some (.ref 94), some (.int (nI 0)), some (.int x)]) (st' := [.int (nI 4), .int ((apt 103 94 18 ν b [12]) 94 19), .ref 94, .int x]) (σ' := (γ, apt 103 94 18 ν b [12])) (pc' := 49) kX12_tellsOf_42 rfl rfl rf_a0 ?_
  try rw [(show (apt 103 94 18 ν b [12]) 94 19 = nI g from (apt_f (by decide) (by omega)).trans hn)]
  refine ok_V (As := [.int (nI g), .int (nI 4)]) (b := 94) (st := [.int x]) mkX12_gr qX12_tellsOf_49 rfl (rc_94) rfl rfl rfl rfl (Nat.le_of_ble_eq_true rfl) (m_gr hg (by decide)) ?_
  rw [show (apt 103 94 18 ν b [12]) 95 (190 + 8 * g + 4) = mn from (congrArg ((apt 103 94 18 ν b [12]) 95) (by omega)).trans ((apt_f (by decide) (by omega)).trans hm)]
  refine ok_step (ps := []) (L' := [some (.ref 94), some (.int (nI 0)), some (.int x)]) (st' := [.int (x - mn)]) (σ' := (γ, apt 103 94 18 ν b [12])) (pc' := 53) kX12_tellsOf_52 rfl rfl rf_a0 ?_
  refine ok_reti eX12_tellsOf_53 rfl ?_
  exact ⟨rfl, rfl⟩
theorem mv2_2_2 {x : Int32} {b g : Nat} (hk : ν 95 (190 + 8 * g) = nI 2) (hm : ν 95 (194 + 8 * g) = mn) (hn : ν 94 19 = nI g) (hg : g < 16) (hb : ν 94 18 = nI b) (hl : b + 1 ≤ 40) : rf_At (rf_T Ln xs) MX12_tellsOf 4 0 ([some (.ref 94), some (.int (nI 2)), some (.int x)], [], 108, (γ, ν)) (some (.int (x - mn))) 108 (γ, apt 103 94 18 ν b [12]) := by
  refine rf_pa ?_
  refine ok_step (ps := []) (L' := [some (.ref 94), some (.int (nI 2)), some (.int x)]) (st' := [.int (nI 2)]) (σ' := (γ, ν)) (pc' := 1) kX12_tellsOf_0 rfl rfl rf_a0 ?_
  refine ok_lkd bX12_tellsOf_1 (by decide) ?_
  refine ok_step (ps := []) (L' := [some (.ref 94), some (.int (nI 2)), some (.int x)]) (st' := [.int (nI 2), .ref 94]) (σ' := (γ, ν)) (pc' := 92) kX12_tellsOf_90 rfl rfl rf_a0 ?_
  refine ok_S (As := [.int (nI 2)]) (st := [.ref 94]) mkX12_above qX12_tellsOf_92 rfl rfl rfl rfl rfl (Nat.le_of_ble_eq_true rfl) (m_abv2) ?_
  refine ok_step (ps := []) (L' := [some (.ref 94), some (.int (nI 2)), some (.int x)]) (st' := [.int x, .int (nI 0), .ref 94]) (σ' := (γ, ν)) (pc' := 96) kX12_tellsOf_95 rfl rfl rf_a0 ?_
  refine ok_V (As := [.int (nI 0), .int x]) (b := 94) (st := []) mkX12_tellsOf qX12_tellsOf_96 rfl (rc_94) rfl rfl rfl rfl (Nat.le_of_ble_eq_true rfl) (mv2_2_0 (b := b) hk hm hn hg hb (by omega)) ?_
  refine ok_reti eX12_tellsOf_99 rfl ?_
  exact ⟨rfl, rfl⟩
theorem mv2_1_2 {x : Int32} {b g : Nat} (hk : ν 95 (190 + 8 * g) = nI 2) (hm : ν 95 (194 + 8 * g) = mn) (hn : ν 94 19 = nI g) (hg : g < 16) (hb : ν 94 18 = nI b) (hl : b + 4 ≤ 40) : rf_At (rf_T Ln xs) MX12_weighsOf 6 0 ([some (.ref 94), some (.int (nI 2)), some (.int x), none], [], 108, (γ, ν)) (some (.int (((x + (nI g)) * nI 2) - ((nI 1) - mn)))) 108 (γ, apt 103 94 18 ν b [30, 11, 10, 12]) := by
  refine rf_pa ?_
  refine ok_step (ps := []) (L' := [some (.ref 94), some (.int (nI 2)), some (.int x), none]) (st' := [.int (nI 2)]) (σ' := (γ, ν)) (pc' := 1) kX12_weighsOf_0 rfl rfl rf_a0 ?_
  refine ok_tk bX12_weighsOf_1 (i := 2) rfl (rfl) ?_
  refine ok_step (ps := []) (L' := [some (.ref 94), some (.int (nI 2)), some (.int x), none]) (st' := [.int (nI 30), .ref 94]) (σ' := (γ, ν)) (pc' := 57) kX12_weighsOf_54 rfl rfl rf_a0 ?_
  refine ok_V (As := [.int (nI 30)]) (b := 94) (st := []) mkX12_ran qX12_weighsOf_57 rfl (rc_94) rfl rfl rfl rfl (Nat.le_of_ble_eq_true rfl) (m_ran (b := b) hb (by omega)) ?_
  refine ok_step (ps := []) (L' := [some (.ref 94), some (.int (nI 2)), some (.int x), none]) (st' := [.int (nI 2), .ref 94]) (σ' := (γ, apt 103 94 18 ν b [30])) (pc' := 62) kX12_weighsOf_60 rfl rfl rf_a0 ?_
  refine ok_S (As := [.int (nI 2)]) (st := [.ref 94]) mkX12_above qX12_weighsOf_62 rfl rfl rfl rfl rfl (Nat.le_of_ble_eq_true rfl) (m_abv2) ?_
  refine ok_step (ps := []) (L' := [some (.ref 94), some (.int (nI 2)), some (.int x), none]) (st' := [.int x, .int (nI 0), .ref 94]) (σ' := (γ, apt 103 94 18 ν b [30])) (pc' := 66) kX12_weighsOf_65 rfl rfl rf_a0 ?_
  refine ok_V (As := [.int (nI 0), .int x]) (b := 94) (st := []) mkX12_weighsOf qX12_weighsOf_66 rfl (rc_94) rfl rfl rfl rfl (Nat.le_of_ble_eq_true rfl) (mv2_1_0 (b := (1 + b)) ((apt_f (by decide) (by omega)).trans hk) ((apt_f (by decide) (by omega)).trans hm) ((apt_f (by decide) (by omega)).trans hn) hg (apt_0 (by decide) hb) (by omega)) ?_
  rw [show apt 103 94 18 (apt 103 94 18 ν b [30]) (1 + b) [11, 10] = apt 103 94 18 ν b [30, 11, 10] from apt_app (by simp)]
  refine ok_step (ps := []) (L' := [some (.ref 94), some (.int (nI 2)), some (.int x), some (.int ((x + (nI g)) * nI 2))]) (st' := [.ref 94, .ref 94, .int ((x + (nI g)) * nI 2)]) (σ' := (γ, apt 103 94 18 ν b [30, 11, 10])) (pc' := 73) kX12_weighsOf_69 rfl rfl rf_a0 ?_
  refine ok_V (As := []) (b := 94) (st := [.ref 94, .int ((x + (nI g)) * nI 2)]) mkX12_own qX12_weighsOf_73 rfl (rc_94) rfl rfl rfl rfl (Nat.le_of_ble_eq_true rfl) (m_own (K := 2) hg ((apt_f (by decide) (by omega)).trans hk) ((apt_f (by decide) (by omega)).trans hn)) ?_
  refine ok_step (ps := []) (L' := [some (.ref 94), some (.int (nI 2)), some (.int x), some (.int ((x + (nI g)) * nI 2))]) (st' := [.int (nI 1), .int (nI 2), .ref 94, .int ((x + (nI g)) * nI 2)]) (σ' := (γ, apt 103 94 18 ν b [30, 11, 10])) (pc' := 77) kX12_weighsOf_76 rfl rfl rf_a0 ?_
  refine ok_V (As := [.int (nI 2), .int (nI 1)]) (b := 94) (st := [.int ((x + (nI g)) * nI 2)]) mkX12_tellsOf qX12_weighsOf_77 rfl (rc_94) rfl rfl rfl rfl (Nat.le_of_ble_eq_true rfl) (mv2_2_2 (b := (3 + b)) ((apt_f (by decide) (by omega)).trans hk) ((apt_f (by decide) (by omega)).trans hm) ((apt_f (by decide) (by omega)).trans hn) hg (apt_0 (by decide) hb) (by omega)) ?_
  rw [show apt 103 94 18 (apt 103 94 18 ν b [30, 11, 10]) (3 + b) [12] = apt 103 94 18 ν b [30, 11, 10, 12] from apt_app (by simp)]
  refine ok_step (ps := []) (L' := [some (.ref 94), some (.int (nI 2)), some (.int x), some (.int ((x + (nI g)) * nI 2))]) (st' := [.int (((x + (nI g)) * nI 2) - ((nI 1) - mn))]) (σ' := (γ, apt 103 94 18 ν b [30, 11, 10, 12])) (pc' := 81) kX12_weighsOf_80 rfl rfl rf_a0 ?_
  refine ok_reti eX12_weighsOf_81 rfl ?_
  exact ⟨rfl, rfl⟩
theorem mv2_3_0 {x : Int32} {b g : Nat} (hk : ν 95 (190 + 8 * g) = nI 2) (hm : ν 95 (194 + 8 * g) = mn) (hn : ν 94 19 = nI g) (hg : g < 16) (hb : ν 94 18 = nI b) (hl : b + 6 ≤ 40) : rf_At (rf_T Ln xs) MX12_paysOf 7 0 ([some (.ref 94), some (.int (nI 0)), some (.int x), none], [], 108, (γ, ν)) (some (.int ((((x + (nI g)) * nI 2) - ((nI 1) - mn)) ^^^ (x - mn)))) 108 (γ, apt 103 94 18 ν b [13, 30, 11, 10, 12, 12]) := by
  refine rf_pa ?_
  refine ok_step (ps := []) (L' := [some (.ref 94), some (.int (nI 0)), some (.int x), none]) (st' := [.int (nI 0)]) (σ' := (γ, ν)) (pc' := 1) kX12_paysOf_0 rfl rfl rf_a0 ?_
  refine ok_lkk (q := (0, 35)) (t := 36) bX12_paysOf_1 (by decide) (by decide) (by decide) (by decide) ?_
  refine ok_step (ps := []) (L' := [some (.ref 94), some (.int (nI 0)), some (.int x), none]) (st' := [.int (nI 13), .ref 94]) (σ' := (γ, ν)) (pc' := 39) kX12_paysOf_36 rfl rfl rf_a0 ?_
  refine ok_V (As := [.int (nI 13)]) (b := 94) (st := []) mkX12_ran qX12_paysOf_39 rfl (rc_94) rfl rfl rfl rfl (Nat.le_of_ble_eq_true rfl) (m_ran (b := b) hb (by omega)) ?_
  refine ok_step (ps := []) (L' := [some (.ref 94), some (.int (nI 0)), some (.int x), none]) (st' := [.ref 94, .ref 94]) (σ' := (γ, apt 103 94 18 ν b [13])) (pc' := 44) kX12_paysOf_42 rfl rfl rf_a0 ?_
  refine ok_V (As := []) (b := 94) (st := [.ref 94]) mkX12_own qX12_paysOf_44 rfl (rc_94) rfl rfl rfl rfl (Nat.le_of_ble_eq_true rfl) (m_own (K := 2) hg ((apt_f (by decide) (by omega)).trans hk) ((apt_f (by decide) (by omega)).trans hn)) ?_
  refine ok_step (ps := []) (L' := [some (.ref 94), some (.int (nI 0)), some (.int x), none]) (st' := [.int x, .int (nI 2), .ref 94]) (σ' := (γ, apt 103 94 18 ν b [13])) (pc' := 48) kX12_paysOf_47 rfl rfl rf_a0 ?_
  refine ok_V (As := [.int (nI 2), .int x]) (b := 94) (st := []) mkX12_weighsOf qX12_paysOf_48 rfl (rc_94) rfl rfl rfl rfl (Nat.le_of_ble_eq_true rfl) (mv2_1_2 (b := (1 + b)) ((apt_f (by decide) (by omega)).trans hk) ((apt_f (by decide) (by omega)).trans hm) ((apt_f (by decide) (by omega)).trans hn) hg (apt_0 (by decide) hb) (by omega)) ?_
  rw [show apt 103 94 18 (apt 103 94 18 ν b [13]) (1 + b) [30, 11, 10, 12] = apt 103 94 18 ν b [13, 30, 11, 10, 12] from apt_app (by simp)]
  refine ok_step (ps := []) (L' := [some (.ref 94), some (.int (nI 0)), some (.int x), some (.int (((x + (nI g)) * nI 2) - ((nI 1) - mn)))]) (st' := [.ref 94, .ref 94, .int (((x + (nI g)) * nI 2) - ((nI 1) - mn))]) (σ' := (γ, apt 103 94 18 ν b [13, 30, 11, 10, 12])) (pc' := 55) kX12_paysOf_51 rfl rfl rf_a0 ?_
  refine ok_V (As := []) (b := 94) (st := [.ref 94, .int (((x + (nI g)) * nI 2) - ((nI 1) - mn))]) mkX12_own qX12_paysOf_55 rfl (rc_94) rfl rfl rfl rfl (Nat.le_of_ble_eq_true rfl) (m_own (K := 2) hg ((apt_f (by decide) (by omega)).trans hk) ((apt_f (by decide) (by omega)).trans hn)) ?_
  refine ok_step (ps := []) (L' := [some (.ref 94), some (.int (nI 0)), some (.int x), some (.int (((x + (nI g)) * nI 2) - ((nI 1) - mn)))]) (st' := [.int x, .int (nI 2), .ref 94, .int (((x + (nI g)) * nI 2) - ((nI 1) - mn))]) (σ' := (γ, apt 103 94 18 ν b [13, 30, 11, 10, 12])) (pc' := 59) kX12_paysOf_58 rfl rfl rf_a0 ?_
  refine ok_V (As := [.int (nI 2), .int x]) (b := 94) (st := [.int (((x + (nI g)) * nI 2) - ((nI 1) - mn))]) mkX12_tellsOf qX12_paysOf_59 rfl (rc_94) rfl rfl rfl rfl (Nat.le_of_ble_eq_true rfl) (mv2_2_2 (b := (5 + b)) ((apt_f (by decide) (by omega)).trans hk) ((apt_f (by decide) (by omega)).trans hm) ((apt_f (by decide) (by omega)).trans hn) hg (apt_0 (by decide) hb) (by omega)) ?_
  rw [show apt 103 94 18 (apt 103 94 18 ν b [13, 30, 11, 10, 12]) (5 + b) [12] = apt 103 94 18 ν b [13, 30, 11, 10, 12, 12] from apt_app (by simp)]
  refine ok_step (ps := []) (L' := [some (.ref 94), some (.int (nI 0)), some (.int x), some (.int (((x + (nI g)) * nI 2) - ((nI 1) - mn)))]) (st' := [.int ((((x + (nI g)) * nI 2) - ((nI 1) - mn)) ^^^ (x - mn))]) (σ' := (γ, apt 103 94 18 ν b [13, 30, 11, 10, 12, 12])) (pc' := 63) kX12_paysOf_62 rfl rfl rf_a0 ?_
  refine ok_reti eX12_paysOf_63 rfl ?_
  exact ⟨rfl, rfl⟩
theorem mv2_3_2 {x : Int32} {b g : Nat} (hk : ν 95 (190 + 8 * g) = nI 2) (hm : ν 95 (194 + 8 * g) = mn) (hn : ν 94 19 = nI g) (hg : g < 16) (hb : ν 94 18 = nI b) (hl : b + 6 ≤ 40) : rf_At (rf_T Ln xs) MX12_paysOf 8 0 ([some (.ref 94), some (.int (nI 2)), some (.int x), none], [], 108, (γ, ν)) (some (.int ((((x + (nI g)) * nI 2) - ((nI 1) - mn)) ^^^ (x - mn)))) 108 (γ, apt 103 94 18 ν b [13, 30, 11, 10, 12, 12]) := by
  refine rf_pa ?_
  refine ok_step (ps := []) (L' := [some (.ref 94), some (.int (nI 2)), some (.int x), none]) (st' := [.int (nI 2)]) (σ' := (γ, ν)) (pc' := 1) kX12_paysOf_0 rfl rfl rf_a0 ?_
  refine ok_lkd bX12_paysOf_1 (by decide) ?_
  refine ok_step (ps := []) (L' := [some (.ref 94), some (.int (nI 2)), some (.int x), none]) (st' := [.int (nI 2), .ref 94]) (σ' := (γ, ν)) (pc' := 113) kX12_paysOf_111 rfl rfl rf_a0 ?_
  refine ok_S (As := [.int (nI 2)]) (st := [.ref 94]) mkX12_above qX12_paysOf_113 rfl rfl rfl rfl rfl (Nat.le_of_ble_eq_true rfl) (m_abv2) ?_
  refine ok_step (ps := []) (L' := [some (.ref 94), some (.int (nI 2)), some (.int x), none]) (st' := [.int x, .int (nI 0), .ref 94]) (σ' := (γ, ν)) (pc' := 117) kX12_paysOf_116 rfl rfl rf_a0 ?_
  refine ok_V (As := [.int (nI 0), .int x]) (b := 94) (st := []) mkX12_paysOf qX12_paysOf_117 rfl (rc_94) rfl rfl rfl rfl (Nat.le_of_ble_eq_true rfl) (mv2_3_0 (b := b) hk hm hn hg hb (by omega)) ?_
  refine ok_reti eX12_paysOf_120 rfl ?_
  exact ⟨rfl, rfl⟩
theorem mv3_0_0 {x : Int32} {b g : Nat} (hk : ν 95 (190 + 8 * g) = nI 3) (hm : ν 95 (194 + 8 * g) = mn) (hn : ν 94 19 = nI g) (hg : g < 16) (hb : ν 94 18 = nI b) (hl : b + 1 ≤ 40) : rf_At (rf_T Ln xs) MX12_goes 3 0 ([some (.ref 94), some (.int (nI 0)), some (.int x)], [], 108, (γ, ν)) (some (.int (x + (nI g)))) 108 (γ, apt 103 94 18 ν b [10]) := by
  refine rf_pa ?_
  refine ok_step (ps := []) (L' := [some (.ref 94), some (.int (nI 0)), some (.int x)]) (st' := [.int (nI 0)]) (σ' := (γ, ν)) (pc' := 1) kX12_goes_0 rfl rfl rf_a0 ?_
  refine ok_tk bX12_goes_1 (i := 0) rfl (rfl) ?_
  refine ok_step (ps := []) (L' := [some (.ref 94), some (.int (nI 0)), some (.int x)]) (st' := [.int (nI 10), .ref 94]) (σ' := (γ, ν)) (pc' := 51) kX12_goes_48 rfl rfl rf_a0 ?_
  refine ok_V (As := [.int (nI 10)]) (b := 94) (st := []) mkX12_ran qX12_goes_51 rfl (rc_94) rfl rfl rfl rfl (Nat.le_of_ble_eq_true rfl) (m_ran (b := b) hb (by omega)) ?_
  refine ok_step (ps := []) (L' := [some (.ref 94), some (.int (nI 0)), some (.int x)]) (st' := [.int (x + ((apt 103 94 18 ν b [10]) 94 19))]) (σ' := (γ, apt 103 94 18 ν b [10])) (pc' := 60) kX12_goes_54 rfl rfl rf_a0 ?_
  try rw [(show (apt 103 94 18 ν b [10]) 94 19 = nI g from (apt_f (by decide) (by omega)).trans hn)]
  refine ok_reti eX12_goes_60 rfl ?_
  exact ⟨rfl, rfl⟩
theorem mv3_0_2 {x : Int32} {b g : Nat} (hk : ν 95 (190 + 8 * g) = nI 3) (hm : ν 95 (194 + 8 * g) = mn) (hn : ν 94 19 = nI g) (hg : g < 16) (hb : ν 94 18 = nI b) (hl : b + 1 ≤ 40) : rf_At (rf_T Ln xs) MX12_goes 4 0 ([some (.ref 94), some (.int (nI 2)), some (.int x)], [], 108, (γ, ν)) (some (.int (x + (nI g)))) 108 (γ, apt 103 94 18 ν b [10]) := by
  refine rf_pa ?_
  refine ok_step (ps := []) (L' := [some (.ref 94), some (.int (nI 2)), some (.int x)]) (st' := [.int (nI 2)]) (σ' := (γ, ν)) (pc' := 1) kX12_goes_0 rfl rfl rf_a0 ?_
  refine ok_tk bX12_goes_1 (i := 2) rfl (rfl) ?_
  refine ok_step (ps := []) (L' := [some (.ref 94), some (.int (nI 2)), some (.int x)]) (st' := [.int (nI 2), .ref 94]) (σ' := (γ, ν)) (pc' := 129) kX12_goes_127 rfl rfl rf_a0 ?_
  refine ok_S (As := [.int (nI 2)]) (st := [.ref 94]) mkX12_above qX12_goes_129 rfl rfl rfl rfl rfl (Nat.le_of_ble_eq_true rfl) (m_abv2) ?_
  refine ok_step (ps := []) (L' := [some (.ref 94), some (.int (nI 2)), some (.int x)]) (st' := [.int x, .int (nI 0), .ref 94]) (σ' := (γ, ν)) (pc' := 133) kX12_goes_132 rfl rfl rf_a0 ?_
  refine ok_V (As := [.int (nI 0), .int x]) (b := 94) (st := []) mkX12_goes qX12_goes_133 rfl (rc_94) rfl rfl rfl rfl (Nat.le_of_ble_eq_true rfl) (mv3_0_0 (b := b) hk hm hn hg hb (by omega)) ?_
  refine ok_reti eX12_goes_136 rfl ?_
  exact ⟨rfl, rfl⟩
theorem mv3_0_3 {x : Int32} {b g : Nat} (hk : ν 95 (190 + 8 * g) = nI 3) (hm : ν 95 (194 + 8 * g) = mn) (hn : ν 94 19 = nI g) (hg : g < 16) (hb : ν 94 18 = nI b) (hl : b + 1 ≤ 40) : rf_At (rf_T Ln xs) MX12_goes 5 0 ([some (.ref 94), some (.int (nI 3)), some (.int x)], [], 108, (γ, ν)) (some (.int (x + (nI g)))) 108 (γ, apt 103 94 18 ν b [10]) := by
  refine rf_pa ?_
  refine ok_step (ps := []) (L' := [some (.ref 94), some (.int (nI 3)), some (.int x)]) (st' := [.int (nI 3)]) (σ' := (γ, ν)) (pc' := 1) kX12_goes_0 rfl rfl rf_a0 ?_
  refine ok_tk bX12_goes_1 (i := 3) rfl (rfl) ?_
  refine ok_step (ps := []) (L' := [some (.ref 94), some (.int (nI 3)), some (.int x)]) (st' := [.int (nI 3), .ref 94]) (σ' := (γ, ν)) (pc' := 129) kX12_goes_127 rfl rfl rf_a0 ?_
  refine ok_S (As := [.int (nI 3)]) (st := [.ref 94]) mkX12_above qX12_goes_129 rfl rfl rfl rfl rfl (Nat.le_of_ble_eq_true rfl) (m_abv3) ?_
  refine ok_step (ps := []) (L' := [some (.ref 94), some (.int (nI 3)), some (.int x)]) (st' := [.int x, .int (nI 2), .ref 94]) (σ' := (γ, ν)) (pc' := 133) kX12_goes_132 rfl rfl rf_a0 ?_
  refine ok_V (As := [.int (nI 2), .int x]) (b := 94) (st := []) mkX12_goes qX12_goes_133 rfl (rc_94) rfl rfl rfl rfl (Nat.le_of_ble_eq_true rfl) (mv3_0_2 (b := b) hk hm hn hg hb (by omega)) ?_
  refine ok_reti eX12_goes_136 rfl ?_
  exact ⟨rfl, rfl⟩
theorem mv3_1_0 {x : Int32} {b g : Nat} (hk : ν 95 (190 + 8 * g) = nI 3) (hm : ν 95 (194 + 8 * g) = mn) (hn : ν 94 19 = nI g) (hg : g < 16) (hb : ν 94 18 = nI b) (hl : b + 2 ≤ 40) : rf_At (rf_T Ln xs) MX12_weighsOf 6 0 ([some (.ref 94), some (.int (nI 0)), some (.int x), none], [], 108, (γ, ν)) (some (.int ((x + (nI g)) * nI 2))) 108 (γ, apt 103 94 18 ν b [11, 10]) := by
  refine rf_pa ?_
  refine ok_step (ps := []) (L' := [some (.ref 94), some (.int (nI 0)), some (.int x), none]) (st' := [.int (nI 0)]) (σ' := (γ, ν)) (pc' := 1) kX12_weighsOf_0 rfl rfl rf_a0 ?_
  refine ok_tk bX12_weighsOf_1 (i := 0) rfl (rfl) ?_
  refine ok_step (ps := []) (L' := [some (.ref 94), some (.int (nI 0)), some (.int x), none]) (st' := [.int (nI 11), .ref 94]) (σ' := (γ, ν)) (pc' := 39) kX12_weighsOf_36 rfl rfl rf_a0 ?_
  refine ok_V (As := [.int (nI 11)]) (b := 94) (st := []) mkX12_ran qX12_weighsOf_39 rfl (rc_94) rfl rfl rfl rfl (Nat.le_of_ble_eq_true rfl) (m_ran (b := b) hb (by omega)) ?_
  refine ok_step (ps := []) (L' := [some (.ref 94), some (.int (nI 0)), some (.int x), none]) (st' := [.ref 94, .ref 94]) (σ' := (γ, apt 103 94 18 ν b [11])) (pc' := 44) kX12_weighsOf_42 rfl rfl rf_a0 ?_
  refine ok_V (As := []) (b := 94) (st := [.ref 94]) mkX12_own qX12_weighsOf_44 rfl (rc_94) rfl rfl rfl rfl (Nat.le_of_ble_eq_true rfl) (m_own (K := 3) hg ((apt_f (by decide) (by omega)).trans hk) ((apt_f (by decide) (by omega)).trans hn)) ?_
  refine ok_step (ps := []) (L' := [some (.ref 94), some (.int (nI 0)), some (.int x), none]) (st' := [.int x, .int (nI 3), .ref 94]) (σ' := (γ, apt 103 94 18 ν b [11])) (pc' := 48) kX12_weighsOf_47 rfl rfl rf_a0 ?_
  refine ok_V (As := [.int (nI 3), .int x]) (b := 94) (st := []) mkX12_goes qX12_weighsOf_48 rfl (rc_94) rfl rfl rfl rfl (Nat.le_of_ble_eq_true rfl) (mv3_0_3 (b := (1 + b)) ((apt_f (by decide) (by omega)).trans hk) ((apt_f (by decide) (by omega)).trans hm) ((apt_f (by decide) (by omega)).trans hn) hg (apt_0 (by decide) hb) (by omega)) ?_
  rw [show apt 103 94 18 (apt 103 94 18 ν b [11]) (1 + b) [10] = apt 103 94 18 ν b [11, 10] from apt_app (by simp)]
  refine ok_step (ps := []) (L' := [some (.ref 94), some (.int (nI 0)), some (.int x), none]) (st' := [.int ((x + (nI g)) * (nI 2))]) (σ' := (γ, apt 103 94 18 ν b [11, 10])) (pc' := 53) kX12_weighsOf_51 rfl rfl rf_a0 ?_
  refine ok_reti eX12_weighsOf_53 rfl ?_
  exact ⟨rfl, rfl⟩
theorem mv3_2_0 {x : Int32} {b g : Nat} (hk : ν 95 (190 + 8 * g) = nI 3) (hm : ν 95 (194 + 8 * g) = mn) (hn : ν 94 19 = nI g) (hg : g < 16) (hb : ν 94 18 = nI b) (hl : b + 1 ≤ 40) : rf_At (rf_T Ln xs) MX12_tellsOf 3 0 ([some (.ref 94), some (.int (nI 0)), some (.int x)], [], 108, (γ, ν)) (some (.int (x - mn))) 108 (γ, apt 103 94 18 ν b [12]) := by
  refine rf_pa ?_
  refine ok_step (ps := []) (L' := [some (.ref 94), some (.int (nI 0)), some (.int x)]) (st' := [.int (nI 0)]) (σ' := (γ, ν)) (pc' := 1) kX12_tellsOf_0 rfl rfl rf_a0 ?_
  refine ok_lkk (q := (0, 35)) (t := 36) bX12_tellsOf_1 (by decide) (by decide) (by decide) (by decide) ?_
  refine ok_step (ps := []) (L' := [some (.ref 94), some (.int (nI 0)), some (.int x)]) (st' := [.int (nI 12), .ref 94]) (σ' := (γ, ν)) (pc' := 39) kX12_tellsOf_36 rfl rfl rf_a0 ?_
  refine ok_V (As := [.int (nI 12)]) (b := 94) (st := []) mkX12_ran qX12_tellsOf_39 rfl (rc_94) rfl rfl rfl rfl (Nat.le_of_ble_eq_true rfl) (m_ran (b := b) hb (by omega)) ?_
  refine ok_step (ps := []) (L' := [some (.ref 94), some (.int (nI 0)), some (.int x)]) (st' := [.int (nI 4), .int ((apt 103 94 18 ν b [12]) 94 19), .ref 94, .int x]) (σ' := (γ, apt 103 94 18 ν b [12])) (pc' := 49) kX12_tellsOf_42 rfl rfl rf_a0 ?_
  try rw [(show (apt 103 94 18 ν b [12]) 94 19 = nI g from (apt_f (by decide) (by omega)).trans hn)]
  refine ok_V (As := [.int (nI g), .int (nI 4)]) (b := 94) (st := [.int x]) mkX12_gr qX12_tellsOf_49 rfl (rc_94) rfl rfl rfl rfl (Nat.le_of_ble_eq_true rfl) (m_gr hg (by decide)) ?_
  rw [show (apt 103 94 18 ν b [12]) 95 (190 + 8 * g + 4) = mn from (congrArg ((apt 103 94 18 ν b [12]) 95) (by omega)).trans ((apt_f (by decide) (by omega)).trans hm)]
  refine ok_step (ps := []) (L' := [some (.ref 94), some (.int (nI 0)), some (.int x)]) (st' := [.int (x - mn)]) (σ' := (γ, apt 103 94 18 ν b [12])) (pc' := 53) kX12_tellsOf_52 rfl rfl rf_a0 ?_
  refine ok_reti eX12_tellsOf_53 rfl ?_
  exact ⟨rfl, rfl⟩
theorem mv3_2_2 {x : Int32} {b g : Nat} (hk : ν 95 (190 + 8 * g) = nI 3) (hm : ν 95 (194 + 8 * g) = mn) (hn : ν 94 19 = nI g) (hg : g < 16) (hb : ν 94 18 = nI b) (hl : b + 1 ≤ 40) : rf_At (rf_T Ln xs) MX12_tellsOf 4 0 ([some (.ref 94), some (.int (nI 2)), some (.int x)], [], 108, (γ, ν)) (some (.int (x - mn))) 108 (γ, apt 103 94 18 ν b [12]) := by
  refine rf_pa ?_
  refine ok_step (ps := []) (L' := [some (.ref 94), some (.int (nI 2)), some (.int x)]) (st' := [.int (nI 2)]) (σ' := (γ, ν)) (pc' := 1) kX12_tellsOf_0 rfl rfl rf_a0 ?_
  refine ok_lkd bX12_tellsOf_1 (by decide) ?_
  refine ok_step (ps := []) (L' := [some (.ref 94), some (.int (nI 2)), some (.int x)]) (st' := [.int (nI 2), .ref 94]) (σ' := (γ, ν)) (pc' := 92) kX12_tellsOf_90 rfl rfl rf_a0 ?_
  refine ok_S (As := [.int (nI 2)]) (st := [.ref 94]) mkX12_above qX12_tellsOf_92 rfl rfl rfl rfl rfl (Nat.le_of_ble_eq_true rfl) (m_abv2) ?_
  refine ok_step (ps := []) (L' := [some (.ref 94), some (.int (nI 2)), some (.int x)]) (st' := [.int x, .int (nI 0), .ref 94]) (σ' := (γ, ν)) (pc' := 96) kX12_tellsOf_95 rfl rfl rf_a0 ?_
  refine ok_V (As := [.int (nI 0), .int x]) (b := 94) (st := []) mkX12_tellsOf qX12_tellsOf_96 rfl (rc_94) rfl rfl rfl rfl (Nat.le_of_ble_eq_true rfl) (mv3_2_0 (b := b) hk hm hn hg hb (by omega)) ?_
  refine ok_reti eX12_tellsOf_99 rfl ?_
  exact ⟨rfl, rfl⟩
theorem mv3_2_3 {x : Int32} {b g : Nat} (hk : ν 95 (190 + 8 * g) = nI 3) (hm : ν 95 (194 + 8 * g) = mn) (hn : ν 94 19 = nI g) (hg : g < 16) (hb : ν 94 18 = nI b) (hl : b + 2 ≤ 40) : rf_At (rf_T Ln xs) MX12_tellsOf 5 0 ([some (.ref 94), some (.int (nI 3)), some (.int x)], [], 108, (γ, ν)) (some (.int (-(x - mn)))) 108 (γ, apt 103 94 18 ν b [40, 12]) := by
  refine rf_pa ?_
  refine ok_step (ps := []) (L' := [some (.ref 94), some (.int (nI 3)), some (.int x)]) (st' := [.int (nI 3)]) (σ' := (γ, ν)) (pc' := 1) kX12_tellsOf_0 rfl rfl rf_a0 ?_
  refine ok_lkk (q := (3, 53)) (t := 54) bX12_tellsOf_1 (by decide) (by decide) (by decide) (by decide) ?_
  refine ok_step (ps := []) (L' := [some (.ref 94), some (.int (nI 3)), some (.int x)]) (st' := [.int (nI 40), .ref 94]) (σ' := (γ, ν)) (pc' := 57) kX12_tellsOf_54 rfl rfl rf_a0 ?_
  refine ok_V (As := [.int (nI 40)]) (b := 94) (st := []) mkX12_ran qX12_tellsOf_57 rfl (rc_94) rfl rfl rfl rfl (Nat.le_of_ble_eq_true rfl) (m_ran (b := b) hb (by omega)) ?_
  refine ok_step (ps := []) (L' := [some (.ref 94), some (.int (nI 3)), some (.int x)]) (st' := [.int (nI 3), .ref 94]) (σ' := (γ, apt 103 94 18 ν b [40])) (pc' := 62) kX12_tellsOf_60 rfl rfl rf_a0 ?_
  refine ok_S (As := [.int (nI 3)]) (st := [.ref 94]) mkX12_above qX12_tellsOf_62 rfl rfl rfl rfl rfl (Nat.le_of_ble_eq_true rfl) (m_abv3) ?_
  refine ok_step (ps := []) (L' := [some (.ref 94), some (.int (nI 3)), some (.int x)]) (st' := [.int x, .int (nI 2), .ref 94]) (σ' := (γ, apt 103 94 18 ν b [40])) (pc' := 66) kX12_tellsOf_65 rfl rfl rf_a0 ?_
  refine ok_V (As := [.int (nI 2), .int x]) (b := 94) (st := []) mkX12_tellsOf qX12_tellsOf_66 rfl (rc_94) rfl rfl rfl rfl (Nat.le_of_ble_eq_true rfl) (mv3_2_2 (b := (1 + b)) ((apt_f (by decide) (by omega)).trans hk) ((apt_f (by decide) (by omega)).trans hm) ((apt_f (by decide) (by omega)).trans hn) hg (apt_0 (by decide) hb) (by omega)) ?_
  rw [show apt 103 94 18 (apt 103 94 18 ν b [40]) (1 + b) [12] = apt 103 94 18 ν b [40, 12] from apt_app (by simp)]
  refine ok_step (ps := []) (L' := [some (.ref 94), some (.int (nI 3)), some (.int x)]) (st' := [.int (-(x - mn))]) (σ' := (γ, apt 103 94 18 ν b [40, 12])) (pc' := 70) kX12_tellsOf_69 rfl rfl rf_a0 ?_
  refine ok_reti eX12_tellsOf_70 rfl ?_
  exact ⟨rfl, rfl⟩
theorem mv3_1_2 {x : Int32} {b g : Nat} (hk : ν 95 (190 + 8 * g) = nI 3) (hm : ν 95 (194 + 8 * g) = mn) (hn : ν 94 19 = nI g) (hg : g < 16) (hb : ν 94 18 = nI b) (hl : b + 5 ≤ 40) : rf_At (rf_T Ln xs) MX12_weighsOf 7 0 ([some (.ref 94), some (.int (nI 2)), some (.int x), none], [], 108, (γ, ν)) (some (.int (((x + (nI g)) * nI 2) - (-((nI 1) - mn))))) 108 (γ, apt 103 94 18 ν b [30, 11, 10, 40, 12]) := by
  refine rf_pa ?_
  refine ok_step (ps := []) (L' := [some (.ref 94), some (.int (nI 2)), some (.int x), none]) (st' := [.int (nI 2)]) (σ' := (γ, ν)) (pc' := 1) kX12_weighsOf_0 rfl rfl rf_a0 ?_
  refine ok_tk bX12_weighsOf_1 (i := 2) rfl (rfl) ?_
  refine ok_step (ps := []) (L' := [some (.ref 94), some (.int (nI 2)), some (.int x), none]) (st' := [.int (nI 30), .ref 94]) (σ' := (γ, ν)) (pc' := 57) kX12_weighsOf_54 rfl rfl rf_a0 ?_
  refine ok_V (As := [.int (nI 30)]) (b := 94) (st := []) mkX12_ran qX12_weighsOf_57 rfl (rc_94) rfl rfl rfl rfl (Nat.le_of_ble_eq_true rfl) (m_ran (b := b) hb (by omega)) ?_
  refine ok_step (ps := []) (L' := [some (.ref 94), some (.int (nI 2)), some (.int x), none]) (st' := [.int (nI 2), .ref 94]) (σ' := (γ, apt 103 94 18 ν b [30])) (pc' := 62) kX12_weighsOf_60 rfl rfl rf_a0 ?_
  refine ok_S (As := [.int (nI 2)]) (st := [.ref 94]) mkX12_above qX12_weighsOf_62 rfl rfl rfl rfl rfl (Nat.le_of_ble_eq_true rfl) (m_abv2) ?_
  refine ok_step (ps := []) (L' := [some (.ref 94), some (.int (nI 2)), some (.int x), none]) (st' := [.int x, .int (nI 0), .ref 94]) (σ' := (γ, apt 103 94 18 ν b [30])) (pc' := 66) kX12_weighsOf_65 rfl rfl rf_a0 ?_
  refine ok_V (As := [.int (nI 0), .int x]) (b := 94) (st := []) mkX12_weighsOf qX12_weighsOf_66 rfl (rc_94) rfl rfl rfl rfl (Nat.le_of_ble_eq_true rfl) (mv3_1_0 (b := (1 + b)) ((apt_f (by decide) (by omega)).trans hk) ((apt_f (by decide) (by omega)).trans hm) ((apt_f (by decide) (by omega)).trans hn) hg (apt_0 (by decide) hb) (by omega)) ?_
  rw [show apt 103 94 18 (apt 103 94 18 ν b [30]) (1 + b) [11, 10] = apt 103 94 18 ν b [30, 11, 10] from apt_app (by simp)]
  refine ok_step (ps := []) (L' := [some (.ref 94), some (.int (nI 2)), some (.int x), some (.int ((x + (nI g)) * nI 2))]) (st' := [.ref 94, .ref 94, .int ((x + (nI g)) * nI 2)]) (σ' := (γ, apt 103 94 18 ν b [30, 11, 10])) (pc' := 73) kX12_weighsOf_69 rfl rfl rf_a0 ?_
  refine ok_V (As := []) (b := 94) (st := [.ref 94, .int ((x + (nI g)) * nI 2)]) mkX12_own qX12_weighsOf_73 rfl (rc_94) rfl rfl rfl rfl (Nat.le_of_ble_eq_true rfl) (m_own (K := 3) hg ((apt_f (by decide) (by omega)).trans hk) ((apt_f (by decide) (by omega)).trans hn)) ?_
  refine ok_step (ps := []) (L' := [some (.ref 94), some (.int (nI 2)), some (.int x), some (.int ((x + (nI g)) * nI 2))]) (st' := [.int (nI 1), .int (nI 3), .ref 94, .int ((x + (nI g)) * nI 2)]) (σ' := (γ, apt 103 94 18 ν b [30, 11, 10])) (pc' := 77) kX12_weighsOf_76 rfl rfl rf_a0 ?_
  refine ok_V (As := [.int (nI 3), .int (nI 1)]) (b := 94) (st := [.int ((x + (nI g)) * nI 2)]) mkX12_tellsOf qX12_weighsOf_77 rfl (rc_94) rfl rfl rfl rfl (Nat.le_of_ble_eq_true rfl) (mv3_2_3 (b := (3 + b)) ((apt_f (by decide) (by omega)).trans hk) ((apt_f (by decide) (by omega)).trans hm) ((apt_f (by decide) (by omega)).trans hn) hg (apt_0 (by decide) hb) (by omega)) ?_
  rw [show apt 103 94 18 (apt 103 94 18 ν b [30, 11, 10]) (3 + b) [40, 12] = apt 103 94 18 ν b [30, 11, 10, 40, 12] from apt_app (by simp)]
  refine ok_step (ps := []) (L' := [some (.ref 94), some (.int (nI 2)), some (.int x), some (.int ((x + (nI g)) * nI 2))]) (st' := [.int (((x + (nI g)) * nI 2) - (-((nI 1) - mn)))]) (σ' := (γ, apt 103 94 18 ν b [30, 11, 10, 40, 12])) (pc' := 81) kX12_weighsOf_80 rfl rfl rf_a0 ?_
  refine ok_reti eX12_weighsOf_81 rfl ?_
  exact ⟨rfl, rfl⟩
theorem mv3_1_3 {x : Int32} {b g : Nat} (hk : ν 95 (190 + 8 * g) = nI 3) (hm : ν 95 (194 + 8 * g) = mn) (hn : ν 94 19 = nI g) (hg : g < 16) (hb : ν 94 18 = nI b) (hl : b + 5 ≤ 40) : rf_At (rf_T Ln xs) MX12_weighsOf 8 0 ([some (.ref 94), some (.int (nI 3)), some (.int x), none], [], 108, (γ, ν)) (some (.int (((x + (nI g)) * nI 2) - (-((nI 1) - mn))))) 108 (γ, apt 103 94 18 ν b [30, 11, 10, 40, 12]) := by
  refine rf_pa ?_
  refine ok_step (ps := []) (L' := [some (.ref 94), some (.int (nI 3)), some (.int x), none]) (st' := [.int (nI 3)]) (σ' := (γ, ν)) (pc' := 1) kX12_weighsOf_0 rfl rfl rf_a0 ?_
  refine ok_tk bX12_weighsOf_1 (i := 3) rfl (rfl) ?_
  refine ok_step (ps := []) (L' := [some (.ref 94), some (.int (nI 3)), some (.int x), none]) (st' := [.int (nI 3), .ref 94]) (σ' := (γ, ν)) (pc' := 102) kX12_weighsOf_100 rfl rfl rf_a0 ?_
  refine ok_S (As := [.int (nI 3)]) (st := [.ref 94]) mkX12_above qX12_weighsOf_102 rfl rfl rfl rfl rfl (Nat.le_of_ble_eq_true rfl) (m_abv3) ?_
  refine ok_step (ps := []) (L' := [some (.ref 94), some (.int (nI 3)), some (.int x), none]) (st' := [.int x, .int (nI 2), .ref 94]) (σ' := (γ, ν)) (pc' := 106) kX12_weighsOf_105 rfl rfl rf_a0 ?_
  refine ok_V (As := [.int (nI 2), .int x]) (b := 94) (st := []) mkX12_weighsOf qX12_weighsOf_106 rfl (rc_94) rfl rfl rfl rfl (Nat.le_of_ble_eq_true rfl) (mv3_1_2 (b := b) hk hm hn hg hb (by omega)) ?_
  refine ok_reti eX12_weighsOf_109 rfl ?_
  exact ⟨rfl, rfl⟩
theorem mv3_3_0 {x : Int32} {b g : Nat} (hk : ν 95 (190 + 8 * g) = nI 3) (hm : ν 95 (194 + 8 * g) = mn) (hn : ν 94 19 = nI g) (hg : g < 16) (hb : ν 94 18 = nI b) (hl : b + 8 ≤ 40) : rf_At (rf_T Ln xs) MX12_paysOf 9 0 ([some (.ref 94), some (.int (nI 0)), some (.int x), none], [], 108, (γ, ν)) (some (.int ((((x + (nI g)) * nI 2) - (-((nI 1) - mn))) ^^^ (-(x - mn))))) 108 (γ, apt 103 94 18 ν b [13, 30, 11, 10, 40, 12, 40, 12]) := by
  refine rf_pa ?_
  refine ok_step (ps := []) (L' := [some (.ref 94), some (.int (nI 0)), some (.int x), none]) (st' := [.int (nI 0)]) (σ' := (γ, ν)) (pc' := 1) kX12_paysOf_0 rfl rfl rf_a0 ?_
  refine ok_lkk (q := (0, 35)) (t := 36) bX12_paysOf_1 (by decide) (by decide) (by decide) (by decide) ?_
  refine ok_step (ps := []) (L' := [some (.ref 94), some (.int (nI 0)), some (.int x), none]) (st' := [.int (nI 13), .ref 94]) (σ' := (γ, ν)) (pc' := 39) kX12_paysOf_36 rfl rfl rf_a0 ?_
  refine ok_V (As := [.int (nI 13)]) (b := 94) (st := []) mkX12_ran qX12_paysOf_39 rfl (rc_94) rfl rfl rfl rfl (Nat.le_of_ble_eq_true rfl) (m_ran (b := b) hb (by omega)) ?_
  refine ok_step (ps := []) (L' := [some (.ref 94), some (.int (nI 0)), some (.int x), none]) (st' := [.ref 94, .ref 94]) (σ' := (γ, apt 103 94 18 ν b [13])) (pc' := 44) kX12_paysOf_42 rfl rfl rf_a0 ?_
  refine ok_V (As := []) (b := 94) (st := [.ref 94]) mkX12_own qX12_paysOf_44 rfl (rc_94) rfl rfl rfl rfl (Nat.le_of_ble_eq_true rfl) (m_own (K := 3) hg ((apt_f (by decide) (by omega)).trans hk) ((apt_f (by decide) (by omega)).trans hn)) ?_
  refine ok_step (ps := []) (L' := [some (.ref 94), some (.int (nI 0)), some (.int x), none]) (st' := [.int x, .int (nI 3), .ref 94]) (σ' := (γ, apt 103 94 18 ν b [13])) (pc' := 48) kX12_paysOf_47 rfl rfl rf_a0 ?_
  refine ok_V (As := [.int (nI 3), .int x]) (b := 94) (st := []) mkX12_weighsOf qX12_paysOf_48 rfl (rc_94) rfl rfl rfl rfl (Nat.le_of_ble_eq_true rfl) (mv3_1_3 (b := (1 + b)) ((apt_f (by decide) (by omega)).trans hk) ((apt_f (by decide) (by omega)).trans hm) ((apt_f (by decide) (by omega)).trans hn) hg (apt_0 (by decide) hb) (by omega)) ?_
  rw [show apt 103 94 18 (apt 103 94 18 ν b [13]) (1 + b) [30, 11, 10, 40, 12] = apt 103 94 18 ν b [13, 30, 11, 10, 40, 12] from apt_app (by simp)]
  refine ok_step (ps := []) (L' := [some (.ref 94), some (.int (nI 0)), some (.int x), some (.int (((x + (nI g)) * nI 2) - (-((nI 1) - mn))))]) (st' := [.ref 94, .ref 94, .int (((x + (nI g)) * nI 2) - (-((nI 1) - mn)))]) (σ' := (γ, apt 103 94 18 ν b [13, 30, 11, 10, 40, 12])) (pc' := 55) kX12_paysOf_51 rfl rfl rf_a0 ?_
  refine ok_V (As := []) (b := 94) (st := [.ref 94, .int (((x + (nI g)) * nI 2) - (-((nI 1) - mn)))]) mkX12_own qX12_paysOf_55 rfl (rc_94) rfl rfl rfl rfl (Nat.le_of_ble_eq_true rfl) (m_own (K := 3) hg ((apt_f (by decide) (by omega)).trans hk) ((apt_f (by decide) (by omega)).trans hn)) ?_
  refine ok_step (ps := []) (L' := [some (.ref 94), some (.int (nI 0)), some (.int x), some (.int (((x + (nI g)) * nI 2) - (-((nI 1) - mn))))]) (st' := [.int x, .int (nI 3), .ref 94, .int (((x + (nI g)) * nI 2) - (-((nI 1) - mn)))]) (σ' := (γ, apt 103 94 18 ν b [13, 30, 11, 10, 40, 12])) (pc' := 59) kX12_paysOf_58 rfl rfl rf_a0 ?_
  refine ok_V (As := [.int (nI 3), .int x]) (b := 94) (st := [.int (((x + (nI g)) * nI 2) - (-((nI 1) - mn)))]) mkX12_tellsOf qX12_paysOf_59 rfl (rc_94) rfl rfl rfl rfl (Nat.le_of_ble_eq_true rfl) (mv3_2_3 (b := (6 + b)) ((apt_f (by decide) (by omega)).trans hk) ((apt_f (by decide) (by omega)).trans hm) ((apt_f (by decide) (by omega)).trans hn) hg (apt_0 (by decide) hb) (by omega)) ?_
  rw [show apt 103 94 18 (apt 103 94 18 ν b [13, 30, 11, 10, 40, 12]) (6 + b) [40, 12] = apt 103 94 18 ν b [13, 30, 11, 10, 40, 12, 40, 12] from apt_app (by simp)]
  refine ok_step (ps := []) (L' := [some (.ref 94), some (.int (nI 0)), some (.int x), some (.int (((x + (nI g)) * nI 2) - (-((nI 1) - mn))))]) (st' := [.int ((((x + (nI g)) * nI 2) - (-((nI 1) - mn))) ^^^ (-(x - mn)))]) (σ' := (γ, apt 103 94 18 ν b [13, 30, 11, 10, 40, 12, 40, 12])) (pc' := 63) kX12_paysOf_62 rfl rfl rf_a0 ?_
  refine ok_reti eX12_paysOf_63 rfl ?_
  exact ⟨rfl, rfl⟩
theorem mv3_3_2 {x : Int32} {b g : Nat} (hk : ν 95 (190 + 8 * g) = nI 3) (hm : ν 95 (194 + 8 * g) = mn) (hn : ν 94 19 = nI g) (hg : g < 16) (hb : ν 94 18 = nI b) (hl : b + 8 ≤ 40) : rf_At (rf_T Ln xs) MX12_paysOf 10 0 ([some (.ref 94), some (.int (nI 2)), some (.int x), none], [], 108, (γ, ν)) (some (.int ((((x + (nI g)) * nI 2) - (-((nI 1) - mn))) ^^^ (-(x - mn))))) 108 (γ, apt 103 94 18 ν b [13, 30, 11, 10, 40, 12, 40, 12]) := by
  refine rf_pa ?_
  refine ok_step (ps := []) (L' := [some (.ref 94), some (.int (nI 2)), some (.int x), none]) (st' := [.int (nI 2)]) (σ' := (γ, ν)) (pc' := 1) kX12_paysOf_0 rfl rfl rf_a0 ?_
  refine ok_lkd bX12_paysOf_1 (by decide) ?_
  refine ok_step (ps := []) (L' := [some (.ref 94), some (.int (nI 2)), some (.int x), none]) (st' := [.int (nI 2), .ref 94]) (σ' := (γ, ν)) (pc' := 113) kX12_paysOf_111 rfl rfl rf_a0 ?_
  refine ok_S (As := [.int (nI 2)]) (st := [.ref 94]) mkX12_above qX12_paysOf_113 rfl rfl rfl rfl rfl (Nat.le_of_ble_eq_true rfl) (m_abv2) ?_
  refine ok_step (ps := []) (L' := [some (.ref 94), some (.int (nI 2)), some (.int x), none]) (st' := [.int x, .int (nI 0), .ref 94]) (σ' := (γ, ν)) (pc' := 117) kX12_paysOf_116 rfl rfl rf_a0 ?_
  refine ok_V (As := [.int (nI 0), .int x]) (b := 94) (st := []) mkX12_paysOf qX12_paysOf_117 rfl (rc_94) rfl rfl rfl rfl (Nat.le_of_ble_eq_true rfl) (mv3_3_0 (b := b) hk hm hn hg hb (by omega)) ?_
  refine ok_reti eX12_paysOf_120 rfl ?_
  exact ⟨rfl, rfl⟩
theorem mv3_3_3 {x : Int32} {b g : Nat} (hk : ν 95 (190 + 8 * g) = nI 3) (hm : ν 95 (194 + 8 * g) = mn) (hn : ν 94 19 = nI g) (hg : g < 16) (hb : ν 94 18 = nI b) (hl : b + 8 ≤ 40) : rf_At (rf_T Ln xs) MX12_paysOf 11 0 ([some (.ref 94), some (.int (nI 3)), some (.int x), none], [], 108, (γ, ν)) (some (.int ((((x + (nI g)) * nI 2) - (-((nI 1) - mn))) ^^^ (-(x - mn))))) 108 (γ, apt 103 94 18 ν b [13, 30, 11, 10, 40, 12, 40, 12]) := by
  refine rf_pa ?_
  refine ok_step (ps := []) (L' := [some (.ref 94), some (.int (nI 3)), some (.int x), none]) (st' := [.int (nI 3)]) (σ' := (γ, ν)) (pc' := 1) kX12_paysOf_0 rfl rfl rf_a0 ?_
  refine ok_lkd bX12_paysOf_1 (by decide) ?_
  refine ok_step (ps := []) (L' := [some (.ref 94), some (.int (nI 3)), some (.int x), none]) (st' := [.int (nI 3), .ref 94]) (σ' := (γ, ν)) (pc' := 113) kX12_paysOf_111 rfl rfl rf_a0 ?_
  refine ok_S (As := [.int (nI 3)]) (st := [.ref 94]) mkX12_above qX12_paysOf_113 rfl rfl rfl rfl rfl (Nat.le_of_ble_eq_true rfl) (m_abv3) ?_
  refine ok_step (ps := []) (L' := [some (.ref 94), some (.int (nI 3)), some (.int x), none]) (st' := [.int x, .int (nI 2), .ref 94]) (σ' := (γ, ν)) (pc' := 117) kX12_paysOf_116 rfl rfl rf_a0 ?_
  refine ok_V (As := [.int (nI 2), .int x]) (b := 94) (st := []) mkX12_paysOf qX12_paysOf_117 rfl (rc_94) rfl rfl rfl rfl (Nat.le_of_ble_eq_true rfl) (mv3_3_2 (b := b) hk hm hn hg hb (by omega)) ?_
  refine ok_reti eX12_paysOf_120 rfl ?_
  exact ⟨rfl, rfl⟩
theorem mv4_0_0 {x : Int32} {b g : Nat} (hk : ν 95 (190 + 8 * g) = nI 4) (hm : ν 95 (194 + 8 * g) = mn) (hn : ν 94 19 = nI g) (hg : g < 16) (hb : ν 94 18 = nI b) (hl : b + 1 ≤ 40) : rf_At (rf_T Ln xs) MX12_goes 3 0 ([some (.ref 94), some (.int (nI 0)), some (.int x)], [], 108, (γ, ν)) (some (.int (x + (nI g)))) 108 (γ, apt 103 94 18 ν b [10]) := by
  refine rf_pa ?_
  refine ok_step (ps := []) (L' := [some (.ref 94), some (.int (nI 0)), some (.int x)]) (st' := [.int (nI 0)]) (σ' := (γ, ν)) (pc' := 1) kX12_goes_0 rfl rfl rf_a0 ?_
  refine ok_tk bX12_goes_1 (i := 0) rfl (rfl) ?_
  refine ok_step (ps := []) (L' := [some (.ref 94), some (.int (nI 0)), some (.int x)]) (st' := [.int (nI 10), .ref 94]) (σ' := (γ, ν)) (pc' := 51) kX12_goes_48 rfl rfl rf_a0 ?_
  refine ok_V (As := [.int (nI 10)]) (b := 94) (st := []) mkX12_ran qX12_goes_51 rfl (rc_94) rfl rfl rfl rfl (Nat.le_of_ble_eq_true rfl) (m_ran (b := b) hb (by omega)) ?_
  refine ok_step (ps := []) (L' := [some (.ref 94), some (.int (nI 0)), some (.int x)]) (st' := [.int (x + ((apt 103 94 18 ν b [10]) 94 19))]) (σ' := (γ, apt 103 94 18 ν b [10])) (pc' := 60) kX12_goes_54 rfl rfl rf_a0 ?_
  try rw [(show (apt 103 94 18 ν b [10]) 94 19 = nI g from (apt_f (by decide) (by omega)).trans hn)]
  refine ok_reti eX12_goes_60 rfl ?_
  exact ⟨rfl, rfl⟩
theorem mv4_0_2 {x : Int32} {b g : Nat} (hk : ν 95 (190 + 8 * g) = nI 4) (hm : ν 95 (194 + 8 * g) = mn) (hn : ν 94 19 = nI g) (hg : g < 16) (hb : ν 94 18 = nI b) (hl : b + 1 ≤ 40) : rf_At (rf_T Ln xs) MX12_goes 4 0 ([some (.ref 94), some (.int (nI 2)), some (.int x)], [], 108, (γ, ν)) (some (.int (x + (nI g)))) 108 (γ, apt 103 94 18 ν b [10]) := by
  refine rf_pa ?_
  refine ok_step (ps := []) (L' := [some (.ref 94), some (.int (nI 2)), some (.int x)]) (st' := [.int (nI 2)]) (σ' := (γ, ν)) (pc' := 1) kX12_goes_0 rfl rfl rf_a0 ?_
  refine ok_tk bX12_goes_1 (i := 2) rfl (rfl) ?_
  refine ok_step (ps := []) (L' := [some (.ref 94), some (.int (nI 2)), some (.int x)]) (st' := [.int (nI 2), .ref 94]) (σ' := (γ, ν)) (pc' := 129) kX12_goes_127 rfl rfl rf_a0 ?_
  refine ok_S (As := [.int (nI 2)]) (st := [.ref 94]) mkX12_above qX12_goes_129 rfl rfl rfl rfl rfl (Nat.le_of_ble_eq_true rfl) (m_abv2) ?_
  refine ok_step (ps := []) (L' := [some (.ref 94), some (.int (nI 2)), some (.int x)]) (st' := [.int x, .int (nI 0), .ref 94]) (σ' := (γ, ν)) (pc' := 133) kX12_goes_132 rfl rfl rf_a0 ?_
  refine ok_V (As := [.int (nI 0), .int x]) (b := 94) (st := []) mkX12_goes qX12_goes_133 rfl (rc_94) rfl rfl rfl rfl (Nat.le_of_ble_eq_true rfl) (mv4_0_0 (b := b) hk hm hn hg hb (by omega)) ?_
  refine ok_reti eX12_goes_136 rfl ?_
  exact ⟨rfl, rfl⟩
theorem mv4_0_4 {x : Int32} {b g : Nat} (hk : ν 95 (190 + 8 * g) = nI 4) (hm : ν 95 (194 + 8 * g) = mn) (hn : ν 94 19 = nI g) (hg : g < 16) (hb : ν 94 18 = nI b) (hl : b + 2 ≤ 40) : rf_At (rf_T Ln xs) MX12_goes 5 0 ([some (.ref 94), some (.int (nI 4)), some (.int x)], [], 108, (γ, ν)) (some (.int ((x + (nI g)) * nI 3))) 108 (γ, apt 103 94 18 ν b [50, 10]) := by
  refine rf_pa ?_
  refine ok_step (ps := []) (L' := [some (.ref 94), some (.int (nI 4)), some (.int x)]) (st' := [.int (nI 4)]) (σ' := (γ, ν)) (pc' := 1) kX12_goes_0 rfl rfl rf_a0 ?_
  refine ok_tk bX12_goes_1 (i := 4) rfl (rfl) ?_
  refine ok_step (ps := []) (L' := [some (.ref 94), some (.int (nI 4)), some (.int x)]) (st' := [.int (nI 50), .ref 94]) (σ' := (γ, ν)) (pc' := 64) kX12_goes_61 rfl rfl rf_a0 ?_
  refine ok_V (As := [.int (nI 50)]) (b := 94) (st := []) mkX12_ran qX12_goes_64 rfl (rc_94) rfl rfl rfl rfl (Nat.le_of_ble_eq_true rfl) (m_ran (b := b) hb (by omega)) ?_
  refine ok_step (ps := []) (L' := [some (.ref 94), some (.int (nI 4)), some (.int x)]) (st' := [.int (nI 4), .ref 94]) (σ' := (γ, apt 103 94 18 ν b [50])) (pc' := 69) kX12_goes_67 rfl rfl rf_a0 ?_
  refine ok_S (As := [.int (nI 4)]) (st := [.ref 94]) mkX12_above qX12_goes_69 rfl rfl rfl rfl rfl (Nat.le_of_ble_eq_true rfl) (m_abv4) ?_
  refine ok_step (ps := []) (L' := [some (.ref 94), some (.int (nI 4)), some (.int x)]) (st' := [.int x, .int (nI 2), .ref 94]) (σ' := (γ, apt 103 94 18 ν b [50])) (pc' := 73) kX12_goes_72 rfl rfl rf_a0 ?_
  refine ok_V (As := [.int (nI 2), .int x]) (b := 94) (st := []) mkX12_goes qX12_goes_73 rfl (rc_94) rfl rfl rfl rfl (Nat.le_of_ble_eq_true rfl) (mv4_0_2 (b := (1 + b)) ((apt_f (by decide) (by omega)).trans hk) ((apt_f (by decide) (by omega)).trans hm) ((apt_f (by decide) (by omega)).trans hn) hg (apt_0 (by decide) hb) (by omega)) ?_
  rw [show apt 103 94 18 (apt 103 94 18 ν b [50]) (1 + b) [10] = apt 103 94 18 ν b [50, 10] from apt_app (by simp)]
  refine ok_step (ps := []) (L' := [some (.ref 94), some (.int (nI 4)), some (.int x)]) (st' := [.int ((x + (nI g)) * (nI 3))]) (σ' := (γ, apt 103 94 18 ν b [50, 10])) (pc' := 78) kX12_goes_76 rfl rfl rf_a0 ?_
  refine ok_reti eX12_goes_78 rfl ?_
  exact ⟨rfl, rfl⟩
theorem mv4_1_0 {x : Int32} {b g : Nat} (hk : ν 95 (190 + 8 * g) = nI 4) (hm : ν 95 (194 + 8 * g) = mn) (hn : ν 94 19 = nI g) (hg : g < 16) (hb : ν 94 18 = nI b) (hl : b + 3 ≤ 40) : rf_At (rf_T Ln xs) MX12_weighsOf 6 0 ([some (.ref 94), some (.int (nI 0)), some (.int x), none], [], 108, (γ, ν)) (some (.int (((x + (nI g)) * nI 3) * nI 2))) 108 (γ, apt 103 94 18 ν b [11, 50, 10]) := by
  refine rf_pa ?_
  refine ok_step (ps := []) (L' := [some (.ref 94), some (.int (nI 0)), some (.int x), none]) (st' := [.int (nI 0)]) (σ' := (γ, ν)) (pc' := 1) kX12_weighsOf_0 rfl rfl rf_a0 ?_
  refine ok_tk bX12_weighsOf_1 (i := 0) rfl (rfl) ?_
  refine ok_step (ps := []) (L' := [some (.ref 94), some (.int (nI 0)), some (.int x), none]) (st' := [.int (nI 11), .ref 94]) (σ' := (γ, ν)) (pc' := 39) kX12_weighsOf_36 rfl rfl rf_a0 ?_
  refine ok_V (As := [.int (nI 11)]) (b := 94) (st := []) mkX12_ran qX12_weighsOf_39 rfl (rc_94) rfl rfl rfl rfl (Nat.le_of_ble_eq_true rfl) (m_ran (b := b) hb (by omega)) ?_
  refine ok_step (ps := []) (L' := [some (.ref 94), some (.int (nI 0)), some (.int x), none]) (st' := [.ref 94, .ref 94]) (σ' := (γ, apt 103 94 18 ν b [11])) (pc' := 44) kX12_weighsOf_42 rfl rfl rf_a0 ?_
  refine ok_V (As := []) (b := 94) (st := [.ref 94]) mkX12_own qX12_weighsOf_44 rfl (rc_94) rfl rfl rfl rfl (Nat.le_of_ble_eq_true rfl) (m_own (K := 4) hg ((apt_f (by decide) (by omega)).trans hk) ((apt_f (by decide) (by omega)).trans hn)) ?_
  refine ok_step (ps := []) (L' := [some (.ref 94), some (.int (nI 0)), some (.int x), none]) (st' := [.int x, .int (nI 4), .ref 94]) (σ' := (γ, apt 103 94 18 ν b [11])) (pc' := 48) kX12_weighsOf_47 rfl rfl rf_a0 ?_
  refine ok_V (As := [.int (nI 4), .int x]) (b := 94) (st := []) mkX12_goes qX12_weighsOf_48 rfl (rc_94) rfl rfl rfl rfl (Nat.le_of_ble_eq_true rfl) (mv4_0_4 (b := (1 + b)) ((apt_f (by decide) (by omega)).trans hk) ((apt_f (by decide) (by omega)).trans hm) ((apt_f (by decide) (by omega)).trans hn) hg (apt_0 (by decide) hb) (by omega)) ?_
  rw [show apt 103 94 18 (apt 103 94 18 ν b [11]) (1 + b) [50, 10] = apt 103 94 18 ν b [11, 50, 10] from apt_app (by simp)]
  refine ok_step (ps := []) (L' := [some (.ref 94), some (.int (nI 0)), some (.int x), none]) (st' := [.int (((x + (nI g)) * nI 3) * (nI 2))]) (σ' := (γ, apt 103 94 18 ν b [11, 50, 10])) (pc' := 53) kX12_weighsOf_51 rfl rfl rf_a0 ?_
  refine ok_reti eX12_weighsOf_53 rfl ?_
  exact ⟨rfl, rfl⟩
theorem mv4_2_0 {x : Int32} {b g : Nat} (hk : ν 95 (190 + 8 * g) = nI 4) (hm : ν 95 (194 + 8 * g) = mn) (hn : ν 94 19 = nI g) (hg : g < 16) (hb : ν 94 18 = nI b) (hl : b + 1 ≤ 40) : rf_At (rf_T Ln xs) MX12_tellsOf 3 0 ([some (.ref 94), some (.int (nI 0)), some (.int x)], [], 108, (γ, ν)) (some (.int (x - mn))) 108 (γ, apt 103 94 18 ν b [12]) := by
  refine rf_pa ?_
  refine ok_step (ps := []) (L' := [some (.ref 94), some (.int (nI 0)), some (.int x)]) (st' := [.int (nI 0)]) (σ' := (γ, ν)) (pc' := 1) kX12_tellsOf_0 rfl rfl rf_a0 ?_
  refine ok_lkk (q := (0, 35)) (t := 36) bX12_tellsOf_1 (by decide) (by decide) (by decide) (by decide) ?_
  refine ok_step (ps := []) (L' := [some (.ref 94), some (.int (nI 0)), some (.int x)]) (st' := [.int (nI 12), .ref 94]) (σ' := (γ, ν)) (pc' := 39) kX12_tellsOf_36 rfl rfl rf_a0 ?_
  refine ok_V (As := [.int (nI 12)]) (b := 94) (st := []) mkX12_ran qX12_tellsOf_39 rfl (rc_94) rfl rfl rfl rfl (Nat.le_of_ble_eq_true rfl) (m_ran (b := b) hb (by omega)) ?_
  refine ok_step (ps := []) (L' := [some (.ref 94), some (.int (nI 0)), some (.int x)]) (st' := [.int (nI 4), .int ((apt 103 94 18 ν b [12]) 94 19), .ref 94, .int x]) (σ' := (γ, apt 103 94 18 ν b [12])) (pc' := 49) kX12_tellsOf_42 rfl rfl rf_a0 ?_
  try rw [(show (apt 103 94 18 ν b [12]) 94 19 = nI g from (apt_f (by decide) (by omega)).trans hn)]
  refine ok_V (As := [.int (nI g), .int (nI 4)]) (b := 94) (st := [.int x]) mkX12_gr qX12_tellsOf_49 rfl (rc_94) rfl rfl rfl rfl (Nat.le_of_ble_eq_true rfl) (m_gr hg (by decide)) ?_
  rw [show (apt 103 94 18 ν b [12]) 95 (190 + 8 * g + 4) = mn from (congrArg ((apt 103 94 18 ν b [12]) 95) (by omega)).trans ((apt_f (by decide) (by omega)).trans hm)]
  refine ok_step (ps := []) (L' := [some (.ref 94), some (.int (nI 0)), some (.int x)]) (st' := [.int (x - mn)]) (σ' := (γ, apt 103 94 18 ν b [12])) (pc' := 53) kX12_tellsOf_52 rfl rfl rf_a0 ?_
  refine ok_reti eX12_tellsOf_53 rfl ?_
  exact ⟨rfl, rfl⟩
theorem mv4_2_2 {x : Int32} {b g : Nat} (hk : ν 95 (190 + 8 * g) = nI 4) (hm : ν 95 (194 + 8 * g) = mn) (hn : ν 94 19 = nI g) (hg : g < 16) (hb : ν 94 18 = nI b) (hl : b + 1 ≤ 40) : rf_At (rf_T Ln xs) MX12_tellsOf 4 0 ([some (.ref 94), some (.int (nI 2)), some (.int x)], [], 108, (γ, ν)) (some (.int (x - mn))) 108 (γ, apt 103 94 18 ν b [12]) := by
  refine rf_pa ?_
  refine ok_step (ps := []) (L' := [some (.ref 94), some (.int (nI 2)), some (.int x)]) (st' := [.int (nI 2)]) (σ' := (γ, ν)) (pc' := 1) kX12_tellsOf_0 rfl rfl rf_a0 ?_
  refine ok_lkd bX12_tellsOf_1 (by decide) ?_
  refine ok_step (ps := []) (L' := [some (.ref 94), some (.int (nI 2)), some (.int x)]) (st' := [.int (nI 2), .ref 94]) (σ' := (γ, ν)) (pc' := 92) kX12_tellsOf_90 rfl rfl rf_a0 ?_
  refine ok_S (As := [.int (nI 2)]) (st := [.ref 94]) mkX12_above qX12_tellsOf_92 rfl rfl rfl rfl rfl (Nat.le_of_ble_eq_true rfl) (m_abv2) ?_
  refine ok_step (ps := []) (L' := [some (.ref 94), some (.int (nI 2)), some (.int x)]) (st' := [.int x, .int (nI 0), .ref 94]) (σ' := (γ, ν)) (pc' := 96) kX12_tellsOf_95 rfl rfl rf_a0 ?_
  refine ok_V (As := [.int (nI 0), .int x]) (b := 94) (st := []) mkX12_tellsOf qX12_tellsOf_96 rfl (rc_94) rfl rfl rfl rfl (Nat.le_of_ble_eq_true rfl) (mv4_2_0 (b := b) hk hm hn hg hb (by omega)) ?_
  refine ok_reti eX12_tellsOf_99 rfl ?_
  exact ⟨rfl, rfl⟩
theorem mv4_2_4 {x : Int32} {b g : Nat} (hk : ν 95 (190 + 8 * g) = nI 4) (hm : ν 95 (194 + 8 * g) = mn) (hn : ν 94 19 = nI g) (hg : g < 16) (hb : ν 94 18 = nI b) (hl : b + 1 ≤ 40) : rf_At (rf_T Ln xs) MX12_tellsOf 5 0 ([some (.ref 94), some (.int (nI 4)), some (.int x)], [], 108, (γ, ν)) (some (.int (x - mn))) 108 (γ, apt 103 94 18 ν b [12]) := by
  refine rf_pa ?_
  refine ok_step (ps := []) (L' := [some (.ref 94), some (.int (nI 4)), some (.int x)]) (st' := [.int (nI 4)]) (σ' := (γ, ν)) (pc' := 1) kX12_tellsOf_0 rfl rfl rf_a0 ?_
  refine ok_lkd bX12_tellsOf_1 (by decide) ?_
  refine ok_step (ps := []) (L' := [some (.ref 94), some (.int (nI 4)), some (.int x)]) (st' := [.int (nI 4), .ref 94]) (σ' := (γ, ν)) (pc' := 92) kX12_tellsOf_90 rfl rfl rf_a0 ?_
  refine ok_S (As := [.int (nI 4)]) (st := [.ref 94]) mkX12_above qX12_tellsOf_92 rfl rfl rfl rfl rfl (Nat.le_of_ble_eq_true rfl) (m_abv4) ?_
  refine ok_step (ps := []) (L' := [some (.ref 94), some (.int (nI 4)), some (.int x)]) (st' := [.int x, .int (nI 2), .ref 94]) (σ' := (γ, ν)) (pc' := 96) kX12_tellsOf_95 rfl rfl rf_a0 ?_
  refine ok_V (As := [.int (nI 2), .int x]) (b := 94) (st := []) mkX12_tellsOf qX12_tellsOf_96 rfl (rc_94) rfl rfl rfl rfl (Nat.le_of_ble_eq_true rfl) (mv4_2_2 (b := b) hk hm hn hg hb (by omega)) ?_
  refine ok_reti eX12_tellsOf_99 rfl ?_
  exact ⟨rfl, rfl⟩
theorem mv4_1_2 {x : Int32} {b g : Nat} (hk : ν 95 (190 + 8 * g) = nI 4) (hm : ν 95 (194 + 8 * g) = mn) (hn : ν 94 19 = nI g) (hg : g < 16) (hb : ν 94 18 = nI b) (hl : b + 5 ≤ 40) : rf_At (rf_T Ln xs) MX12_weighsOf 7 0 ([some (.ref 94), some (.int (nI 2)), some (.int x), none], [], 108, (γ, ν)) (some (.int ((((x + (nI g)) * nI 3) * nI 2) - ((nI 1) - mn)))) 108 (γ, apt 103 94 18 ν b [30, 11, 50, 10, 12]) := by
  refine rf_pa ?_
  refine ok_step (ps := []) (L' := [some (.ref 94), some (.int (nI 2)), some (.int x), none]) (st' := [.int (nI 2)]) (σ' := (γ, ν)) (pc' := 1) kX12_weighsOf_0 rfl rfl rf_a0 ?_
  refine ok_tk bX12_weighsOf_1 (i := 2) rfl (rfl) ?_
  refine ok_step (ps := []) (L' := [some (.ref 94), some (.int (nI 2)), some (.int x), none]) (st' := [.int (nI 30), .ref 94]) (σ' := (γ, ν)) (pc' := 57) kX12_weighsOf_54 rfl rfl rf_a0 ?_
  refine ok_V (As := [.int (nI 30)]) (b := 94) (st := []) mkX12_ran qX12_weighsOf_57 rfl (rc_94) rfl rfl rfl rfl (Nat.le_of_ble_eq_true rfl) (m_ran (b := b) hb (by omega)) ?_
  refine ok_step (ps := []) (L' := [some (.ref 94), some (.int (nI 2)), some (.int x), none]) (st' := [.int (nI 2), .ref 94]) (σ' := (γ, apt 103 94 18 ν b [30])) (pc' := 62) kX12_weighsOf_60 rfl rfl rf_a0 ?_
  refine ok_S (As := [.int (nI 2)]) (st := [.ref 94]) mkX12_above qX12_weighsOf_62 rfl rfl rfl rfl rfl (Nat.le_of_ble_eq_true rfl) (m_abv2) ?_
  refine ok_step (ps := []) (L' := [some (.ref 94), some (.int (nI 2)), some (.int x), none]) (st' := [.int x, .int (nI 0), .ref 94]) (σ' := (γ, apt 103 94 18 ν b [30])) (pc' := 66) kX12_weighsOf_65 rfl rfl rf_a0 ?_
  refine ok_V (As := [.int (nI 0), .int x]) (b := 94) (st := []) mkX12_weighsOf qX12_weighsOf_66 rfl (rc_94) rfl rfl rfl rfl (Nat.le_of_ble_eq_true rfl) (mv4_1_0 (b := (1 + b)) ((apt_f (by decide) (by omega)).trans hk) ((apt_f (by decide) (by omega)).trans hm) ((apt_f (by decide) (by omega)).trans hn) hg (apt_0 (by decide) hb) (by omega)) ?_
  rw [show apt 103 94 18 (apt 103 94 18 ν b [30]) (1 + b) [11, 50, 10] = apt 103 94 18 ν b [30, 11, 50, 10] from apt_app (by simp)]
  refine ok_step (ps := []) (L' := [some (.ref 94), some (.int (nI 2)), some (.int x), some (.int (((x + (nI g)) * nI 3) * nI 2))]) (st' := [.ref 94, .ref 94, .int (((x + (nI g)) * nI 3) * nI 2)]) (σ' := (γ, apt 103 94 18 ν b [30, 11, 50, 10])) (pc' := 73) kX12_weighsOf_69 rfl rfl rf_a0 ?_
  refine ok_V (As := []) (b := 94) (st := [.ref 94, .int (((x + (nI g)) * nI 3) * nI 2)]) mkX12_own qX12_weighsOf_73 rfl (rc_94) rfl rfl rfl rfl (Nat.le_of_ble_eq_true rfl) (m_own (K := 4) hg ((apt_f (by decide) (by omega)).trans hk) ((apt_f (by decide) (by omega)).trans hn)) ?_
  refine ok_step (ps := []) (L' := [some (.ref 94), some (.int (nI 2)), some (.int x), some (.int (((x + (nI g)) * nI 3) * nI 2))]) (st' := [.int (nI 1), .int (nI 4), .ref 94, .int (((x + (nI g)) * nI 3) * nI 2)]) (σ' := (γ, apt 103 94 18 ν b [30, 11, 50, 10])) (pc' := 77) kX12_weighsOf_76 rfl rfl rf_a0 ?_
  refine ok_V (As := [.int (nI 4), .int (nI 1)]) (b := 94) (st := [.int (((x + (nI g)) * nI 3) * nI 2)]) mkX12_tellsOf qX12_weighsOf_77 rfl (rc_94) rfl rfl rfl rfl (Nat.le_of_ble_eq_true rfl) (mv4_2_4 (b := (4 + b)) ((apt_f (by decide) (by omega)).trans hk) ((apt_f (by decide) (by omega)).trans hm) ((apt_f (by decide) (by omega)).trans hn) hg (apt_0 (by decide) hb) (by omega)) ?_
  rw [show apt 103 94 18 (apt 103 94 18 ν b [30, 11, 50, 10]) (4 + b) [12] = apt 103 94 18 ν b [30, 11, 50, 10, 12] from apt_app (by simp)]
  refine ok_step (ps := []) (L' := [some (.ref 94), some (.int (nI 2)), some (.int x), some (.int (((x + (nI g)) * nI 3) * nI 2))]) (st' := [.int ((((x + (nI g)) * nI 3) * nI 2) - ((nI 1) - mn))]) (σ' := (γ, apt 103 94 18 ν b [30, 11, 50, 10, 12])) (pc' := 81) kX12_weighsOf_80 rfl rfl rf_a0 ?_
  refine ok_reti eX12_weighsOf_81 rfl ?_
  exact ⟨rfl, rfl⟩
theorem mv4_1_4 {x : Int32} {b g : Nat} (hk : ν 95 (190 + 8 * g) = nI 4) (hm : ν 95 (194 + 8 * g) = mn) (hn : ν 94 19 = nI g) (hg : g < 16) (hb : ν 94 18 = nI b) (hl : b + 6 ≤ 40) : rf_At (rf_T Ln xs) MX12_weighsOf 8 0 ([some (.ref 94), some (.int (nI 4)), some (.int x), none], [], 108, (γ, ν)) (some (.int (((((x + nI 1) + (nI g)) * nI 3) * nI 2) - ((nI 1) - mn)))) 108 (γ, apt 103 94 18 ν b [51, 30, 11, 50, 10, 12]) := by
  refine rf_pa ?_
  refine ok_step (ps := []) (L' := [some (.ref 94), some (.int (nI 4)), some (.int x), none]) (st' := [.int (nI 4)]) (σ' := (γ, ν)) (pc' := 1) kX12_weighsOf_0 rfl rfl rf_a0 ?_
  refine ok_tk bX12_weighsOf_1 (i := 4) rfl (rfl) ?_
  refine ok_step (ps := []) (L' := [some (.ref 94), some (.int (nI 4)), some (.int x), none]) (st' := [.int (nI 51), .ref 94]) (σ' := (γ, ν)) (pc' := 85) kX12_weighsOf_82 rfl rfl rf_a0 ?_
  refine ok_V (As := [.int (nI 51)]) (b := 94) (st := []) mkX12_ran qX12_weighsOf_85 rfl (rc_94) rfl rfl rfl rfl (Nat.le_of_ble_eq_true rfl) (m_ran (b := b) hb (by omega)) ?_
  refine ok_step (ps := []) (L' := [some (.ref 94), some (.int (nI 4)), some (.int x), none]) (st' := [.int (nI 4), .ref 94]) (σ' := (γ, apt 103 94 18 ν b [51])) (pc' := 90) kX12_weighsOf_88 rfl rfl rf_a0 ?_
  refine ok_S (As := [.int (nI 4)]) (st := [.ref 94]) mkX12_above qX12_weighsOf_90 rfl rfl rfl rfl rfl (Nat.le_of_ble_eq_true rfl) (m_abv4) ?_
  refine ok_step (ps := []) (L' := [some (.ref 94), some (.int (nI 4)), some (.int x), none]) (st' := [.int (x + (nI 1)), .int (nI 2), .ref 94]) (σ' := (γ, apt 103 94 18 ν b [51])) (pc' := 96) kX12_weighsOf_93 rfl rfl rf_a0 ?_
  refine ok_V (As := [.int (nI 2), .int (x + (nI 1))]) (b := 94) (st := []) mkX12_weighsOf qX12_weighsOf_96 rfl (rc_94) rfl rfl rfl rfl (Nat.le_of_ble_eq_true rfl) (mv4_1_2 (b := (1 + b)) ((apt_f (by decide) (by omega)).trans hk) ((apt_f (by decide) (by omega)).trans hm) ((apt_f (by decide) (by omega)).trans hn) hg (apt_0 (by decide) hb) (by omega)) ?_
  rw [show apt 103 94 18 (apt 103 94 18 ν b [51]) (1 + b) [30, 11, 50, 10, 12] = apt 103 94 18 ν b [51, 30, 11, 50, 10, 12] from apt_app (by simp)]
  refine ok_reti eX12_weighsOf_99 rfl ?_
  exact ⟨rfl, rfl⟩
theorem mv4_3_0 {x : Int32} {b g : Nat} (hk : ν 95 (190 + 8 * g) = nI 4) (hm : ν 95 (194 + 8 * g) = mn) (hn : ν 94 19 = nI g) (hg : g < 16) (hb : ν 94 18 = nI b) (hl : b + 8 ≤ 40) : rf_At (rf_T Ln xs) MX12_paysOf 9 0 ([some (.ref 94), some (.int (nI 0)), some (.int x), none], [], 108, (γ, ν)) (some (.int ((((((x + nI 1) + (nI g)) * nI 3) * nI 2) - ((nI 1) - mn)) ^^^ (x - mn)))) 108 (γ, apt 103 94 18 ν b [13, 51, 30, 11, 50, 10, 12, 12]) := by
  refine rf_pa ?_
  refine ok_step (ps := []) (L' := [some (.ref 94), some (.int (nI 0)), some (.int x), none]) (st' := [.int (nI 0)]) (σ' := (γ, ν)) (pc' := 1) kX12_paysOf_0 rfl rfl rf_a0 ?_
  refine ok_lkk (q := (0, 35)) (t := 36) bX12_paysOf_1 (by decide) (by decide) (by decide) (by decide) ?_
  refine ok_step (ps := []) (L' := [some (.ref 94), some (.int (nI 0)), some (.int x), none]) (st' := [.int (nI 13), .ref 94]) (σ' := (γ, ν)) (pc' := 39) kX12_paysOf_36 rfl rfl rf_a0 ?_
  refine ok_V (As := [.int (nI 13)]) (b := 94) (st := []) mkX12_ran qX12_paysOf_39 rfl (rc_94) rfl rfl rfl rfl (Nat.le_of_ble_eq_true rfl) (m_ran (b := b) hb (by omega)) ?_
  refine ok_step (ps := []) (L' := [some (.ref 94), some (.int (nI 0)), some (.int x), none]) (st' := [.ref 94, .ref 94]) (σ' := (γ, apt 103 94 18 ν b [13])) (pc' := 44) kX12_paysOf_42 rfl rfl rf_a0 ?_
  refine ok_V (As := []) (b := 94) (st := [.ref 94]) mkX12_own qX12_paysOf_44 rfl (rc_94) rfl rfl rfl rfl (Nat.le_of_ble_eq_true rfl) (m_own (K := 4) hg ((apt_f (by decide) (by omega)).trans hk) ((apt_f (by decide) (by omega)).trans hn)) ?_
  refine ok_step (ps := []) (L' := [some (.ref 94), some (.int (nI 0)), some (.int x), none]) (st' := [.int x, .int (nI 4), .ref 94]) (σ' := (γ, apt 103 94 18 ν b [13])) (pc' := 48) kX12_paysOf_47 rfl rfl rf_a0 ?_
  refine ok_V (As := [.int (nI 4), .int x]) (b := 94) (st := []) mkX12_weighsOf qX12_paysOf_48 rfl (rc_94) rfl rfl rfl rfl (Nat.le_of_ble_eq_true rfl) (mv4_1_4 (b := (1 + b)) ((apt_f (by decide) (by omega)).trans hk) ((apt_f (by decide) (by omega)).trans hm) ((apt_f (by decide) (by omega)).trans hn) hg (apt_0 (by decide) hb) (by omega)) ?_
  rw [show apt 103 94 18 (apt 103 94 18 ν b [13]) (1 + b) [51, 30, 11, 50, 10, 12] = apt 103 94 18 ν b [13, 51, 30, 11, 50, 10, 12] from apt_app (by simp)]
  refine ok_step (ps := []) (L' := [some (.ref 94), some (.int (nI 0)), some (.int x), some (.int (((((x + nI 1) + (nI g)) * nI 3) * nI 2) - ((nI 1) - mn)))]) (st' := [.ref 94, .ref 94, .int (((((x + nI 1) + (nI g)) * nI 3) * nI 2) - ((nI 1) - mn))]) (σ' := (γ, apt 103 94 18 ν b [13, 51, 30, 11, 50, 10, 12])) (pc' := 55) kX12_paysOf_51 rfl rfl rf_a0 ?_
  refine ok_V (As := []) (b := 94) (st := [.ref 94, .int (((((x + nI 1) + (nI g)) * nI 3) * nI 2) - ((nI 1) - mn))]) mkX12_own qX12_paysOf_55 rfl (rc_94) rfl rfl rfl rfl (Nat.le_of_ble_eq_true rfl) (m_own (K := 4) hg ((apt_f (by decide) (by omega)).trans hk) ((apt_f (by decide) (by omega)).trans hn)) ?_
  refine ok_step (ps := []) (L' := [some (.ref 94), some (.int (nI 0)), some (.int x), some (.int (((((x + nI 1) + (nI g)) * nI 3) * nI 2) - ((nI 1) - mn)))]) (st' := [.int x, .int (nI 4), .ref 94, .int (((((x + nI 1) + (nI g)) * nI 3) * nI 2) - ((nI 1) - mn))]) (σ' := (γ, apt 103 94 18 ν b [13, 51, 30, 11, 50, 10, 12])) (pc' := 59) kX12_paysOf_58 rfl rfl rf_a0 ?_
  refine ok_V (As := [.int (nI 4), .int x]) (b := 94) (st := [.int (((((x + nI 1) + (nI g)) * nI 3) * nI 2) - ((nI 1) - mn))]) mkX12_tellsOf qX12_paysOf_59 rfl (rc_94) rfl rfl rfl rfl (Nat.le_of_ble_eq_true rfl) (mv4_2_4 (b := (7 + b)) ((apt_f (by decide) (by omega)).trans hk) ((apt_f (by decide) (by omega)).trans hm) ((apt_f (by decide) (by omega)).trans hn) hg (apt_0 (by decide) hb) (by omega)) ?_
  rw [show apt 103 94 18 (apt 103 94 18 ν b [13, 51, 30, 11, 50, 10, 12]) (7 + b) [12] = apt 103 94 18 ν b [13, 51, 30, 11, 50, 10, 12, 12] from apt_app (by simp)]
  refine ok_step (ps := []) (L' := [some (.ref 94), some (.int (nI 0)), some (.int x), some (.int (((((x + nI 1) + (nI g)) * nI 3) * nI 2) - ((nI 1) - mn)))]) (st' := [.int ((((((x + nI 1) + (nI g)) * nI 3) * nI 2) - ((nI 1) - mn)) ^^^ (x - mn))]) (σ' := (γ, apt 103 94 18 ν b [13, 51, 30, 11, 50, 10, 12, 12])) (pc' := 63) kX12_paysOf_62 rfl rfl rf_a0 ?_
  refine ok_reti eX12_paysOf_63 rfl ?_
  exact ⟨rfl, rfl⟩
theorem mv4_3_2 {x : Int32} {b g : Nat} (hk : ν 95 (190 + 8 * g) = nI 4) (hm : ν 95 (194 + 8 * g) = mn) (hn : ν 94 19 = nI g) (hg : g < 16) (hb : ν 94 18 = nI b) (hl : b + 8 ≤ 40) : rf_At (rf_T Ln xs) MX12_paysOf 10 0 ([some (.ref 94), some (.int (nI 2)), some (.int x), none], [], 108, (γ, ν)) (some (.int ((((((x + nI 1) + (nI g)) * nI 3) * nI 2) - ((nI 1) - mn)) ^^^ (x - mn)))) 108 (γ, apt 103 94 18 ν b [13, 51, 30, 11, 50, 10, 12, 12]) := by
  refine rf_pa ?_
  refine ok_step (ps := []) (L' := [some (.ref 94), some (.int (nI 2)), some (.int x), none]) (st' := [.int (nI 2)]) (σ' := (γ, ν)) (pc' := 1) kX12_paysOf_0 rfl rfl rf_a0 ?_
  refine ok_lkd bX12_paysOf_1 (by decide) ?_
  refine ok_step (ps := []) (L' := [some (.ref 94), some (.int (nI 2)), some (.int x), none]) (st' := [.int (nI 2), .ref 94]) (σ' := (γ, ν)) (pc' := 113) kX12_paysOf_111 rfl rfl rf_a0 ?_
  refine ok_S (As := [.int (nI 2)]) (st := [.ref 94]) mkX12_above qX12_paysOf_113 rfl rfl rfl rfl rfl (Nat.le_of_ble_eq_true rfl) (m_abv2) ?_
  refine ok_step (ps := []) (L' := [some (.ref 94), some (.int (nI 2)), some (.int x), none]) (st' := [.int x, .int (nI 0), .ref 94]) (σ' := (γ, ν)) (pc' := 117) kX12_paysOf_116 rfl rfl rf_a0 ?_
  refine ok_V (As := [.int (nI 0), .int x]) (b := 94) (st := []) mkX12_paysOf qX12_paysOf_117 rfl (rc_94) rfl rfl rfl rfl (Nat.le_of_ble_eq_true rfl) (mv4_3_0 (b := b) hk hm hn hg hb (by omega)) ?_
  refine ok_reti eX12_paysOf_120 rfl ?_
  exact ⟨rfl, rfl⟩
theorem mv4_3_4 {x : Int32} {b g : Nat} (hk : ν 95 (190 + 8 * g) = nI 4) (hm : ν 95 (194 + 8 * g) = mn) (hn : ν 94 19 = nI g) (hg : g < 16) (hb : ν 94 18 = nI b) (hl : b + 8 ≤ 40) : rf_At (rf_T Ln xs) MX12_paysOf 11 0 ([some (.ref 94), some (.int (nI 4)), some (.int x), none], [], 108, (γ, ν)) (some (.int ((((((x + nI 1) + (nI g)) * nI 3) * nI 2) - ((nI 1) - mn)) ^^^ (x - mn)))) 108 (γ, apt 103 94 18 ν b [13, 51, 30, 11, 50, 10, 12, 12]) := by
  refine rf_pa ?_
  refine ok_step (ps := []) (L' := [some (.ref 94), some (.int (nI 4)), some (.int x), none]) (st' := [.int (nI 4)]) (σ' := (γ, ν)) (pc' := 1) kX12_paysOf_0 rfl rfl rf_a0 ?_
  refine ok_lkd bX12_paysOf_1 (by decide) ?_
  refine ok_step (ps := []) (L' := [some (.ref 94), some (.int (nI 4)), some (.int x), none]) (st' := [.int (nI 4), .ref 94]) (σ' := (γ, ν)) (pc' := 113) kX12_paysOf_111 rfl rfl rf_a0 ?_
  refine ok_S (As := [.int (nI 4)]) (st := [.ref 94]) mkX12_above qX12_paysOf_113 rfl rfl rfl rfl rfl (Nat.le_of_ble_eq_true rfl) (m_abv4) ?_
  refine ok_step (ps := []) (L' := [some (.ref 94), some (.int (nI 4)), some (.int x), none]) (st' := [.int x, .int (nI 2), .ref 94]) (σ' := (γ, ν)) (pc' := 117) kX12_paysOf_116 rfl rfl rf_a0 ?_
  refine ok_V (As := [.int (nI 2), .int x]) (b := 94) (st := []) mkX12_paysOf qX12_paysOf_117 rfl (rc_94) rfl rfl rfl rfl (Nat.le_of_ble_eq_true rfl) (mv4_3_2 (b := b) hk hm hn hg hb (by omega)) ?_
  refine ok_reti eX12_paysOf_120 rfl ?_
  exact ⟨rfl, rfl⟩
theorem mv5_0_0 {x : Int32} {b g : Nat} (hk : ν 95 (190 + 8 * g) = nI 5) (hm : ν 95 (194 + 8 * g) = mn) (hn : ν 94 19 = nI g) (hg : g < 16) (hb : ν 94 18 = nI b) (hl : b + 1 ≤ 40) : rf_At (rf_T Ln xs) MX12_goes 3 0 ([some (.ref 94), some (.int (nI 0)), some (.int x)], [], 108, (γ, ν)) (some (.int (x + (nI g)))) 108 (γ, apt 103 94 18 ν b [10]) := by
  refine rf_pa ?_
  refine ok_step (ps := []) (L' := [some (.ref 94), some (.int (nI 0)), some (.int x)]) (st' := [.int (nI 0)]) (σ' := (γ, ν)) (pc' := 1) kX12_goes_0 rfl rfl rf_a0 ?_
  refine ok_tk bX12_goes_1 (i := 0) rfl (rfl) ?_
  refine ok_step (ps := []) (L' := [some (.ref 94), some (.int (nI 0)), some (.int x)]) (st' := [.int (nI 10), .ref 94]) (σ' := (γ, ν)) (pc' := 51) kX12_goes_48 rfl rfl rf_a0 ?_
  refine ok_V (As := [.int (nI 10)]) (b := 94) (st := []) mkX12_ran qX12_goes_51 rfl (rc_94) rfl rfl rfl rfl (Nat.le_of_ble_eq_true rfl) (m_ran (b := b) hb (by omega)) ?_
  refine ok_step (ps := []) (L' := [some (.ref 94), some (.int (nI 0)), some (.int x)]) (st' := [.int (x + ((apt 103 94 18 ν b [10]) 94 19))]) (σ' := (γ, apt 103 94 18 ν b [10])) (pc' := 60) kX12_goes_54 rfl rfl rf_a0 ?_
  try rw [(show (apt 103 94 18 ν b [10]) 94 19 = nI g from (apt_f (by decide) (by omega)).trans hn)]
  refine ok_reti eX12_goes_60 rfl ?_
  exact ⟨rfl, rfl⟩
theorem mv5_0_5 {x : Int32} {b g : Nat} (hk : ν 95 (190 + 8 * g) = nI 5) (hm : ν 95 (194 + 8 * g) = mn) (hn : ν 94 19 = nI g) (hg : g < 16) (hb : ν 94 18 = nI b) (hl : b + 2 ≤ 40) : rf_At (rf_T Ln xs) MX12_goes 4 0 ([some (.ref 94), some (.int (nI 5)), some (.int x)], [], 108, (γ, ν)) (some (.int ((x + (nI g)) ^^^ mn))) 108 (γ, apt 103 94 18 ν b [60, 10]) := by
  refine rf_pa ?_
  refine ok_step (ps := []) (L' := [some (.ref 94), some (.int (nI 5)), some (.int x)]) (st' := [.int (nI 5)]) (σ' := (γ, ν)) (pc' := 1) kX12_goes_0 rfl rfl rf_a0 ?_
  refine ok_tk bX12_goes_1 (i := 5) rfl (rfl) ?_
  refine ok_step (ps := []) (L' := [some (.ref 94), some (.int (nI 5)), some (.int x)]) (st' := [.int (nI 60), .ref 94]) (σ' := (γ, ν)) (pc' := 82) kX12_goes_79 rfl rfl rf_a0 ?_
  refine ok_V (As := [.int (nI 60)]) (b := 94) (st := []) mkX12_ran qX12_goes_82 rfl (rc_94) rfl rfl rfl rfl (Nat.le_of_ble_eq_true rfl) (m_ran (b := b) hb (by omega)) ?_
  refine ok_step (ps := []) (L' := [some (.ref 94), some (.int (nI 5)), some (.int x)]) (st' := [.int (nI 5), .ref 94]) (σ' := (γ, apt 103 94 18 ν b [60])) (pc' := 87) kX12_goes_85 rfl rfl rf_a0 ?_
  refine ok_S (As := [.int (nI 5)]) (st := [.ref 94]) mkX12_above qX12_goes_87 rfl rfl rfl rfl rfl (Nat.le_of_ble_eq_true rfl) (m_abv5) ?_
  refine ok_step (ps := []) (L' := [some (.ref 94), some (.int (nI 5)), some (.int x)]) (st' := [.int x, .int (nI 0), .ref 94]) (σ' := (γ, apt 103 94 18 ν b [60])) (pc' := 91) kX12_goes_90 rfl rfl rf_a0 ?_
  refine ok_V (As := [.int (nI 0), .int x]) (b := 94) (st := []) mkX12_goes qX12_goes_91 rfl (rc_94) rfl rfl rfl rfl (Nat.le_of_ble_eq_true rfl) (mv5_0_0 (b := (1 + b)) ((apt_f (by decide) (by omega)).trans hk) ((apt_f (by decide) (by omega)).trans hm) ((apt_f (by decide) (by omega)).trans hn) hg (apt_0 (by decide) hb) (by omega)) ?_
  rw [show apt 103 94 18 (apt 103 94 18 ν b [60]) (1 + b) [10] = apt 103 94 18 ν b [60, 10] from apt_app (by simp)]
  refine ok_step (ps := []) (L' := [some (.ref 94), some (.int (nI 5)), some (.int x)]) (st' := [.int (nI 4), .int ((apt 103 94 18 ν b [60, 10]) 94 19), .ref 94, .int (x + (nI g))]) (σ' := (γ, apt 103 94 18 ν b [60, 10])) (pc' := 100) kX12_goes_94 rfl rfl rf_a0 ?_
  try rw [(show (apt 103 94 18 ν b [60, 10]) 94 19 = nI g from (apt_f (by decide) (by omega)).trans hn)]
  refine ok_V (As := [.int (nI g), .int (nI 4)]) (b := 94) (st := [.int (x + (nI g))]) mkX12_gr qX12_goes_100 rfl (rc_94) rfl rfl rfl rfl (Nat.le_of_ble_eq_true rfl) (m_gr hg (by decide)) ?_
  rw [show (apt 103 94 18 ν b [60, 10]) 95 (190 + 8 * g + 4) = mn from (congrArg ((apt 103 94 18 ν b [60, 10]) 95) (by omega)).trans ((apt_f (by decide) (by omega)).trans hm)]
  refine ok_step (ps := []) (L' := [some (.ref 94), some (.int (nI 5)), some (.int x)]) (st' := [.int ((x + (nI g)) ^^^ mn)]) (σ' := (γ, apt 103 94 18 ν b [60, 10])) (pc' := 104) kX12_goes_103 rfl rfl rf_a0 ?_
  refine ok_reti eX12_goes_104 rfl ?_
  exact ⟨rfl, rfl⟩
theorem mv5_1_0 {x : Int32} {b g : Nat} (hk : ν 95 (190 + 8 * g) = nI 5) (hm : ν 95 (194 + 8 * g) = mn) (hn : ν 94 19 = nI g) (hg : g < 16) (hb : ν 94 18 = nI b) (hl : b + 3 ≤ 40) : rf_At (rf_T Ln xs) MX12_weighsOf 5 0 ([some (.ref 94), some (.int (nI 0)), some (.int x), none], [], 108, (γ, ν)) (some (.int (((x + (nI g)) ^^^ mn) * nI 2))) 108 (γ, apt 103 94 18 ν b [11, 60, 10]) := by
  refine rf_pa ?_
  refine ok_step (ps := []) (L' := [some (.ref 94), some (.int (nI 0)), some (.int x), none]) (st' := [.int (nI 0)]) (σ' := (γ, ν)) (pc' := 1) kX12_weighsOf_0 rfl rfl rf_a0 ?_
  refine ok_tk bX12_weighsOf_1 (i := 0) rfl (rfl) ?_
  refine ok_step (ps := []) (L' := [some (.ref 94), some (.int (nI 0)), some (.int x), none]) (st' := [.int (nI 11), .ref 94]) (σ' := (γ, ν)) (pc' := 39) kX12_weighsOf_36 rfl rfl rf_a0 ?_
  refine ok_V (As := [.int (nI 11)]) (b := 94) (st := []) mkX12_ran qX12_weighsOf_39 rfl (rc_94) rfl rfl rfl rfl (Nat.le_of_ble_eq_true rfl) (m_ran (b := b) hb (by omega)) ?_
  refine ok_step (ps := []) (L' := [some (.ref 94), some (.int (nI 0)), some (.int x), none]) (st' := [.ref 94, .ref 94]) (σ' := (γ, apt 103 94 18 ν b [11])) (pc' := 44) kX12_weighsOf_42 rfl rfl rf_a0 ?_
  refine ok_V (As := []) (b := 94) (st := [.ref 94]) mkX12_own qX12_weighsOf_44 rfl (rc_94) rfl rfl rfl rfl (Nat.le_of_ble_eq_true rfl) (m_own (K := 5) hg ((apt_f (by decide) (by omega)).trans hk) ((apt_f (by decide) (by omega)).trans hn)) ?_
  refine ok_step (ps := []) (L' := [some (.ref 94), some (.int (nI 0)), some (.int x), none]) (st' := [.int x, .int (nI 5), .ref 94]) (σ' := (γ, apt 103 94 18 ν b [11])) (pc' := 48) kX12_weighsOf_47 rfl rfl rf_a0 ?_
  refine ok_V (As := [.int (nI 5), .int x]) (b := 94) (st := []) mkX12_goes qX12_weighsOf_48 rfl (rc_94) rfl rfl rfl rfl (Nat.le_of_ble_eq_true rfl) (mv5_0_5 (b := (1 + b)) ((apt_f (by decide) (by omega)).trans hk) ((apt_f (by decide) (by omega)).trans hm) ((apt_f (by decide) (by omega)).trans hn) hg (apt_0 (by decide) hb) (by omega)) ?_
  rw [show apt 103 94 18 (apt 103 94 18 ν b [11]) (1 + b) [60, 10] = apt 103 94 18 ν b [11, 60, 10] from apt_app (by simp)]
  refine ok_step (ps := []) (L' := [some (.ref 94), some (.int (nI 0)), some (.int x), none]) (st' := [.int (((x + (nI g)) ^^^ mn) * (nI 2))]) (σ' := (γ, apt 103 94 18 ν b [11, 60, 10])) (pc' := 53) kX12_weighsOf_51 rfl rfl rf_a0 ?_
  refine ok_reti eX12_weighsOf_53 rfl ?_
  exact ⟨rfl, rfl⟩
theorem mv5_1_5 {x : Int32} {b g : Nat} (hk : ν 95 (190 + 8 * g) = nI 5) (hm : ν 95 (194 + 8 * g) = mn) (hn : ν 94 19 = nI g) (hg : g < 16) (hb : ν 94 18 = nI b) (hl : b + 3 ≤ 40) : rf_At (rf_T Ln xs) MX12_weighsOf 6 0 ([some (.ref 94), some (.int (nI 5)), some (.int x), none], [], 108, (γ, ν)) (some (.int (((x + (nI g)) ^^^ mn) * nI 2))) 108 (γ, apt 103 94 18 ν b [11, 60, 10]) := by
  refine rf_pa ?_
  refine ok_step (ps := []) (L' := [some (.ref 94), some (.int (nI 5)), some (.int x), none]) (st' := [.int (nI 5)]) (σ' := (γ, ν)) (pc' := 1) kX12_weighsOf_0 rfl rfl rf_a0 ?_
  refine ok_td bX12_weighsOf_1 (by decide) ?_
  refine ok_step (ps := []) (L' := [some (.ref 94), some (.int (nI 5)), some (.int x), none]) (st' := [.int (nI 5), .ref 94]) (σ' := (γ, ν)) (pc' := 102) kX12_weighsOf_100 rfl rfl rf_a0 ?_
  refine ok_S (As := [.int (nI 5)]) (st := [.ref 94]) mkX12_above qX12_weighsOf_102 rfl rfl rfl rfl rfl (Nat.le_of_ble_eq_true rfl) (m_abv5) ?_
  refine ok_step (ps := []) (L' := [some (.ref 94), some (.int (nI 5)), some (.int x), none]) (st' := [.int x, .int (nI 0), .ref 94]) (σ' := (γ, ν)) (pc' := 106) kX12_weighsOf_105 rfl rfl rf_a0 ?_
  refine ok_V (As := [.int (nI 0), .int x]) (b := 94) (st := []) mkX12_weighsOf qX12_weighsOf_106 rfl (rc_94) rfl rfl rfl rfl (Nat.le_of_ble_eq_true rfl) (mv5_1_0 (b := b) hk hm hn hg hb (by omega)) ?_
  refine ok_reti eX12_weighsOf_109 rfl ?_
  exact ⟨rfl, rfl⟩
theorem mv5_2_0 {x : Int32} {b g : Nat} (hk : ν 95 (190 + 8 * g) = nI 5) (hm : ν 95 (194 + 8 * g) = mn) (hn : ν 94 19 = nI g) (hg : g < 16) (hb : ν 94 18 = nI b) (hl : b + 1 ≤ 40) : rf_At (rf_T Ln xs) MX12_tellsOf 3 0 ([some (.ref 94), some (.int (nI 0)), some (.int x)], [], 108, (γ, ν)) (some (.int (x - mn))) 108 (γ, apt 103 94 18 ν b [12]) := by
  refine rf_pa ?_
  refine ok_step (ps := []) (L' := [some (.ref 94), some (.int (nI 0)), some (.int x)]) (st' := [.int (nI 0)]) (σ' := (γ, ν)) (pc' := 1) kX12_tellsOf_0 rfl rfl rf_a0 ?_
  refine ok_lkk (q := (0, 35)) (t := 36) bX12_tellsOf_1 (by decide) (by decide) (by decide) (by decide) ?_
  refine ok_step (ps := []) (L' := [some (.ref 94), some (.int (nI 0)), some (.int x)]) (st' := [.int (nI 12), .ref 94]) (σ' := (γ, ν)) (pc' := 39) kX12_tellsOf_36 rfl rfl rf_a0 ?_
  refine ok_V (As := [.int (nI 12)]) (b := 94) (st := []) mkX12_ran qX12_tellsOf_39 rfl (rc_94) rfl rfl rfl rfl (Nat.le_of_ble_eq_true rfl) (m_ran (b := b) hb (by omega)) ?_
  refine ok_step (ps := []) (L' := [some (.ref 94), some (.int (nI 0)), some (.int x)]) (st' := [.int (nI 4), .int ((apt 103 94 18 ν b [12]) 94 19), .ref 94, .int x]) (σ' := (γ, apt 103 94 18 ν b [12])) (pc' := 49) kX12_tellsOf_42 rfl rfl rf_a0 ?_
  try rw [(show (apt 103 94 18 ν b [12]) 94 19 = nI g from (apt_f (by decide) (by omega)).trans hn)]
  refine ok_V (As := [.int (nI g), .int (nI 4)]) (b := 94) (st := [.int x]) mkX12_gr qX12_tellsOf_49 rfl (rc_94) rfl rfl rfl rfl (Nat.le_of_ble_eq_true rfl) (m_gr hg (by decide)) ?_
  rw [show (apt 103 94 18 ν b [12]) 95 (190 + 8 * g + 4) = mn from (congrArg ((apt 103 94 18 ν b [12]) 95) (by omega)).trans ((apt_f (by decide) (by omega)).trans hm)]
  refine ok_step (ps := []) (L' := [some (.ref 94), some (.int (nI 0)), some (.int x)]) (st' := [.int (x - mn)]) (σ' := (γ, apt 103 94 18 ν b [12])) (pc' := 53) kX12_tellsOf_52 rfl rfl rf_a0 ?_
  refine ok_reti eX12_tellsOf_53 rfl ?_
  exact ⟨rfl, rfl⟩
theorem mv5_2_5 {x : Int32} {b g : Nat} (hk : ν 95 (190 + 8 * g) = nI 5) (hm : ν 95 (194 + 8 * g) = mn) (hn : ν 94 19 = nI g) (hg : g < 16) (hb : ν 94 18 = nI b) (hl : b + 1 ≤ 40) : rf_At (rf_T Ln xs) MX12_tellsOf 4 0 ([some (.ref 94), some (.int (nI 5)), some (.int x)], [], 108, (γ, ν)) (some (.int (x - mn))) 108 (γ, apt 103 94 18 ν b [12]) := by
  refine rf_pa ?_
  refine ok_step (ps := []) (L' := [some (.ref 94), some (.int (nI 5)), some (.int x)]) (st' := [.int (nI 5)]) (σ' := (γ, ν)) (pc' := 1) kX12_tellsOf_0 rfl rfl rf_a0 ?_
  refine ok_lkd bX12_tellsOf_1 (by decide) ?_
  refine ok_step (ps := []) (L' := [some (.ref 94), some (.int (nI 5)), some (.int x)]) (st' := [.int (nI 5), .ref 94]) (σ' := (γ, ν)) (pc' := 92) kX12_tellsOf_90 rfl rfl rf_a0 ?_
  refine ok_S (As := [.int (nI 5)]) (st := [.ref 94]) mkX12_above qX12_tellsOf_92 rfl rfl rfl rfl rfl (Nat.le_of_ble_eq_true rfl) (m_abv5) ?_
  refine ok_step (ps := []) (L' := [some (.ref 94), some (.int (nI 5)), some (.int x)]) (st' := [.int x, .int (nI 0), .ref 94]) (σ' := (γ, ν)) (pc' := 96) kX12_tellsOf_95 rfl rfl rf_a0 ?_
  refine ok_V (As := [.int (nI 0), .int x]) (b := 94) (st := []) mkX12_tellsOf qX12_tellsOf_96 rfl (rc_94) rfl rfl rfl rfl (Nat.le_of_ble_eq_true rfl) (mv5_2_0 (b := b) hk hm hn hg hb (by omega)) ?_
  refine ok_reti eX12_tellsOf_99 rfl ?_
  exact ⟨rfl, rfl⟩
theorem mv5_3_0 {x : Int32} {b g : Nat} (hk : ν 95 (190 + 8 * g) = nI 5) (hm : ν 95 (194 + 8 * g) = mn) (hn : ν 94 19 = nI g) (hg : g < 16) (hb : ν 94 18 = nI b) (hl : b + 5 ≤ 40) : rf_At (rf_T Ln xs) MX12_paysOf 7 0 ([some (.ref 94), some (.int (nI 0)), some (.int x), none], [], 108, (γ, ν)) (some (.int ((((x + (nI g)) ^^^ mn) * nI 2) ^^^ (x - mn)))) 108 (γ, apt 103 94 18 ν b [13, 11, 60, 10, 12]) := by
  refine rf_pa ?_
  refine ok_step (ps := []) (L' := [some (.ref 94), some (.int (nI 0)), some (.int x), none]) (st' := [.int (nI 0)]) (σ' := (γ, ν)) (pc' := 1) kX12_paysOf_0 rfl rfl rf_a0 ?_
  refine ok_lkk (q := (0, 35)) (t := 36) bX12_paysOf_1 (by decide) (by decide) (by decide) (by decide) ?_
  refine ok_step (ps := []) (L' := [some (.ref 94), some (.int (nI 0)), some (.int x), none]) (st' := [.int (nI 13), .ref 94]) (σ' := (γ, ν)) (pc' := 39) kX12_paysOf_36 rfl rfl rf_a0 ?_
  refine ok_V (As := [.int (nI 13)]) (b := 94) (st := []) mkX12_ran qX12_paysOf_39 rfl (rc_94) rfl rfl rfl rfl (Nat.le_of_ble_eq_true rfl) (m_ran (b := b) hb (by omega)) ?_
  refine ok_step (ps := []) (L' := [some (.ref 94), some (.int (nI 0)), some (.int x), none]) (st' := [.ref 94, .ref 94]) (σ' := (γ, apt 103 94 18 ν b [13])) (pc' := 44) kX12_paysOf_42 rfl rfl rf_a0 ?_
  refine ok_V (As := []) (b := 94) (st := [.ref 94]) mkX12_own qX12_paysOf_44 rfl (rc_94) rfl rfl rfl rfl (Nat.le_of_ble_eq_true rfl) (m_own (K := 5) hg ((apt_f (by decide) (by omega)).trans hk) ((apt_f (by decide) (by omega)).trans hn)) ?_
  refine ok_step (ps := []) (L' := [some (.ref 94), some (.int (nI 0)), some (.int x), none]) (st' := [.int x, .int (nI 5), .ref 94]) (σ' := (γ, apt 103 94 18 ν b [13])) (pc' := 48) kX12_paysOf_47 rfl rfl rf_a0 ?_
  refine ok_V (As := [.int (nI 5), .int x]) (b := 94) (st := []) mkX12_weighsOf qX12_paysOf_48 rfl (rc_94) rfl rfl rfl rfl (Nat.le_of_ble_eq_true rfl) (mv5_1_5 (b := (1 + b)) ((apt_f (by decide) (by omega)).trans hk) ((apt_f (by decide) (by omega)).trans hm) ((apt_f (by decide) (by omega)).trans hn) hg (apt_0 (by decide) hb) (by omega)) ?_
  rw [show apt 103 94 18 (apt 103 94 18 ν b [13]) (1 + b) [11, 60, 10] = apt 103 94 18 ν b [13, 11, 60, 10] from apt_app (by simp)]
  refine ok_step (ps := []) (L' := [some (.ref 94), some (.int (nI 0)), some (.int x), some (.int (((x + (nI g)) ^^^ mn) * nI 2))]) (st' := [.ref 94, .ref 94, .int (((x + (nI g)) ^^^ mn) * nI 2)]) (σ' := (γ, apt 103 94 18 ν b [13, 11, 60, 10])) (pc' := 55) kX12_paysOf_51 rfl rfl rf_a0 ?_
  refine ok_V (As := []) (b := 94) (st := [.ref 94, .int (((x + (nI g)) ^^^ mn) * nI 2)]) mkX12_own qX12_paysOf_55 rfl (rc_94) rfl rfl rfl rfl (Nat.le_of_ble_eq_true rfl) (m_own (K := 5) hg ((apt_f (by decide) (by omega)).trans hk) ((apt_f (by decide) (by omega)).trans hn)) ?_
  refine ok_step (ps := []) (L' := [some (.ref 94), some (.int (nI 0)), some (.int x), some (.int (((x + (nI g)) ^^^ mn) * nI 2))]) (st' := [.int x, .int (nI 5), .ref 94, .int (((x + (nI g)) ^^^ mn) * nI 2)]) (σ' := (γ, apt 103 94 18 ν b [13, 11, 60, 10])) (pc' := 59) kX12_paysOf_58 rfl rfl rf_a0 ?_
  refine ok_V (As := [.int (nI 5), .int x]) (b := 94) (st := [.int (((x + (nI g)) ^^^ mn) * nI 2)]) mkX12_tellsOf qX12_paysOf_59 rfl (rc_94) rfl rfl rfl rfl (Nat.le_of_ble_eq_true rfl) (mv5_2_5 (b := (4 + b)) ((apt_f (by decide) (by omega)).trans hk) ((apt_f (by decide) (by omega)).trans hm) ((apt_f (by decide) (by omega)).trans hn) hg (apt_0 (by decide) hb) (by omega)) ?_
  rw [show apt 103 94 18 (apt 103 94 18 ν b [13, 11, 60, 10]) (4 + b) [12] = apt 103 94 18 ν b [13, 11, 60, 10, 12] from apt_app (by simp)]
  refine ok_step (ps := []) (L' := [some (.ref 94), some (.int (nI 0)), some (.int x), some (.int (((x + (nI g)) ^^^ mn) * nI 2))]) (st' := [.int ((((x + (nI g)) ^^^ mn) * nI 2) ^^^ (x - mn))]) (σ' := (γ, apt 103 94 18 ν b [13, 11, 60, 10, 12])) (pc' := 63) kX12_paysOf_62 rfl rfl rf_a0 ?_
  refine ok_reti eX12_paysOf_63 rfl ?_
  exact ⟨rfl, rfl⟩
theorem mv5_3_5 {x : Int32} {b g : Nat} (hk : ν 95 (190 + 8 * g) = nI 5) (hm : ν 95 (194 + 8 * g) = mn) (hn : ν 94 19 = nI g) (hg : g < 16) (hb : ν 94 18 = nI b) (hl : b + 5 ≤ 40) : rf_At (rf_T Ln xs) MX12_paysOf 8 0 ([some (.ref 94), some (.int (nI 5)), some (.int x), none], [], 108, (γ, ν)) (some (.int ((((x + (nI g)) ^^^ mn) * nI 2) ^^^ (x - mn)))) 108 (γ, apt 103 94 18 ν b [13, 11, 60, 10, 12]) := by
  refine rf_pa ?_
  refine ok_step (ps := []) (L' := [some (.ref 94), some (.int (nI 5)), some (.int x), none]) (st' := [.int (nI 5)]) (σ' := (γ, ν)) (pc' := 1) kX12_paysOf_0 rfl rfl rf_a0 ?_
  refine ok_lkd bX12_paysOf_1 (by decide) ?_
  refine ok_step (ps := []) (L' := [some (.ref 94), some (.int (nI 5)), some (.int x), none]) (st' := [.int (nI 5), .ref 94]) (σ' := (γ, ν)) (pc' := 113) kX12_paysOf_111 rfl rfl rf_a0 ?_
  refine ok_S (As := [.int (nI 5)]) (st := [.ref 94]) mkX12_above qX12_paysOf_113 rfl rfl rfl rfl rfl (Nat.le_of_ble_eq_true rfl) (m_abv5) ?_
  refine ok_step (ps := []) (L' := [some (.ref 94), some (.int (nI 5)), some (.int x), none]) (st' := [.int x, .int (nI 0), .ref 94]) (σ' := (γ, ν)) (pc' := 117) kX12_paysOf_116 rfl rfl rf_a0 ?_
  refine ok_V (As := [.int (nI 0), .int x]) (b := 94) (st := []) mkX12_paysOf qX12_paysOf_117 rfl (rc_94) rfl rfl rfl rfl (Nat.le_of_ble_eq_true rfl) (mv5_3_0 (b := b) hk hm hn hg hb (by omega)) ?_
  refine ok_reti eX12_paysOf_120 rfl ?_
  exact ⟨rfl, rfl⟩
theorem mv6_0_0 {x : Int32} {b g : Nat} (hk : ν 95 (190 + 8 * g) = nI 6) (hm : ν 95 (194 + 8 * g) = mn) (hn : ν 94 19 = nI g) (hg : g < 16) (hb : ν 94 18 = nI b) (hl : b + 1 ≤ 40) : rf_At (rf_T Ln xs) MX12_goes 3 0 ([some (.ref 94), some (.int (nI 0)), some (.int x)], [], 108, (γ, ν)) (some (.int (x + (nI g)))) 108 (γ, apt 103 94 18 ν b [10]) := by
  refine rf_pa ?_
  refine ok_step (ps := []) (L' := [some (.ref 94), some (.int (nI 0)), some (.int x)]) (st' := [.int (nI 0)]) (σ' := (γ, ν)) (pc' := 1) kX12_goes_0 rfl rfl rf_a0 ?_
  refine ok_tk bX12_goes_1 (i := 0) rfl (rfl) ?_
  refine ok_step (ps := []) (L' := [some (.ref 94), some (.int (nI 0)), some (.int x)]) (st' := [.int (nI 10), .ref 94]) (σ' := (γ, ν)) (pc' := 51) kX12_goes_48 rfl rfl rf_a0 ?_
  refine ok_V (As := [.int (nI 10)]) (b := 94) (st := []) mkX12_ran qX12_goes_51 rfl (rc_94) rfl rfl rfl rfl (Nat.le_of_ble_eq_true rfl) (m_ran (b := b) hb (by omega)) ?_
  refine ok_step (ps := []) (L' := [some (.ref 94), some (.int (nI 0)), some (.int x)]) (st' := [.int (x + ((apt 103 94 18 ν b [10]) 94 19))]) (σ' := (γ, apt 103 94 18 ν b [10])) (pc' := 60) kX12_goes_54 rfl rfl rf_a0 ?_
  try rw [(show (apt 103 94 18 ν b [10]) 94 19 = nI g from (apt_f (by decide) (by omega)).trans hn)]
  refine ok_reti eX12_goes_60 rfl ?_
  exact ⟨rfl, rfl⟩
theorem mv6_0_1 {x : Int32} {b g : Nat} (hk : ν 95 (190 + 8 * g) = nI 6) (hm : ν 95 (194 + 8 * g) = mn) (hn : ν 94 19 = nI g) (hg : g < 16) (hb : ν 94 18 = nI b) (hl : b + 1 ≤ 40) : rf_At (rf_T Ln xs) MX12_goes 4 0 ([some (.ref 94), some (.int (nI 1)), some (.int x)], [], 108, (γ, ν)) (some (.int (x + (nI g)))) 108 (γ, apt 103 94 18 ν b [10]) := by
  refine rf_pa ?_
  refine ok_step (ps := []) (L' := [some (.ref 94), some (.int (nI 1)), some (.int x)]) (st' := [.int (nI 1)]) (σ' := (γ, ν)) (pc' := 1) kX12_goes_0 rfl rfl rf_a0 ?_
  refine ok_tk bX12_goes_1 (i := 1) rfl (rfl) ?_
  refine ok_step (ps := []) (L' := [some (.ref 94), some (.int (nI 1)), some (.int x)]) (st' := [.int (nI 1), .ref 94]) (σ' := (γ, ν)) (pc' := 129) kX12_goes_127 rfl rfl rf_a0 ?_
  refine ok_S (As := [.int (nI 1)]) (st := [.ref 94]) mkX12_above qX12_goes_129 rfl rfl rfl rfl rfl (Nat.le_of_ble_eq_true rfl) (m_abv1) ?_
  refine ok_step (ps := []) (L' := [some (.ref 94), some (.int (nI 1)), some (.int x)]) (st' := [.int x, .int (nI 0), .ref 94]) (σ' := (γ, ν)) (pc' := 133) kX12_goes_132 rfl rfl rf_a0 ?_
  refine ok_V (As := [.int (nI 0), .int x]) (b := 94) (st := []) mkX12_goes qX12_goes_133 rfl (rc_94) rfl rfl rfl rfl (Nat.le_of_ble_eq_true rfl) (mv6_0_0 (b := b) hk hm hn hg hb (by omega)) ?_
  refine ok_reti eX12_goes_136 rfl ?_
  exact ⟨rfl, rfl⟩
theorem mv6_0_6 {x : Int32} {b g : Nat} (hk : ν 95 (190 + 8 * g) = nI 6) (hm : ν 95 (194 + 8 * g) = mn) (hn : ν 94 19 = nI g) (hg : g < 16) (hb : ν 94 18 = nI b) (hl : b + 1 ≤ 40) : rf_At (rf_T Ln xs) MX12_goes 5 0 ([some (.ref 94), some (.int (nI 6)), some (.int x)], [], 108, (γ, ν)) (some (.int (x + (nI g)))) 108 (γ, apt 103 94 18 ν b [10]) := by
  refine rf_pa ?_
  refine ok_step (ps := []) (L' := [some (.ref 94), some (.int (nI 6)), some (.int x)]) (st' := [.int (nI 6)]) (σ' := (γ, ν)) (pc' := 1) kX12_goes_0 rfl rfl rf_a0 ?_
  refine ok_tk bX12_goes_1 (i := 6) rfl (rfl) ?_
  refine ok_step (ps := []) (L' := [some (.ref 94), some (.int (nI 6)), some (.int x)]) (st' := [.int (nI 6), .ref 94]) (σ' := (γ, ν)) (pc' := 129) kX12_goes_127 rfl rfl rf_a0 ?_
  refine ok_S (As := [.int (nI 6)]) (st := [.ref 94]) mkX12_above qX12_goes_129 rfl rfl rfl rfl rfl (Nat.le_of_ble_eq_true rfl) (m_abv6) ?_
  refine ok_step (ps := []) (L' := [some (.ref 94), some (.int (nI 6)), some (.int x)]) (st' := [.int x, .int (nI 1), .ref 94]) (σ' := (γ, ν)) (pc' := 133) kX12_goes_132 rfl rfl rf_a0 ?_
  refine ok_V (As := [.int (nI 1), .int x]) (b := 94) (st := []) mkX12_goes qX12_goes_133 rfl (rc_94) rfl rfl rfl rfl (Nat.le_of_ble_eq_true rfl) (mv6_0_1 (b := b) hk hm hn hg hb (by omega)) ?_
  refine ok_reti eX12_goes_136 rfl ?_
  exact ⟨rfl, rfl⟩
theorem mv6_1_0 {x : Int32} {b g : Nat} (hk : ν 95 (190 + 8 * g) = nI 6) (hm : ν 95 (194 + 8 * g) = mn) (hn : ν 94 19 = nI g) (hg : g < 16) (hb : ν 94 18 = nI b) (hl : b + 2 ≤ 40) : rf_At (rf_T Ln xs) MX12_weighsOf 6 0 ([some (.ref 94), some (.int (nI 0)), some (.int x), none], [], 108, (γ, ν)) (some (.int ((x + (nI g)) * nI 2))) 108 (γ, apt 103 94 18 ν b [11, 10]) := by
  refine rf_pa ?_
  refine ok_step (ps := []) (L' := [some (.ref 94), some (.int (nI 0)), some (.int x), none]) (st' := [.int (nI 0)]) (σ' := (γ, ν)) (pc' := 1) kX12_weighsOf_0 rfl rfl rf_a0 ?_
  refine ok_tk bX12_weighsOf_1 (i := 0) rfl (rfl) ?_
  refine ok_step (ps := []) (L' := [some (.ref 94), some (.int (nI 0)), some (.int x), none]) (st' := [.int (nI 11), .ref 94]) (σ' := (γ, ν)) (pc' := 39) kX12_weighsOf_36 rfl rfl rf_a0 ?_
  refine ok_V (As := [.int (nI 11)]) (b := 94) (st := []) mkX12_ran qX12_weighsOf_39 rfl (rc_94) rfl rfl rfl rfl (Nat.le_of_ble_eq_true rfl) (m_ran (b := b) hb (by omega)) ?_
  refine ok_step (ps := []) (L' := [some (.ref 94), some (.int (nI 0)), some (.int x), none]) (st' := [.ref 94, .ref 94]) (σ' := (γ, apt 103 94 18 ν b [11])) (pc' := 44) kX12_weighsOf_42 rfl rfl rf_a0 ?_
  refine ok_V (As := []) (b := 94) (st := [.ref 94]) mkX12_own qX12_weighsOf_44 rfl (rc_94) rfl rfl rfl rfl (Nat.le_of_ble_eq_true rfl) (m_own (K := 6) hg ((apt_f (by decide) (by omega)).trans hk) ((apt_f (by decide) (by omega)).trans hn)) ?_
  refine ok_step (ps := []) (L' := [some (.ref 94), some (.int (nI 0)), some (.int x), none]) (st' := [.int x, .int (nI 6), .ref 94]) (σ' := (γ, apt 103 94 18 ν b [11])) (pc' := 48) kX12_weighsOf_47 rfl rfl rf_a0 ?_
  refine ok_V (As := [.int (nI 6), .int x]) (b := 94) (st := []) mkX12_goes qX12_weighsOf_48 rfl (rc_94) rfl rfl rfl rfl (Nat.le_of_ble_eq_true rfl) (mv6_0_6 (b := (1 + b)) ((apt_f (by decide) (by omega)).trans hk) ((apt_f (by decide) (by omega)).trans hm) ((apt_f (by decide) (by omega)).trans hn) hg (apt_0 (by decide) hb) (by omega)) ?_
  rw [show apt 103 94 18 (apt 103 94 18 ν b [11]) (1 + b) [10] = apt 103 94 18 ν b [11, 10] from apt_app (by simp)]
  refine ok_step (ps := []) (L' := [some (.ref 94), some (.int (nI 0)), some (.int x), none]) (st' := [.int ((x + (nI g)) * (nI 2))]) (σ' := (γ, apt 103 94 18 ν b [11, 10])) (pc' := 53) kX12_weighsOf_51 rfl rfl rf_a0 ?_
  refine ok_reti eX12_weighsOf_53 rfl ?_
  exact ⟨rfl, rfl⟩
theorem mv6_1_1 {x : Int32} {b g : Nat} (hk : ν 95 (190 + 8 * g) = nI 6) (hm : ν 95 (194 + 8 * g) = mn) (hn : ν 94 19 = nI g) (hg : g < 16) (hb : ν 94 18 = nI b) (hl : b + 2 ≤ 40) : rf_At (rf_T Ln xs) MX12_weighsOf 7 0 ([some (.ref 94), some (.int (nI 1)), some (.int x), none], [], 108, (γ, ν)) (some (.int ((x + (nI g)) * nI 2))) 108 (γ, apt 103 94 18 ν b [11, 10]) := by
  refine rf_pa ?_
  refine ok_step (ps := []) (L' := [some (.ref 94), some (.int (nI 1)), some (.int x), none]) (st' := [.int (nI 1)]) (σ' := (γ, ν)) (pc' := 1) kX12_weighsOf_0 rfl rfl rf_a0 ?_
  refine ok_tk bX12_weighsOf_1 (i := 1) rfl (rfl) ?_
  refine ok_step (ps := []) (L' := [some (.ref 94), some (.int (nI 1)), some (.int x), none]) (st' := [.int (nI 1), .ref 94]) (σ' := (γ, ν)) (pc' := 102) kX12_weighsOf_100 rfl rfl rf_a0 ?_
  refine ok_S (As := [.int (nI 1)]) (st := [.ref 94]) mkX12_above qX12_weighsOf_102 rfl rfl rfl rfl rfl (Nat.le_of_ble_eq_true rfl) (m_abv1) ?_
  refine ok_step (ps := []) (L' := [some (.ref 94), some (.int (nI 1)), some (.int x), none]) (st' := [.int x, .int (nI 0), .ref 94]) (σ' := (γ, ν)) (pc' := 106) kX12_weighsOf_105 rfl rfl rf_a0 ?_
  refine ok_V (As := [.int (nI 0), .int x]) (b := 94) (st := []) mkX12_weighsOf qX12_weighsOf_106 rfl (rc_94) rfl rfl rfl rfl (Nat.le_of_ble_eq_true rfl) (mv6_1_0 (b := b) hk hm hn hg hb (by omega)) ?_
  refine ok_reti eX12_weighsOf_109 rfl ?_
  exact ⟨rfl, rfl⟩
theorem mv6_1_6 {x : Int32} {b g : Nat} (hk : ν 95 (190 + 8 * g) = nI 6) (hm : ν 95 (194 + 8 * g) = mn) (hn : ν 94 19 = nI g) (hg : g < 16) (hb : ν 94 18 = nI b) (hl : b + 2 ≤ 40) : rf_At (rf_T Ln xs) MX12_weighsOf 8 0 ([some (.ref 94), some (.int (nI 6)), some (.int x), none], [], 108, (γ, ν)) (some (.int ((x + (nI g)) * nI 2))) 108 (γ, apt 103 94 18 ν b [11, 10]) := by
  refine rf_pa ?_
  refine ok_step (ps := []) (L' := [some (.ref 94), some (.int (nI 6)), some (.int x), none]) (st' := [.int (nI 6)]) (σ' := (γ, ν)) (pc' := 1) kX12_weighsOf_0 rfl rfl rf_a0 ?_
  refine ok_td bX12_weighsOf_1 (by decide) ?_
  refine ok_step (ps := []) (L' := [some (.ref 94), some (.int (nI 6)), some (.int x), none]) (st' := [.int (nI 6), .ref 94]) (σ' := (γ, ν)) (pc' := 102) kX12_weighsOf_100 rfl rfl rf_a0 ?_
  refine ok_S (As := [.int (nI 6)]) (st := [.ref 94]) mkX12_above qX12_weighsOf_102 rfl rfl rfl rfl rfl (Nat.le_of_ble_eq_true rfl) (m_abv6) ?_
  refine ok_step (ps := []) (L' := [some (.ref 94), some (.int (nI 6)), some (.int x), none]) (st' := [.int x, .int (nI 1), .ref 94]) (σ' := (γ, ν)) (pc' := 106) kX12_weighsOf_105 rfl rfl rf_a0 ?_
  refine ok_V (As := [.int (nI 1), .int x]) (b := 94) (st := []) mkX12_weighsOf qX12_weighsOf_106 rfl (rc_94) rfl rfl rfl rfl (Nat.le_of_ble_eq_true rfl) (mv6_1_1 (b := b) hk hm hn hg hb (by omega)) ?_
  refine ok_reti eX12_weighsOf_109 rfl ?_
  exact ⟨rfl, rfl⟩
theorem mv6_2_0 {x : Int32} {b g : Nat} (hk : ν 95 (190 + 8 * g) = nI 6) (hm : ν 95 (194 + 8 * g) = mn) (hn : ν 94 19 = nI g) (hg : g < 16) (hb : ν 94 18 = nI b) (hl : b + 1 ≤ 40) : rf_At (rf_T Ln xs) MX12_tellsOf 3 0 ([some (.ref 94), some (.int (nI 0)), some (.int x)], [], 108, (γ, ν)) (some (.int (x - mn))) 108 (γ, apt 103 94 18 ν b [12]) := by
  refine rf_pa ?_
  refine ok_step (ps := []) (L' := [some (.ref 94), some (.int (nI 0)), some (.int x)]) (st' := [.int (nI 0)]) (σ' := (γ, ν)) (pc' := 1) kX12_tellsOf_0 rfl rfl rf_a0 ?_
  refine ok_lkk (q := (0, 35)) (t := 36) bX12_tellsOf_1 (by decide) (by decide) (by decide) (by decide) ?_
  refine ok_step (ps := []) (L' := [some (.ref 94), some (.int (nI 0)), some (.int x)]) (st' := [.int (nI 12), .ref 94]) (σ' := (γ, ν)) (pc' := 39) kX12_tellsOf_36 rfl rfl rf_a0 ?_
  refine ok_V (As := [.int (nI 12)]) (b := 94) (st := []) mkX12_ran qX12_tellsOf_39 rfl (rc_94) rfl rfl rfl rfl (Nat.le_of_ble_eq_true rfl) (m_ran (b := b) hb (by omega)) ?_
  refine ok_step (ps := []) (L' := [some (.ref 94), some (.int (nI 0)), some (.int x)]) (st' := [.int (nI 4), .int ((apt 103 94 18 ν b [12]) 94 19), .ref 94, .int x]) (σ' := (γ, apt 103 94 18 ν b [12])) (pc' := 49) kX12_tellsOf_42 rfl rfl rf_a0 ?_
  try rw [(show (apt 103 94 18 ν b [12]) 94 19 = nI g from (apt_f (by decide) (by omega)).trans hn)]
  refine ok_V (As := [.int (nI g), .int (nI 4)]) (b := 94) (st := [.int x]) mkX12_gr qX12_tellsOf_49 rfl (rc_94) rfl rfl rfl rfl (Nat.le_of_ble_eq_true rfl) (m_gr hg (by decide)) ?_
  rw [show (apt 103 94 18 ν b [12]) 95 (190 + 8 * g + 4) = mn from (congrArg ((apt 103 94 18 ν b [12]) 95) (by omega)).trans ((apt_f (by decide) (by omega)).trans hm)]
  refine ok_step (ps := []) (L' := [some (.ref 94), some (.int (nI 0)), some (.int x)]) (st' := [.int (x - mn)]) (σ' := (γ, apt 103 94 18 ν b [12])) (pc' := 53) kX12_tellsOf_52 rfl rfl rf_a0 ?_
  refine ok_reti eX12_tellsOf_53 rfl ?_
  exact ⟨rfl, rfl⟩
theorem mv6_2_1 {x : Int32} {b g : Nat} (hk : ν 95 (190 + 8 * g) = nI 6) (hm : ν 95 (194 + 8 * g) = mn) (hn : ν 94 19 = nI g) (hg : g < 16) (hb : ν 94 18 = nI b) (hl : b + 1 ≤ 40) : rf_At (rf_T Ln xs) MX12_tellsOf 4 0 ([some (.ref 94), some (.int (nI 1)), some (.int x)], [], 108, (γ, ν)) (some (.int (x - mn))) 108 (γ, apt 103 94 18 ν b [12]) := by
  refine rf_pa ?_
  refine ok_step (ps := []) (L' := [some (.ref 94), some (.int (nI 1)), some (.int x)]) (st' := [.int (nI 1)]) (σ' := (γ, ν)) (pc' := 1) kX12_tellsOf_0 rfl rfl rf_a0 ?_
  refine ok_lkd bX12_tellsOf_1 (by decide) ?_
  refine ok_step (ps := []) (L' := [some (.ref 94), some (.int (nI 1)), some (.int x)]) (st' := [.int (nI 1), .ref 94]) (σ' := (γ, ν)) (pc' := 92) kX12_tellsOf_90 rfl rfl rf_a0 ?_
  refine ok_S (As := [.int (nI 1)]) (st := [.ref 94]) mkX12_above qX12_tellsOf_92 rfl rfl rfl rfl rfl (Nat.le_of_ble_eq_true rfl) (m_abv1) ?_
  refine ok_step (ps := []) (L' := [some (.ref 94), some (.int (nI 1)), some (.int x)]) (st' := [.int x, .int (nI 0), .ref 94]) (σ' := (γ, ν)) (pc' := 96) kX12_tellsOf_95 rfl rfl rf_a0 ?_
  refine ok_V (As := [.int (nI 0), .int x]) (b := 94) (st := []) mkX12_tellsOf qX12_tellsOf_96 rfl (rc_94) rfl rfl rfl rfl (Nat.le_of_ble_eq_true rfl) (mv6_2_0 (b := b) hk hm hn hg hb (by omega)) ?_
  refine ok_reti eX12_tellsOf_99 rfl ?_
  exact ⟨rfl, rfl⟩
theorem mv6_2_6 {x : Int32} {b g : Nat} (hk : ν 95 (190 + 8 * g) = nI 6) (hm : ν 95 (194 + 8 * g) = mn) (hn : ν 94 19 = nI g) (hg : g < 16) (hb : ν 94 18 = nI b) (hl : b + 1 ≤ 40) : rf_At (rf_T Ln xs) MX12_tellsOf 5 0 ([some (.ref 94), some (.int (nI 6)), some (.int x)], [], 108, (γ, ν)) (some (.int (x - mn))) 108 (γ, apt 103 94 18 ν b [12]) := by
  refine rf_pa ?_
  refine ok_step (ps := []) (L' := [some (.ref 94), some (.int (nI 6)), some (.int x)]) (st' := [.int (nI 6)]) (σ' := (γ, ν)) (pc' := 1) kX12_tellsOf_0 rfl rfl rf_a0 ?_
  refine ok_lkd bX12_tellsOf_1 (by decide) ?_
  refine ok_step (ps := []) (L' := [some (.ref 94), some (.int (nI 6)), some (.int x)]) (st' := [.int (nI 6), .ref 94]) (σ' := (γ, ν)) (pc' := 92) kX12_tellsOf_90 rfl rfl rf_a0 ?_
  refine ok_S (As := [.int (nI 6)]) (st := [.ref 94]) mkX12_above qX12_tellsOf_92 rfl rfl rfl rfl rfl (Nat.le_of_ble_eq_true rfl) (m_abv6) ?_
  refine ok_step (ps := []) (L' := [some (.ref 94), some (.int (nI 6)), some (.int x)]) (st' := [.int x, .int (nI 1), .ref 94]) (σ' := (γ, ν)) (pc' := 96) kX12_tellsOf_95 rfl rfl rf_a0 ?_
  refine ok_V (As := [.int (nI 1), .int x]) (b := 94) (st := []) mkX12_tellsOf qX12_tellsOf_96 rfl (rc_94) rfl rfl rfl rfl (Nat.le_of_ble_eq_true rfl) (mv6_2_1 (b := b) hk hm hn hg hb (by omega)) ?_
  refine ok_reti eX12_tellsOf_99 rfl ?_
  exact ⟨rfl, rfl⟩
theorem mv6_3_0 {x : Int32} {b g : Nat} (hk : ν 95 (190 + 8 * g) = nI 6) (hm : ν 95 (194 + 8 * g) = mn) (hn : ν 94 19 = nI g) (hg : g < 16) (hb : ν 94 18 = nI b) (hl : b + 4 ≤ 40) : rf_At (rf_T Ln xs) MX12_paysOf 9 0 ([some (.ref 94), some (.int (nI 0)), some (.int x), none], [], 108, (γ, ν)) (some (.int (((x + (nI g)) * nI 2) ^^^ (x - mn)))) 108 (γ, apt 103 94 18 ν b [13, 11, 10, 12]) := by
  refine rf_pa ?_
  refine ok_step (ps := []) (L' := [some (.ref 94), some (.int (nI 0)), some (.int x), none]) (st' := [.int (nI 0)]) (σ' := (γ, ν)) (pc' := 1) kX12_paysOf_0 rfl rfl rf_a0 ?_
  refine ok_lkk (q := (0, 35)) (t := 36) bX12_paysOf_1 (by decide) (by decide) (by decide) (by decide) ?_
  refine ok_step (ps := []) (L' := [some (.ref 94), some (.int (nI 0)), some (.int x), none]) (st' := [.int (nI 13), .ref 94]) (σ' := (γ, ν)) (pc' := 39) kX12_paysOf_36 rfl rfl rf_a0 ?_
  refine ok_V (As := [.int (nI 13)]) (b := 94) (st := []) mkX12_ran qX12_paysOf_39 rfl (rc_94) rfl rfl rfl rfl (Nat.le_of_ble_eq_true rfl) (m_ran (b := b) hb (by omega)) ?_
  refine ok_step (ps := []) (L' := [some (.ref 94), some (.int (nI 0)), some (.int x), none]) (st' := [.ref 94, .ref 94]) (σ' := (γ, apt 103 94 18 ν b [13])) (pc' := 44) kX12_paysOf_42 rfl rfl rf_a0 ?_
  refine ok_V (As := []) (b := 94) (st := [.ref 94]) mkX12_own qX12_paysOf_44 rfl (rc_94) rfl rfl rfl rfl (Nat.le_of_ble_eq_true rfl) (m_own (K := 6) hg ((apt_f (by decide) (by omega)).trans hk) ((apt_f (by decide) (by omega)).trans hn)) ?_
  refine ok_step (ps := []) (L' := [some (.ref 94), some (.int (nI 0)), some (.int x), none]) (st' := [.int x, .int (nI 6), .ref 94]) (σ' := (γ, apt 103 94 18 ν b [13])) (pc' := 48) kX12_paysOf_47 rfl rfl rf_a0 ?_
  refine ok_V (As := [.int (nI 6), .int x]) (b := 94) (st := []) mkX12_weighsOf qX12_paysOf_48 rfl (rc_94) rfl rfl rfl rfl (Nat.le_of_ble_eq_true rfl) (mv6_1_6 (b := (1 + b)) ((apt_f (by decide) (by omega)).trans hk) ((apt_f (by decide) (by omega)).trans hm) ((apt_f (by decide) (by omega)).trans hn) hg (apt_0 (by decide) hb) (by omega)) ?_
  rw [show apt 103 94 18 (apt 103 94 18 ν b [13]) (1 + b) [11, 10] = apt 103 94 18 ν b [13, 11, 10] from apt_app (by simp)]
  refine ok_step (ps := []) (L' := [some (.ref 94), some (.int (nI 0)), some (.int x), some (.int ((x + (nI g)) * nI 2))]) (st' := [.ref 94, .ref 94, .int ((x + (nI g)) * nI 2)]) (σ' := (γ, apt 103 94 18 ν b [13, 11, 10])) (pc' := 55) kX12_paysOf_51 rfl rfl rf_a0 ?_
  refine ok_V (As := []) (b := 94) (st := [.ref 94, .int ((x + (nI g)) * nI 2)]) mkX12_own qX12_paysOf_55 rfl (rc_94) rfl rfl rfl rfl (Nat.le_of_ble_eq_true rfl) (m_own (K := 6) hg ((apt_f (by decide) (by omega)).trans hk) ((apt_f (by decide) (by omega)).trans hn)) ?_
  refine ok_step (ps := []) (L' := [some (.ref 94), some (.int (nI 0)), some (.int x), some (.int ((x + (nI g)) * nI 2))]) (st' := [.int x, .int (nI 6), .ref 94, .int ((x + (nI g)) * nI 2)]) (σ' := (γ, apt 103 94 18 ν b [13, 11, 10])) (pc' := 59) kX12_paysOf_58 rfl rfl rf_a0 ?_
  refine ok_V (As := [.int (nI 6), .int x]) (b := 94) (st := [.int ((x + (nI g)) * nI 2)]) mkX12_tellsOf qX12_paysOf_59 rfl (rc_94) rfl rfl rfl rfl (Nat.le_of_ble_eq_true rfl) (mv6_2_6 (b := (3 + b)) ((apt_f (by decide) (by omega)).trans hk) ((apt_f (by decide) (by omega)).trans hm) ((apt_f (by decide) (by omega)).trans hn) hg (apt_0 (by decide) hb) (by omega)) ?_
  rw [show apt 103 94 18 (apt 103 94 18 ν b [13, 11, 10]) (3 + b) [12] = apt 103 94 18 ν b [13, 11, 10, 12] from apt_app (by simp)]
  refine ok_step (ps := []) (L' := [some (.ref 94), some (.int (nI 0)), some (.int x), some (.int ((x + (nI g)) * nI 2))]) (st' := [.int (((x + (nI g)) * nI 2) ^^^ (x - mn))]) (σ' := (γ, apt 103 94 18 ν b [13, 11, 10, 12])) (pc' := 63) kX12_paysOf_62 rfl rfl rf_a0 ?_
  refine ok_reti eX12_paysOf_63 rfl ?_
  exact ⟨rfl, rfl⟩
theorem mv6_3_1 {x : Int32} {b g : Nat} (hk : ν 95 (190 + 8 * g) = nI 6) (hm : ν 95 (194 + 8 * g) = mn) (hn : ν 94 19 = nI g) (hg : g < 16) (hb : ν 94 18 = nI b) (hl : b + 5 ≤ 40) : rf_At (rf_T Ln xs) MX12_paysOf 10 0 ([some (.ref 94), some (.int (nI 1)), some (.int x), none], [], 108, (γ, ν)) (some (.int ((((x + (nI g)) * nI 2) ^^^ (x - mn)) + nI 1))) 108 (γ, apt 103 94 18 ν b [20, 13, 11, 10, 12]) := by
  refine rf_pa ?_
  refine ok_step (ps := []) (L' := [some (.ref 94), some (.int (nI 1)), some (.int x), none]) (st' := [.int (nI 1)]) (σ' := (γ, ν)) (pc' := 1) kX12_paysOf_0 rfl rfl rf_a0 ?_
  refine ok_lkk (q := (1, 63)) (t := 64) bX12_paysOf_1 (by decide) (by decide) (by decide) (by decide) ?_
  refine ok_step (ps := []) (L' := [some (.ref 94), some (.int (nI 1)), some (.int x), none]) (st' := [.int (nI 20), .ref 94]) (σ' := (γ, ν)) (pc' := 67) kX12_paysOf_64 rfl rfl rf_a0 ?_
  refine ok_V (As := [.int (nI 20)]) (b := 94) (st := []) mkX12_ran qX12_paysOf_67 rfl (rc_94) rfl rfl rfl rfl (Nat.le_of_ble_eq_true rfl) (m_ran (b := b) hb (by omega)) ?_
  refine ok_step (ps := []) (L' := [some (.ref 94), some (.int (nI 1)), some (.int x), none]) (st' := [.int (nI 1), .ref 94]) (σ' := (γ, apt 103 94 18 ν b [20])) (pc' := 72) kX12_paysOf_70 rfl rfl rf_a0 ?_
  refine ok_S (As := [.int (nI 1)]) (st := [.ref 94]) mkX12_above qX12_paysOf_72 rfl rfl rfl rfl rfl (Nat.le_of_ble_eq_true rfl) (m_abv1) ?_
  refine ok_step (ps := []) (L' := [some (.ref 94), some (.int (nI 1)), some (.int x), none]) (st' := [.int x, .int (nI 0), .ref 94]) (σ' := (γ, apt 103 94 18 ν b [20])) (pc' := 76) kX12_paysOf_75 rfl rfl rf_a0 ?_
  refine ok_V (As := [.int (nI 0), .int x]) (b := 94) (st := []) mkX12_paysOf qX12_paysOf_76 rfl (rc_94) rfl rfl rfl rfl (Nat.le_of_ble_eq_true rfl) (mv6_3_0 (b := (1 + b)) ((apt_f (by decide) (by omega)).trans hk) ((apt_f (by decide) (by omega)).trans hm) ((apt_f (by decide) (by omega)).trans hn) hg (apt_0 (by decide) hb) (by omega)) ?_
  rw [show apt 103 94 18 (apt 103 94 18 ν b [20]) (1 + b) [13, 11, 10, 12] = apt 103 94 18 ν b [20, 13, 11, 10, 12] from apt_app (by simp)]
  refine ok_step (ps := []) (L' := [some (.ref 94), some (.int (nI 1)), some (.int x), none]) (st' := [.int ((((x + (nI g)) * nI 2) ^^^ (x - mn)) + (nI 1))]) (σ' := (γ, apt 103 94 18 ν b [20, 13, 11, 10, 12])) (pc' := 81) kX12_paysOf_79 rfl rfl rf_a0 ?_
  refine ok_reti eX12_paysOf_81 rfl ?_
  exact ⟨rfl, rfl⟩
theorem mv6_3_6 {x : Int32} {b g : Nat} (hk : ν 95 (190 + 8 * g) = nI 6) (hm : ν 95 (194 + 8 * g) = mn) (hn : ν 94 19 = nI g) (hg : g < 16) (hb : ν 94 18 = nI b) (hl : b + 7 ≤ 40) : rf_At (rf_T Ln xs) MX12_paysOf 11 0 ([some (.ref 94), some (.int (nI 6)), some (.int x), none], [], 108, (γ, ν)) (some (.int (((nI 2) + (nI g)) - ((((x + (nI g)) * nI 2) ^^^ (x - mn)) + nI 1)))) 108 (γ, apt 103 94 18 ν b [70, 10, 20, 13, 11, 10, 12]) := by
  refine rf_pa ?_
  refine ok_step (ps := []) (L' := [some (.ref 94), some (.int (nI 6)), some (.int x), none]) (st' := [.int (nI 6)]) (σ' := (γ, ν)) (pc' := 1) kX12_paysOf_0 rfl rfl rf_a0 ?_
  refine ok_lkk (q := (6, 81)) (t := 82) bX12_paysOf_1 (by decide) (by decide) (by decide) (by decide) ?_
  refine ok_step (ps := []) (L' := [some (.ref 94), some (.int (nI 6)), some (.int x), none]) (st' := [.int (nI 70), .ref 94]) (σ' := (γ, ν)) (pc' := 85) kX12_paysOf_82 rfl rfl rf_a0 ?_
  refine ok_V (As := [.int (nI 70)]) (b := 94) (st := []) mkX12_ran qX12_paysOf_85 rfl (rc_94) rfl rfl rfl rfl (Nat.le_of_ble_eq_true rfl) (m_ran (b := b) hb (by omega)) ?_
  refine ok_step (ps := []) (L' := [some (.ref 94), some (.int (nI 6)), some (.int x), none]) (st' := [.ref 94, .ref 94]) (σ' := (γ, apt 103 94 18 ν b [70])) (pc' := 90) kX12_paysOf_88 rfl rfl rf_a0 ?_
  refine ok_V (As := []) (b := 94) (st := [.ref 94]) mkX12_own qX12_paysOf_90 rfl (rc_94) rfl rfl rfl rfl (Nat.le_of_ble_eq_true rfl) (m_own (K := 6) hg ((apt_f (by decide) (by omega)).trans hk) ((apt_f (by decide) (by omega)).trans hn)) ?_
  refine ok_step (ps := []) (L' := [some (.ref 94), some (.int (nI 6)), some (.int x), none]) (st' := [.int (nI 2), .int (nI 6), .ref 94]) (σ' := (γ, apt 103 94 18 ν b [70])) (pc' := 94) kX12_paysOf_93 rfl rfl rf_a0 ?_
  refine ok_V (As := [.int (nI 6), .int (nI 2)]) (b := 94) (st := []) mkX12_goes qX12_paysOf_94 rfl (rc_94) rfl rfl rfl rfl (Nat.le_of_ble_eq_true rfl) (mv6_0_6 (b := (1 + b)) ((apt_f (by decide) (by omega)).trans hk) ((apt_f (by decide) (by omega)).trans hm) ((apt_f (by decide) (by omega)).trans hn) hg (apt_0 (by decide) hb) (by omega)) ?_
  rw [show apt 103 94 18 (apt 103 94 18 ν b [70]) (1 + b) [10] = apt 103 94 18 ν b [70, 10] from apt_app (by simp)]
  refine ok_step (ps := []) (L' := [some (.ref 94), some (.int (nI 6)), some (.int x), some (.int ((nI 2) + (nI g)))]) (st' := [.int (nI 6), .ref 94, .int ((nI 2) + (nI g))]) (σ' := (γ, apt 103 94 18 ν b [70, 10])) (pc' := 102) kX12_paysOf_97 rfl rfl rf_a0 ?_
  refine ok_S (As := [.int (nI 6)]) (st := [.ref 94, .int ((nI 2) + (nI g))]) mkX12_above qX12_paysOf_102 rfl rfl rfl rfl rfl (Nat.le_of_ble_eq_true rfl) (m_abv6) ?_
  refine ok_step (ps := []) (L' := [some (.ref 94), some (.int (nI 6)), some (.int x), some (.int ((nI 2) + (nI g)))]) (st' := [.int x, .int (nI 1), .ref 94, .int ((nI 2) + (nI g))]) (σ' := (γ, apt 103 94 18 ν b [70, 10])) (pc' := 106) kX12_paysOf_105 rfl rfl rf_a0 ?_
  refine ok_V (As := [.int (nI 1), .int x]) (b := 94) (st := [.int ((nI 2) + (nI g))]) mkX12_paysOf qX12_paysOf_106 rfl (rc_94) rfl rfl rfl rfl (Nat.le_of_ble_eq_true rfl) (mv6_3_1 (b := (2 + b)) ((apt_f (by decide) (by omega)).trans hk) ((apt_f (by decide) (by omega)).trans hm) ((apt_f (by decide) (by omega)).trans hn) hg (apt_0 (by decide) hb) (by omega)) ?_
  rw [show apt 103 94 18 (apt 103 94 18 ν b [70, 10]) (2 + b) [20, 13, 11, 10, 12] = apt 103 94 18 ν b [70, 10, 20, 13, 11, 10, 12] from apt_app (by simp)]
  refine ok_step (ps := []) (L' := [some (.ref 94), some (.int (nI 6)), some (.int x), some (.int ((nI 2) + (nI g)))]) (st' := [.int (((nI 2) + (nI g)) - ((((x + (nI g)) * nI 2) ^^^ (x - mn)) + nI 1))]) (σ' := (γ, apt 103 94 18 ν b [70, 10, 20, 13, 11, 10, 12])) (pc' := 110) kX12_paysOf_109 rfl rfl rf_a0 ?_
  refine ok_reti eX12_paysOf_110 rfl ?_
  exact ⟨rfl, rfl⟩
theorem mv7_0_0 {x : Int32} {b g : Nat} (hk : ν 95 (190 + 8 * g) = nI 7) (hm : ν 95 (194 + 8 * g) = mn) (hn : ν 94 19 = nI g) (hg : g < 16) (hb : ν 94 18 = nI b) (hl : b + 1 ≤ 40) : rf_At (rf_T Ln xs) MX12_goes 3 0 ([some (.ref 94), some (.int (nI 0)), some (.int x)], [], 108, (γ, ν)) (some (.int (x + (nI g)))) 108 (γ, apt 103 94 18 ν b [10]) := by
  refine rf_pa ?_
  refine ok_step (ps := []) (L' := [some (.ref 94), some (.int (nI 0)), some (.int x)]) (st' := [.int (nI 0)]) (σ' := (γ, ν)) (pc' := 1) kX12_goes_0 rfl rfl rf_a0 ?_
  refine ok_tk bX12_goes_1 (i := 0) rfl (rfl) ?_
  refine ok_step (ps := []) (L' := [some (.ref 94), some (.int (nI 0)), some (.int x)]) (st' := [.int (nI 10), .ref 94]) (σ' := (γ, ν)) (pc' := 51) kX12_goes_48 rfl rfl rf_a0 ?_
  refine ok_V (As := [.int (nI 10)]) (b := 94) (st := []) mkX12_ran qX12_goes_51 rfl (rc_94) rfl rfl rfl rfl (Nat.le_of_ble_eq_true rfl) (m_ran (b := b) hb (by omega)) ?_
  refine ok_step (ps := []) (L' := [some (.ref 94), some (.int (nI 0)), some (.int x)]) (st' := [.int (x + ((apt 103 94 18 ν b [10]) 94 19))]) (σ' := (γ, apt 103 94 18 ν b [10])) (pc' := 60) kX12_goes_54 rfl rfl rf_a0 ?_
  try rw [(show (apt 103 94 18 ν b [10]) 94 19 = nI g from (apt_f (by decide) (by omega)).trans hn)]
  refine ok_reti eX12_goes_60 rfl ?_
  exact ⟨rfl, rfl⟩
theorem mv7_0_5 {x : Int32} {b g : Nat} (hk : ν 95 (190 + 8 * g) = nI 7) (hm : ν 95 (194 + 8 * g) = mn) (hn : ν 94 19 = nI g) (hg : g < 16) (hb : ν 94 18 = nI b) (hl : b + 2 ≤ 40) : rf_At (rf_T Ln xs) MX12_goes 4 0 ([some (.ref 94), some (.int (nI 5)), some (.int x)], [], 108, (γ, ν)) (some (.int ((x + (nI g)) ^^^ mn))) 108 (γ, apt 103 94 18 ν b [60, 10]) := by
  refine rf_pa ?_
  refine ok_step (ps := []) (L' := [some (.ref 94), some (.int (nI 5)), some (.int x)]) (st' := [.int (nI 5)]) (σ' := (γ, ν)) (pc' := 1) kX12_goes_0 rfl rfl rf_a0 ?_
  refine ok_tk bX12_goes_1 (i := 5) rfl (rfl) ?_
  refine ok_step (ps := []) (L' := [some (.ref 94), some (.int (nI 5)), some (.int x)]) (st' := [.int (nI 60), .ref 94]) (σ' := (γ, ν)) (pc' := 82) kX12_goes_79 rfl rfl rf_a0 ?_
  refine ok_V (As := [.int (nI 60)]) (b := 94) (st := []) mkX12_ran qX12_goes_82 rfl (rc_94) rfl rfl rfl rfl (Nat.le_of_ble_eq_true rfl) (m_ran (b := b) hb (by omega)) ?_
  refine ok_step (ps := []) (L' := [some (.ref 94), some (.int (nI 5)), some (.int x)]) (st' := [.int (nI 5), .ref 94]) (σ' := (γ, apt 103 94 18 ν b [60])) (pc' := 87) kX12_goes_85 rfl rfl rf_a0 ?_
  refine ok_S (As := [.int (nI 5)]) (st := [.ref 94]) mkX12_above qX12_goes_87 rfl rfl rfl rfl rfl (Nat.le_of_ble_eq_true rfl) (m_abv5) ?_
  refine ok_step (ps := []) (L' := [some (.ref 94), some (.int (nI 5)), some (.int x)]) (st' := [.int x, .int (nI 0), .ref 94]) (σ' := (γ, apt 103 94 18 ν b [60])) (pc' := 91) kX12_goes_90 rfl rfl rf_a0 ?_
  refine ok_V (As := [.int (nI 0), .int x]) (b := 94) (st := []) mkX12_goes qX12_goes_91 rfl (rc_94) rfl rfl rfl rfl (Nat.le_of_ble_eq_true rfl) (mv7_0_0 (b := (1 + b)) ((apt_f (by decide) (by omega)).trans hk) ((apt_f (by decide) (by omega)).trans hm) ((apt_f (by decide) (by omega)).trans hn) hg (apt_0 (by decide) hb) (by omega)) ?_
  rw [show apt 103 94 18 (apt 103 94 18 ν b [60]) (1 + b) [10] = apt 103 94 18 ν b [60, 10] from apt_app (by simp)]
  refine ok_step (ps := []) (L' := [some (.ref 94), some (.int (nI 5)), some (.int x)]) (st' := [.int (nI 4), .int ((apt 103 94 18 ν b [60, 10]) 94 19), .ref 94, .int (x + (nI g))]) (σ' := (γ, apt 103 94 18 ν b [60, 10])) (pc' := 100) kX12_goes_94 rfl rfl rf_a0 ?_
  try rw [(show (apt 103 94 18 ν b [60, 10]) 94 19 = nI g from (apt_f (by decide) (by omega)).trans hn)]
  refine ok_V (As := [.int (nI g), .int (nI 4)]) (b := 94) (st := [.int (x + (nI g))]) mkX12_gr qX12_goes_100 rfl (rc_94) rfl rfl rfl rfl (Nat.le_of_ble_eq_true rfl) (m_gr hg (by decide)) ?_
  rw [show (apt 103 94 18 ν b [60, 10]) 95 (190 + 8 * g + 4) = mn from (congrArg ((apt 103 94 18 ν b [60, 10]) 95) (by omega)).trans ((apt_f (by decide) (by omega)).trans hm)]
  refine ok_step (ps := []) (L' := [some (.ref 94), some (.int (nI 5)), some (.int x)]) (st' := [.int ((x + (nI g)) ^^^ mn)]) (σ' := (γ, apt 103 94 18 ν b [60, 10])) (pc' := 104) kX12_goes_103 rfl rfl rf_a0 ?_
  refine ok_reti eX12_goes_104 rfl ?_
  exact ⟨rfl, rfl⟩
theorem mv7_0_7 {x : Int32} {b g : Nat} (hk : ν 95 (190 + 8 * g) = nI 7) (hm : ν 95 (194 + 8 * g) = mn) (hn : ν 94 19 = nI g) (hg : g < 16) (hb : ν 94 18 = nI b) (hl : b + 3 ≤ 40) : rf_At (rf_T Ln xs) MX12_goes 5 0 ([some (.ref 94), some (.int (nI 7)), some (.int x)], [], 108, (γ, ν)) (some (.int (((x + (nI g)) ^^^ mn) + (nI g)))) 108 (γ, apt 103 94 18 ν b [80, 60, 10]) := by
  refine rf_pa ?_
  refine ok_step (ps := []) (L' := [some (.ref 94), some (.int (nI 7)), some (.int x)]) (st' := [.int (nI 7)]) (σ' := (γ, ν)) (pc' := 1) kX12_goes_0 rfl rfl rf_a0 ?_
  refine ok_tk bX12_goes_1 (i := 7) rfl (rfl) ?_
  refine ok_step (ps := []) (L' := [some (.ref 94), some (.int (nI 7)), some (.int x)]) (st' := [.int (nI 80), .ref 94]) (σ' := (γ, ν)) (pc' := 108) kX12_goes_105 rfl rfl rf_a0 ?_
  refine ok_V (As := [.int (nI 80)]) (b := 94) (st := []) mkX12_ran qX12_goes_108 rfl (rc_94) rfl rfl rfl rfl (Nat.le_of_ble_eq_true rfl) (m_ran (b := b) hb (by omega)) ?_
  refine ok_step (ps := []) (L' := [some (.ref 94), some (.int (nI 7)), some (.int x)]) (st' := [.int (nI 7), .ref 94]) (σ' := (γ, apt 103 94 18 ν b [80])) (pc' := 114) kX12_goes_111 rfl rfl rf_a0 ?_
  refine ok_S (As := [.int (nI 7)]) (st := [.ref 94]) mkX12_above qX12_goes_114 rfl rfl rfl rfl rfl (Nat.le_of_ble_eq_true rfl) (m_abv7) ?_
  refine ok_step (ps := []) (L' := [some (.ref 94), some (.int (nI 7)), some (.int x)]) (st' := [.int x, .int (nI 5), .ref 94]) (σ' := (γ, apt 103 94 18 ν b [80])) (pc' := 118) kX12_goes_117 rfl rfl rf_a0 ?_
  refine ok_V (As := [.int (nI 5), .int x]) (b := 94) (st := []) mkX12_goes qX12_goes_118 rfl (rc_94) rfl rfl rfl rfl (Nat.le_of_ble_eq_true rfl) (mv7_0_5 (b := (1 + b)) ((apt_f (by decide) (by omega)).trans hk) ((apt_f (by decide) (by omega)).trans hm) ((apt_f (by decide) (by omega)).trans hn) hg (apt_0 (by decide) hb) (by omega)) ?_
  rw [show apt 103 94 18 (apt 103 94 18 ν b [80]) (1 + b) [60, 10] = apt 103 94 18 ν b [80, 60, 10] from apt_app (by simp)]
  refine ok_step (ps := []) (L' := [some (.ref 94), some (.int (nI 7)), some (.int x)]) (st' := [.int (((x + (nI g)) ^^^ mn) + ((apt 103 94 18 ν b [80, 60, 10]) 94 19))]) (σ' := (γ, apt 103 94 18 ν b [80, 60, 10])) (pc' := 126) kX12_goes_121 rfl rfl rf_a0 ?_
  try rw [(show (apt 103 94 18 ν b [80, 60, 10]) 94 19 = nI g from (apt_f (by decide) (by omega)).trans hn)]
  refine ok_reti eX12_goes_126 rfl ?_
  exact ⟨rfl, rfl⟩
theorem mv7_1_0 {x : Int32} {b g : Nat} (hk : ν 95 (190 + 8 * g) = nI 7) (hm : ν 95 (194 + 8 * g) = mn) (hn : ν 94 19 = nI g) (hg : g < 16) (hb : ν 94 18 = nI b) (hl : b + 4 ≤ 40) : rf_At (rf_T Ln xs) MX12_weighsOf 6 0 ([some (.ref 94), some (.int (nI 0)), some (.int x), none], [], 108, (γ, ν)) (some (.int ((((x + (nI g)) ^^^ mn) + (nI g)) * nI 2))) 108 (γ, apt 103 94 18 ν b [11, 80, 60, 10]) := by
  refine rf_pa ?_
  refine ok_step (ps := []) (L' := [some (.ref 94), some (.int (nI 0)), some (.int x), none]) (st' := [.int (nI 0)]) (σ' := (γ, ν)) (pc' := 1) kX12_weighsOf_0 rfl rfl rf_a0 ?_
  refine ok_tk bX12_weighsOf_1 (i := 0) rfl (rfl) ?_
  refine ok_step (ps := []) (L' := [some (.ref 94), some (.int (nI 0)), some (.int x), none]) (st' := [.int (nI 11), .ref 94]) (σ' := (γ, ν)) (pc' := 39) kX12_weighsOf_36 rfl rfl rf_a0 ?_
  refine ok_V (As := [.int (nI 11)]) (b := 94) (st := []) mkX12_ran qX12_weighsOf_39 rfl (rc_94) rfl rfl rfl rfl (Nat.le_of_ble_eq_true rfl) (m_ran (b := b) hb (by omega)) ?_
  refine ok_step (ps := []) (L' := [some (.ref 94), some (.int (nI 0)), some (.int x), none]) (st' := [.ref 94, .ref 94]) (σ' := (γ, apt 103 94 18 ν b [11])) (pc' := 44) kX12_weighsOf_42 rfl rfl rf_a0 ?_
  refine ok_V (As := []) (b := 94) (st := [.ref 94]) mkX12_own qX12_weighsOf_44 rfl (rc_94) rfl rfl rfl rfl (Nat.le_of_ble_eq_true rfl) (m_own (K := 7) hg ((apt_f (by decide) (by omega)).trans hk) ((apt_f (by decide) (by omega)).trans hn)) ?_
  refine ok_step (ps := []) (L' := [some (.ref 94), some (.int (nI 0)), some (.int x), none]) (st' := [.int x, .int (nI 7), .ref 94]) (σ' := (γ, apt 103 94 18 ν b [11])) (pc' := 48) kX12_weighsOf_47 rfl rfl rf_a0 ?_
  refine ok_V (As := [.int (nI 7), .int x]) (b := 94) (st := []) mkX12_goes qX12_weighsOf_48 rfl (rc_94) rfl rfl rfl rfl (Nat.le_of_ble_eq_true rfl) (mv7_0_7 (b := (1 + b)) ((apt_f (by decide) (by omega)).trans hk) ((apt_f (by decide) (by omega)).trans hm) ((apt_f (by decide) (by omega)).trans hn) hg (apt_0 (by decide) hb) (by omega)) ?_
  rw [show apt 103 94 18 (apt 103 94 18 ν b [11]) (1 + b) [80, 60, 10] = apt 103 94 18 ν b [11, 80, 60, 10] from apt_app (by simp)]
  refine ok_step (ps := []) (L' := [some (.ref 94), some (.int (nI 0)), some (.int x), none]) (st' := [.int ((((x + (nI g)) ^^^ mn) + (nI g)) * (nI 2))]) (σ' := (γ, apt 103 94 18 ν b [11, 80, 60, 10])) (pc' := 53) kX12_weighsOf_51 rfl rfl rf_a0 ?_
  refine ok_reti eX12_weighsOf_53 rfl ?_
  exact ⟨rfl, rfl⟩
theorem mv7_1_5 {x : Int32} {b g : Nat} (hk : ν 95 (190 + 8 * g) = nI 7) (hm : ν 95 (194 + 8 * g) = mn) (hn : ν 94 19 = nI g) (hg : g < 16) (hb : ν 94 18 = nI b) (hl : b + 4 ≤ 40) : rf_At (rf_T Ln xs) MX12_weighsOf 7 0 ([some (.ref 94), some (.int (nI 5)), some (.int x), none], [], 108, (γ, ν)) (some (.int ((((x + (nI g)) ^^^ mn) + (nI g)) * nI 2))) 108 (γ, apt 103 94 18 ν b [11, 80, 60, 10]) := by
  refine rf_pa ?_
  refine ok_step (ps := []) (L' := [some (.ref 94), some (.int (nI 5)), some (.int x), none]) (st' := [.int (nI 5)]) (σ' := (γ, ν)) (pc' := 1) kX12_weighsOf_0 rfl rfl rf_a0 ?_
  refine ok_td bX12_weighsOf_1 (by decide) ?_
  refine ok_step (ps := []) (L' := [some (.ref 94), some (.int (nI 5)), some (.int x), none]) (st' := [.int (nI 5), .ref 94]) (σ' := (γ, ν)) (pc' := 102) kX12_weighsOf_100 rfl rfl rf_a0 ?_
  refine ok_S (As := [.int (nI 5)]) (st := [.ref 94]) mkX12_above qX12_weighsOf_102 rfl rfl rfl rfl rfl (Nat.le_of_ble_eq_true rfl) (m_abv5) ?_
  refine ok_step (ps := []) (L' := [some (.ref 94), some (.int (nI 5)), some (.int x), none]) (st' := [.int x, .int (nI 0), .ref 94]) (σ' := (γ, ν)) (pc' := 106) kX12_weighsOf_105 rfl rfl rf_a0 ?_
  refine ok_V (As := [.int (nI 0), .int x]) (b := 94) (st := []) mkX12_weighsOf qX12_weighsOf_106 rfl (rc_94) rfl rfl rfl rfl (Nat.le_of_ble_eq_true rfl) (mv7_1_0 (b := b) hk hm hn hg hb (by omega)) ?_
  refine ok_reti eX12_weighsOf_109 rfl ?_
  exact ⟨rfl, rfl⟩
theorem mv7_1_7 {x : Int32} {b g : Nat} (hk : ν 95 (190 + 8 * g) = nI 7) (hm : ν 95 (194 + 8 * g) = mn) (hn : ν 94 19 = nI g) (hg : g < 16) (hb : ν 94 18 = nI b) (hl : b + 4 ≤ 40) : rf_At (rf_T Ln xs) MX12_weighsOf 8 0 ([some (.ref 94), some (.int (nI 7)), some (.int x), none], [], 108, (γ, ν)) (some (.int ((((x + (nI g)) ^^^ mn) + (nI g)) * nI 2))) 108 (γ, apt 103 94 18 ν b [11, 80, 60, 10]) := by
  refine rf_pa ?_
  refine ok_step (ps := []) (L' := [some (.ref 94), some (.int (nI 7)), some (.int x), none]) (st' := [.int (nI 7)]) (σ' := (γ, ν)) (pc' := 1) kX12_weighsOf_0 rfl rfl rf_a0 ?_
  refine ok_td bX12_weighsOf_1 (by decide) ?_
  refine ok_step (ps := []) (L' := [some (.ref 94), some (.int (nI 7)), some (.int x), none]) (st' := [.int (nI 7), .ref 94]) (σ' := (γ, ν)) (pc' := 102) kX12_weighsOf_100 rfl rfl rf_a0 ?_
  refine ok_S (As := [.int (nI 7)]) (st := [.ref 94]) mkX12_above qX12_weighsOf_102 rfl rfl rfl rfl rfl (Nat.le_of_ble_eq_true rfl) (m_abv7) ?_
  refine ok_step (ps := []) (L' := [some (.ref 94), some (.int (nI 7)), some (.int x), none]) (st' := [.int x, .int (nI 5), .ref 94]) (σ' := (γ, ν)) (pc' := 106) kX12_weighsOf_105 rfl rfl rf_a0 ?_
  refine ok_V (As := [.int (nI 5), .int x]) (b := 94) (st := []) mkX12_weighsOf qX12_weighsOf_106 rfl (rc_94) rfl rfl rfl rfl (Nat.le_of_ble_eq_true rfl) (mv7_1_5 (b := b) hk hm hn hg hb (by omega)) ?_
  refine ok_reti eX12_weighsOf_109 rfl ?_
  exact ⟨rfl, rfl⟩
theorem mv7_2_0 {x : Int32} {b g : Nat} (hk : ν 95 (190 + 8 * g) = nI 7) (hm : ν 95 (194 + 8 * g) = mn) (hn : ν 94 19 = nI g) (hg : g < 16) (hb : ν 94 18 = nI b) (hl : b + 1 ≤ 40) : rf_At (rf_T Ln xs) MX12_tellsOf 3 0 ([some (.ref 94), some (.int (nI 0)), some (.int x)], [], 108, (γ, ν)) (some (.int (x - mn))) 108 (γ, apt 103 94 18 ν b [12]) := by
  refine rf_pa ?_
  refine ok_step (ps := []) (L' := [some (.ref 94), some (.int (nI 0)), some (.int x)]) (st' := [.int (nI 0)]) (σ' := (γ, ν)) (pc' := 1) kX12_tellsOf_0 rfl rfl rf_a0 ?_
  refine ok_lkk (q := (0, 35)) (t := 36) bX12_tellsOf_1 (by decide) (by decide) (by decide) (by decide) ?_
  refine ok_step (ps := []) (L' := [some (.ref 94), some (.int (nI 0)), some (.int x)]) (st' := [.int (nI 12), .ref 94]) (σ' := (γ, ν)) (pc' := 39) kX12_tellsOf_36 rfl rfl rf_a0 ?_
  refine ok_V (As := [.int (nI 12)]) (b := 94) (st := []) mkX12_ran qX12_tellsOf_39 rfl (rc_94) rfl rfl rfl rfl (Nat.le_of_ble_eq_true rfl) (m_ran (b := b) hb (by omega)) ?_
  refine ok_step (ps := []) (L' := [some (.ref 94), some (.int (nI 0)), some (.int x)]) (st' := [.int (nI 4), .int ((apt 103 94 18 ν b [12]) 94 19), .ref 94, .int x]) (σ' := (γ, apt 103 94 18 ν b [12])) (pc' := 49) kX12_tellsOf_42 rfl rfl rf_a0 ?_
  try rw [(show (apt 103 94 18 ν b [12]) 94 19 = nI g from (apt_f (by decide) (by omega)).trans hn)]
  refine ok_V (As := [.int (nI g), .int (nI 4)]) (b := 94) (st := [.int x]) mkX12_gr qX12_tellsOf_49 rfl (rc_94) rfl rfl rfl rfl (Nat.le_of_ble_eq_true rfl) (m_gr hg (by decide)) ?_
  rw [show (apt 103 94 18 ν b [12]) 95 (190 + 8 * g + 4) = mn from (congrArg ((apt 103 94 18 ν b [12]) 95) (by omega)).trans ((apt_f (by decide) (by omega)).trans hm)]
  refine ok_step (ps := []) (L' := [some (.ref 94), some (.int (nI 0)), some (.int x)]) (st' := [.int (x - mn)]) (σ' := (γ, apt 103 94 18 ν b [12])) (pc' := 53) kX12_tellsOf_52 rfl rfl rf_a0 ?_
  refine ok_reti eX12_tellsOf_53 rfl ?_
  exact ⟨rfl, rfl⟩
theorem mv7_2_5 {x : Int32} {b g : Nat} (hk : ν 95 (190 + 8 * g) = nI 7) (hm : ν 95 (194 + 8 * g) = mn) (hn : ν 94 19 = nI g) (hg : g < 16) (hb : ν 94 18 = nI b) (hl : b + 1 ≤ 40) : rf_At (rf_T Ln xs) MX12_tellsOf 4 0 ([some (.ref 94), some (.int (nI 5)), some (.int x)], [], 108, (γ, ν)) (some (.int (x - mn))) 108 (γ, apt 103 94 18 ν b [12]) := by
  refine rf_pa ?_
  refine ok_step (ps := []) (L' := [some (.ref 94), some (.int (nI 5)), some (.int x)]) (st' := [.int (nI 5)]) (σ' := (γ, ν)) (pc' := 1) kX12_tellsOf_0 rfl rfl rf_a0 ?_
  refine ok_lkd bX12_tellsOf_1 (by decide) ?_
  refine ok_step (ps := []) (L' := [some (.ref 94), some (.int (nI 5)), some (.int x)]) (st' := [.int (nI 5), .ref 94]) (σ' := (γ, ν)) (pc' := 92) kX12_tellsOf_90 rfl rfl rf_a0 ?_
  refine ok_S (As := [.int (nI 5)]) (st := [.ref 94]) mkX12_above qX12_tellsOf_92 rfl rfl rfl rfl rfl (Nat.le_of_ble_eq_true rfl) (m_abv5) ?_
  refine ok_step (ps := []) (L' := [some (.ref 94), some (.int (nI 5)), some (.int x)]) (st' := [.int x, .int (nI 0), .ref 94]) (σ' := (γ, ν)) (pc' := 96) kX12_tellsOf_95 rfl rfl rf_a0 ?_
  refine ok_V (As := [.int (nI 0), .int x]) (b := 94) (st := []) mkX12_tellsOf qX12_tellsOf_96 rfl (rc_94) rfl rfl rfl rfl (Nat.le_of_ble_eq_true rfl) (mv7_2_0 (b := b) hk hm hn hg hb (by omega)) ?_
  refine ok_reti eX12_tellsOf_99 rfl ?_
  exact ⟨rfl, rfl⟩
theorem mv7_2_7 {x : Int32} {b g : Nat} (hk : ν 95 (190 + 8 * g) = nI 7) (hm : ν 95 (194 + 8 * g) = mn) (hn : ν 94 19 = nI g) (hg : g < 16) (hb : ν 94 18 = nI b) (hl : b + 2 ≤ 40) : rf_At (rf_T Ln xs) MX12_tellsOf 5 0 ([some (.ref 94), some (.int (nI 7)), some (.int x)], [], 108, (γ, ν)) (some (.int ((x - mn) * nI 5))) 108 (γ, apt 103 94 18 ν b [81, 12]) := by
  refine rf_pa ?_
  refine ok_step (ps := []) (L' := [some (.ref 94), some (.int (nI 7)), some (.int x)]) (st' := [.int (nI 7)]) (σ' := (γ, ν)) (pc' := 1) kX12_tellsOf_0 rfl rfl rf_a0 ?_
  refine ok_lkk (q := (7, 70)) (t := 71) bX12_tellsOf_1 (by decide) (by decide) (by decide) (by decide) ?_
  refine ok_step (ps := []) (L' := [some (.ref 94), some (.int (nI 7)), some (.int x)]) (st' := [.int (nI 81), .ref 94]) (σ' := (γ, ν)) (pc' := 74) kX12_tellsOf_71 rfl rfl rf_a0 ?_
  refine ok_V (As := [.int (nI 81)]) (b := 94) (st := []) mkX12_ran qX12_tellsOf_74 rfl (rc_94) rfl rfl rfl rfl (Nat.le_of_ble_eq_true rfl) (m_ran (b := b) hb (by omega)) ?_
  refine ok_step (ps := []) (L' := [some (.ref 94), some (.int (nI 7)), some (.int x)]) (st' := [.int (nI 7), .ref 94]) (σ' := (γ, apt 103 94 18 ν b [81])) (pc' := 80) kX12_tellsOf_77 rfl rfl rf_a0 ?_
  refine ok_S (As := [.int (nI 7)]) (st := [.ref 94]) mkX12_above qX12_tellsOf_80 rfl rfl rfl rfl rfl (Nat.le_of_ble_eq_true rfl) (m_abv7) ?_
  refine ok_step (ps := []) (L' := [some (.ref 94), some (.int (nI 7)), some (.int x)]) (st' := [.int x, .int (nI 5), .ref 94]) (σ' := (γ, apt 103 94 18 ν b [81])) (pc' := 84) kX12_tellsOf_83 rfl rfl rf_a0 ?_
  refine ok_V (As := [.int (nI 5), .int x]) (b := 94) (st := []) mkX12_tellsOf qX12_tellsOf_84 rfl (rc_94) rfl rfl rfl rfl (Nat.le_of_ble_eq_true rfl) (mv7_2_5 (b := (1 + b)) ((apt_f (by decide) (by omega)).trans hk) ((apt_f (by decide) (by omega)).trans hm) ((apt_f (by decide) (by omega)).trans hn) hg (apt_0 (by decide) hb) (by omega)) ?_
  rw [show apt 103 94 18 (apt 103 94 18 ν b [81]) (1 + b) [12] = apt 103 94 18 ν b [81, 12] from apt_app (by simp)]
  refine ok_step (ps := []) (L' := [some (.ref 94), some (.int (nI 7)), some (.int x)]) (st' := [.int ((x - mn) * (nI 5))]) (σ' := (γ, apt 103 94 18 ν b [81, 12])) (pc' := 89) kX12_tellsOf_87 rfl rfl rf_a0 ?_
  refine ok_reti eX12_tellsOf_89 rfl ?_
  exact ⟨rfl, rfl⟩
theorem mv7_3_0 {x : Int32} {b g : Nat} (hk : ν 95 (190 + 8 * g) = nI 7) (hm : ν 95 (194 + 8 * g) = mn) (hn : ν 94 19 = nI g) (hg : g < 16) (hb : ν 94 18 = nI b) (hl : b + 7 ≤ 40) : rf_At (rf_T Ln xs) MX12_paysOf 9 0 ([some (.ref 94), some (.int (nI 0)), some (.int x), none], [], 108, (γ, ν)) (some (.int (((((x + (nI g)) ^^^ mn) + (nI g)) * nI 2) ^^^ ((x - mn) * nI 5)))) 108 (γ, apt 103 94 18 ν b [13, 11, 80, 60, 10, 81, 12]) := by
  refine rf_pa ?_
  refine ok_step (ps := []) (L' := [some (.ref 94), some (.int (nI 0)), some (.int x), none]) (st' := [.int (nI 0)]) (σ' := (γ, ν)) (pc' := 1) kX12_paysOf_0 rfl rfl rf_a0 ?_
  refine ok_lkk (q := (0, 35)) (t := 36) bX12_paysOf_1 (by decide) (by decide) (by decide) (by decide) ?_
  refine ok_step (ps := []) (L' := [some (.ref 94), some (.int (nI 0)), some (.int x), none]) (st' := [.int (nI 13), .ref 94]) (σ' := (γ, ν)) (pc' := 39) kX12_paysOf_36 rfl rfl rf_a0 ?_
  refine ok_V (As := [.int (nI 13)]) (b := 94) (st := []) mkX12_ran qX12_paysOf_39 rfl (rc_94) rfl rfl rfl rfl (Nat.le_of_ble_eq_true rfl) (m_ran (b := b) hb (by omega)) ?_
  refine ok_step (ps := []) (L' := [some (.ref 94), some (.int (nI 0)), some (.int x), none]) (st' := [.ref 94, .ref 94]) (σ' := (γ, apt 103 94 18 ν b [13])) (pc' := 44) kX12_paysOf_42 rfl rfl rf_a0 ?_
  refine ok_V (As := []) (b := 94) (st := [.ref 94]) mkX12_own qX12_paysOf_44 rfl (rc_94) rfl rfl rfl rfl (Nat.le_of_ble_eq_true rfl) (m_own (K := 7) hg ((apt_f (by decide) (by omega)).trans hk) ((apt_f (by decide) (by omega)).trans hn)) ?_
  refine ok_step (ps := []) (L' := [some (.ref 94), some (.int (nI 0)), some (.int x), none]) (st' := [.int x, .int (nI 7), .ref 94]) (σ' := (γ, apt 103 94 18 ν b [13])) (pc' := 48) kX12_paysOf_47 rfl rfl rf_a0 ?_
  refine ok_V (As := [.int (nI 7), .int x]) (b := 94) (st := []) mkX12_weighsOf qX12_paysOf_48 rfl (rc_94) rfl rfl rfl rfl (Nat.le_of_ble_eq_true rfl) (mv7_1_7 (b := (1 + b)) ((apt_f (by decide) (by omega)).trans hk) ((apt_f (by decide) (by omega)).trans hm) ((apt_f (by decide) (by omega)).trans hn) hg (apt_0 (by decide) hb) (by omega)) ?_
  rw [show apt 103 94 18 (apt 103 94 18 ν b [13]) (1 + b) [11, 80, 60, 10] = apt 103 94 18 ν b [13, 11, 80, 60, 10] from apt_app (by simp)]
  refine ok_step (ps := []) (L' := [some (.ref 94), some (.int (nI 0)), some (.int x), some (.int ((((x + (nI g)) ^^^ mn) + (nI g)) * nI 2))]) (st' := [.ref 94, .ref 94, .int ((((x + (nI g)) ^^^ mn) + (nI g)) * nI 2)]) (σ' := (γ, apt 103 94 18 ν b [13, 11, 80, 60, 10])) (pc' := 55) kX12_paysOf_51 rfl rfl rf_a0 ?_
  refine ok_V (As := []) (b := 94) (st := [.ref 94, .int ((((x + (nI g)) ^^^ mn) + (nI g)) * nI 2)]) mkX12_own qX12_paysOf_55 rfl (rc_94) rfl rfl rfl rfl (Nat.le_of_ble_eq_true rfl) (m_own (K := 7) hg ((apt_f (by decide) (by omega)).trans hk) ((apt_f (by decide) (by omega)).trans hn)) ?_
  refine ok_step (ps := []) (L' := [some (.ref 94), some (.int (nI 0)), some (.int x), some (.int ((((x + (nI g)) ^^^ mn) + (nI g)) * nI 2))]) (st' := [.int x, .int (nI 7), .ref 94, .int ((((x + (nI g)) ^^^ mn) + (nI g)) * nI 2)]) (σ' := (γ, apt 103 94 18 ν b [13, 11, 80, 60, 10])) (pc' := 59) kX12_paysOf_58 rfl rfl rf_a0 ?_
  refine ok_V (As := [.int (nI 7), .int x]) (b := 94) (st := [.int ((((x + (nI g)) ^^^ mn) + (nI g)) * nI 2)]) mkX12_tellsOf qX12_paysOf_59 rfl (rc_94) rfl rfl rfl rfl (Nat.le_of_ble_eq_true rfl) (mv7_2_7 (b := (5 + b)) ((apt_f (by decide) (by omega)).trans hk) ((apt_f (by decide) (by omega)).trans hm) ((apt_f (by decide) (by omega)).trans hn) hg (apt_0 (by decide) hb) (by omega)) ?_
  rw [show apt 103 94 18 (apt 103 94 18 ν b [13, 11, 80, 60, 10]) (5 + b) [81, 12] = apt 103 94 18 ν b [13, 11, 80, 60, 10, 81, 12] from apt_app (by simp)]
  refine ok_step (ps := []) (L' := [some (.ref 94), some (.int (nI 0)), some (.int x), some (.int ((((x + (nI g)) ^^^ mn) + (nI g)) * nI 2))]) (st' := [.int (((((x + (nI g)) ^^^ mn) + (nI g)) * nI 2) ^^^ ((x - mn) * nI 5))]) (σ' := (γ, apt 103 94 18 ν b [13, 11, 80, 60, 10, 81, 12])) (pc' := 63) kX12_paysOf_62 rfl rfl rf_a0 ?_
  refine ok_reti eX12_paysOf_63 rfl ?_
  exact ⟨rfl, rfl⟩
theorem mv7_3_5 {x : Int32} {b g : Nat} (hk : ν 95 (190 + 8 * g) = nI 7) (hm : ν 95 (194 + 8 * g) = mn) (hn : ν 94 19 = nI g) (hg : g < 16) (hb : ν 94 18 = nI b) (hl : b + 7 ≤ 40) : rf_At (rf_T Ln xs) MX12_paysOf 10 0 ([some (.ref 94), some (.int (nI 5)), some (.int x), none], [], 108, (γ, ν)) (some (.int (((((x + (nI g)) ^^^ mn) + (nI g)) * nI 2) ^^^ ((x - mn) * nI 5)))) 108 (γ, apt 103 94 18 ν b [13, 11, 80, 60, 10, 81, 12]) := by
  refine rf_pa ?_
  refine ok_step (ps := []) (L' := [some (.ref 94), some (.int (nI 5)), some (.int x), none]) (st' := [.int (nI 5)]) (σ' := (γ, ν)) (pc' := 1) kX12_paysOf_0 rfl rfl rf_a0 ?_
  refine ok_lkd bX12_paysOf_1 (by decide) ?_
  refine ok_step (ps := []) (L' := [some (.ref 94), some (.int (nI 5)), some (.int x), none]) (st' := [.int (nI 5), .ref 94]) (σ' := (γ, ν)) (pc' := 113) kX12_paysOf_111 rfl rfl rf_a0 ?_
  refine ok_S (As := [.int (nI 5)]) (st := [.ref 94]) mkX12_above qX12_paysOf_113 rfl rfl rfl rfl rfl (Nat.le_of_ble_eq_true rfl) (m_abv5) ?_
  refine ok_step (ps := []) (L' := [some (.ref 94), some (.int (nI 5)), some (.int x), none]) (st' := [.int x, .int (nI 0), .ref 94]) (σ' := (γ, ν)) (pc' := 117) kX12_paysOf_116 rfl rfl rf_a0 ?_
  refine ok_V (As := [.int (nI 0), .int x]) (b := 94) (st := []) mkX12_paysOf qX12_paysOf_117 rfl (rc_94) rfl rfl rfl rfl (Nat.le_of_ble_eq_true rfl) (mv7_3_0 (b := b) hk hm hn hg hb (by omega)) ?_
  refine ok_reti eX12_paysOf_120 rfl ?_
  exact ⟨rfl, rfl⟩
theorem mv7_3_7 {x : Int32} {b g : Nat} (hk : ν 95 (190 + 8 * g) = nI 7) (hm : ν 95 (194 + 8 * g) = mn) (hn : ν 94 19 = nI g) (hg : g < 16) (hb : ν 94 18 = nI b) (hl : b + 7 ≤ 40) : rf_At (rf_T Ln xs) MX12_paysOf 11 0 ([some (.ref 94), some (.int (nI 7)), some (.int x), none], [], 108, (γ, ν)) (some (.int (((((x + (nI g)) ^^^ mn) + (nI g)) * nI 2) ^^^ ((x - mn) * nI 5)))) 108 (γ, apt 103 94 18 ν b [13, 11, 80, 60, 10, 81, 12]) := by
  refine rf_pa ?_
  refine ok_step (ps := []) (L' := [some (.ref 94), some (.int (nI 7)), some (.int x), none]) (st' := [.int (nI 7)]) (σ' := (γ, ν)) (pc' := 1) kX12_paysOf_0 rfl rfl rf_a0 ?_
  refine ok_lkd bX12_paysOf_1 (by decide) ?_
  refine ok_step (ps := []) (L' := [some (.ref 94), some (.int (nI 7)), some (.int x), none]) (st' := [.int (nI 7), .ref 94]) (σ' := (γ, ν)) (pc' := 113) kX12_paysOf_111 rfl rfl rf_a0 ?_
  refine ok_S (As := [.int (nI 7)]) (st := [.ref 94]) mkX12_above qX12_paysOf_113 rfl rfl rfl rfl rfl (Nat.le_of_ble_eq_true rfl) (m_abv7) ?_
  refine ok_step (ps := []) (L' := [some (.ref 94), some (.int (nI 7)), some (.int x), none]) (st' := [.int x, .int (nI 5), .ref 94]) (σ' := (γ, ν)) (pc' := 117) kX12_paysOf_116 rfl rfl rf_a0 ?_
  refine ok_V (As := [.int (nI 5), .int x]) (b := 94) (st := []) mkX12_paysOf qX12_paysOf_117 rfl (rc_94) rfl rfl rfl rfl (Nat.le_of_ble_eq_true rfl) (mv7_3_5 (b := b) hk hm hn hg hb (by omega)) ?_
  refine ok_reti eX12_paysOf_120 rfl ?_
  exact ⟨rfl, rfl⟩
end H59
