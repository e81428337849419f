/-! ===== walking: rf_Ok T M d pc L st σ Q: from pc M comes to its return, and Q holds of its answer and the memory ===== -/
def rf_Ok (T : rf_Tb) (M : rf_M) (d pc : Nat) (L : List (Option Value)) (st : List Value) (σ : rf_Mem) (Q : Option Value → rf_Mem → Prop) : Prop := ∃ (r : Option Value) (σ' : rf_Mem), rf_At T M d pc (L, st, 108, σ) r 108 σ' ∧ Q r σ'
theorem rf_a0 : rf_all [] := trivial
theorem rf_a1 {b : Bool} {bs : List Bool} (h : b = true) (t : rf_all bs) : rf_all (b :: bs) := ⟨h, t⟩
theorem rf_in_n {x : Int32} {a N : Nat} (h : x = nI a) (ha : a < N) (hN : Nat.ble N 1000000 = true := by rfl) : rf_in x N = true := by
  subst h
  have hN := Nat.le_of_ble_eq_true hN
  simp only [rf_in, Bool.and_eq_true, decide_eq_true_eq]
  exact ⟨nI_pos' (by omega), by rw [nI_clamp (by omega)]; exact ha⟩
theorem rf_cl_n {x : Int32} {a : Nat} (h : x = nI a) (ha : a < 2147483648) : x.toNatClampNeg = a := by
  subst h
  exact nI_clamp (by omega)
theorem rf_nadd {x y : Int32} {a b : Nat} (h : x = nI a) (g : y = nI b) : x + y = nI (a + b) := by
  subst h
  subst g
  exact nI_add a b
theorem rf_nmul {x y : Int32} {a b : Nat} (h : x = nI a) (g : y = nI b) : x * y = nI (a * b) := by
  subst h
  subst g
  exact pk_mul a b
theorem rf_nsub {x y : Int32} {a b : Nat} (h : x = nI a) (g : y = nI b) (hb : b ≤ a) : x - y = nI (a - b) := by
  subst h
  subst g
  exact pk_sub hb
theorem rf_bb0 : rf_bb 0 = true := rfl
theorem rf_bb1 : rf_bb 1 = true := rfl
section RFO
variable {T : rf_Tb} {M M2 : rf_M} {d d2 pc pc' idx z zc zi zm zs b tgt : Nat} {L L' L2 : List (Option Value)} {sk st st' As : List Value} {σ σ' σ1 : rf_Mem} {r1 : Option Value} {Q Q2 : Option Value → rf_Mem → Prop} {is : List rf_I} {ps : List Bool} {off : Int} {x y : Int32}
theorem rf_pa {v : Option Value} (h : rf_Ok T M d pc L st σ (fun r s => r = v ∧ s = σ')) : rf_At T M d pc (L, st, 108, σ) v 108 σ' := by
  obtain ⟨_, _, h, rfl, rfl⟩ := h
  exact h
theorem rf_ap {v : Option Value} (h : rf_At T M d pc (L, st, 108, σ) v 108 σ') (hq : Q v σ') : rf_Ok T M d pc L st σ Q := ⟨_, _, h, hq⟩
theorem rf_Ok.mono (h : rf_Ok T M d pc L st σ Q2) (hq : ∀ r s, Q2 r s → Q r s) : rf_Ok T M d pc L st σ Q := by
  obtain ⟨r, s, h1, h2⟩ := h
  exact ⟨r, s, h1, hq r s h2⟩
theorem rf_Ok.more {d3 : Nat} (hd : d ≤ d3) (h : rf_Ok T M d pc L st σ Q) : rf_Ok T M d3 pc L st σ Q := by
  obtain ⟨r, s, h1, h2⟩ := h
  exact ⟨r, s, rf_more hd h1, h2⟩
theorem ok_step (hck : rf_ck M pc is = true) (hpc : rf_end pc is = pc') (hex : rf_ex T is (L, st, 108, σ) = (ps, (L', st', 108, σ'))) (hps : rf_all ps) (k : rf_Ok T M (d + 1) pc' L' st' σ' Q) : rf_Ok T M (d + 1) pc L st σ Q := by
  obtain ⟨r, s, h1, h2⟩ := k
  exact ⟨r, s, rf_step hck hpc hex hps (fun h => h) h1, h2⟩
theorem ok_goto (hck : rf_ckb M pc (.goto off) off tgt = true) (k : rf_Ok T M d tgt L st σ Q) : rf_Ok T M d pc L st σ Q := by
  obtain ⟨r, s, h1, h2⟩ := k
  exact ⟨r, s, rf_goto hck h1, h2⟩
theorem ok_ifnull (hck : rf_ckb M pc (.ifnull off) off tgt = true) (k : rf_Ok T M d (pc + 3) L st σ Q) : rf_Ok T M d pc L (.ref b :: st) σ Q := by
  obtain ⟨r, s, h1, h2⟩ := k
  exact ⟨r, s, rf_ifnull hck h1, h2⟩
theorem ok_table {dflt lo hi : Int} {offs : List Int} {tgts : List Nat} {dt : Nat} (hck : rf_ckt M pc dflt lo hi offs tgts dt = true) (kd : x.toInt < lo ∨ hi < x.toInt → rf_Ok T M d dt L st σ Q)
    (kt : ∀ (i t : Nat), tgts[i]? = some t → x.toInt = lo + i → rf_Ok T M d t L st σ Q) : rf_Ok T M d pc L (.int x :: st) σ Q := by
  by_cases h : x.toInt < lo ∨ hi < x.toInt
  · obtain ⟨r, s, h1, h2⟩ := kd h
    exact ⟨r, s, rf_table hck (fun _ => h1) (fun i t hi' he => by
      simp only [rf_ckt, Bool.and_eq_true, decide_eq_true_eq] at hck
      have hl : tgts.length = offs.length := by
        have := congrArg List.length hck.1.2
        simpa using this.symm
      have := (List.getElem?_eq_some_iff.mp hi').1
      omega), h2⟩
  · have hck' := hck
    simp only [rf_ckt, Bool.and_eq_true, decide_eq_true_eq] at hck'
    have hl : tgts.length = offs.length := by
      have := congrArg List.length hck'.1.2
      simpa using this.symm
    have hlt : (x.toInt - lo).toNat < tgts.length := by omega
    obtain ⟨r, s, h1, h2⟩ := kt (x.toInt - lo).toNat _ (List.getElem?_eq_getElem hlt) (by omega)
    refine ⟨r, s, rf_table hck (fun hh => absurd hh h) (fun i t hi' he => ?_), h2⟩
    have ei : i = (x.toInt - lo).toNat := by omega
    subst ei
    rw [List.getElem?_eq_getElem hlt] at hi'
    cases hi'
    exact h1
theorem ok_lookup {dflt : Int} {prs : List (Int × Int)} {dt : Nat} (hck : rf_ckl M pc dflt prs dt = true) (kd : (∀ q ∈ prs, ¬ q.1 = x.toInt) → rf_Ok T M d dt L st σ Q)
    (kt : ∀ (q : Int × Int) (t : Nat), q ∈ prs → q.1 = x.toInt → (pc : Int) + q.2 = (t : Int) → rf_Ok T M d t L st σ Q) (hnd : ∀ q ∈ prs, ∀ q2 ∈ prs, q.1 = q2.1 → q = q2) : rf_Ok T M d pc L (.int x :: st) σ Q := by
  by_cases h : ∃ q ∈ prs, q.1 = x.toInt
  · obtain ⟨q, hq, he⟩ := h
    have hck' := hck
    simp only [rf_ckl, Bool.and_eq_true, decide_eq_true_eq] at hck'
    have hp := List.all_eq_true.mp hck'.2 q hq
    simp only [decide_eq_true_eq] at hp
    obtain ⟨r, s, h1, h2⟩ := kt q ((pc : Int) + q.2).toNat hq he (by omega)
    refine ⟨r, s, rf_lookup hck (fun hh => absurd he (hh q hq)) (fun q2 t2 hq2 he2 ht2 => ?_), h2⟩
    have e : q2 = q := hnd q2 hq2 q hq (he2.trans he.symm)
    subst e
    have e3 : t2 = ((pc : Int) + q2.2).toNat := by omega
    rw [e3]
    exact h1
  · have h0 : ∀ q ∈ prs, ¬ q.1 = x.toInt := fun q hq he => h ⟨q, hq, he⟩
    obtain ⟨r, s, h1, h2⟩ := kd h0
    exact ⟨r, s, rf_lookup hck (fun _ => h1) (fun q t hq he _ => absurd he (h0 q hq)), h2⟩
theorem ok_reti {v : Int32} (hck : rf_cki M pc .ireturn = true) (hr : M.2.2.2 = some .int) (hq : Q (some (.int v)) σ) : rf_Ok T M d pc L [.int v] σ Q := ⟨_, _, rf_reti hck hr, hq⟩
theorem ok_retz {v : Int32} (hck : rf_cki M pc .ireturn = true) (hr : M.2.2.2 = some .boolean) (hv : v = 0 ∨ v = 1) (hq : Q (some (.int v)) σ) : rf_Ok T M d pc L [.int v] σ Q := ⟨_, _, rf_retz hck hr hv, hq⟩
theorem ok_retl {v : Int64} (hck : rf_cki M pc .lreturn = true) (hr : M.2.2.2 = some .long) (hq : Q (some (.long v)) σ) : rf_Ok T M d pc L [.long v] σ Q := ⟨_, _, rf_retl hck hr, hq⟩
theorem ok_reta {v : Nat} {C : String} (hck : rf_cki M pc .areturn = true) (hr : M.2.2.2 = some (.object C)) (hq : Q (some (.ref v)) σ) : rf_Ok T M d pc L [.ref v] σ Q := ⟨_, _, rf_reta hck hr, hq⟩
theorem ok_retv (hck : rf_cki M pc .return_ = true) (hr : M.2.2.2 = none) (hq : Q none σ) : rf_Ok T M d pc L [] σ Q := ⟨_, _, rf_retv hck hr, hq⟩
/-- calls whose end is known -/
theorem ok_V (hm : rf_mk M2 0 As.length zc zi zm zs = true) (hk : rf_kc M pc idx z M2.1 0 = true) (hsk : sk = As.reverse ++ .ref b :: st) (hrc : rf_rc T 108 b M2.1.cls = true) (hfo : rf_fo 108 L st = true) (hcat : Nat.ble (st.map fun v => v.category).sum 8 = true) (hL2 : rf_ent M2.2.2.1 (.ref b :: As) = L2) (hlen : Nat.ble (rf_e1 (.ref b :: As)).length M2.2.2.1 = true)
    (hd : d2 + 1 ≤ d) (hc : rf_At T M2 d2 0 (L2, [], 108, σ) r1 108 σ1) (k : rf_Ok T M d (pc + 3) L (r1.toList ++ st) σ1 Q) : rf_Ok T M d pc L sk σ Q := by
  obtain ⟨r, s, h1, h2⟩ := k
  exact ⟨r, s, rf_callV hm hk hsk hrc hfo hcat hL2 hlen (Nat.le_refl _) (Nat.le_refl _) hd hc h1, h2⟩
theorem ok_S (hm : rf_mk M2 1 As.length zc zi zm zs = true) (hk : rf_kc M pc idx z M2.1 1 = true) (hsk : sk = As.reverse ++ st) (hfo : rf_fo 108 L st = true) (hcat : Nat.ble (st.map fun v => v.category).sum 8 = true) (hL2 : rf_ent M2.2.2.1 As = L2) (hlen : Nat.ble (rf_e1 As).length M2.2.2.1 = true)
    (hd : d2 + 1 ≤ d) (hc : rf_At T M2 d2 0 (L2, [], 108, σ) r1 108 σ1) (k : rf_Ok T M d (pc + 3) L (r1.toList ++ st) σ1 Q) : rf_Ok T M d pc L sk σ Q := by
  obtain ⟨r, s, h1, h2⟩ := k
  exact ⟨r, s, rf_callS hm hk hsk hfo hcat hL2 hlen (Nat.le_refl _) (Nat.le_refl _) hd hc h1, h2⟩
/-- calls of which something is known -/
theorem ok_Vx (hm : rf_mk M2 0 As.length zc zi zm zs = true) (hk : rf_kc M pc idx z M2.1 0 = true) (hsk : sk = As.reverse ++ .ref b :: st) (hrc : rf_rc T 108 b M2.1.cls = true) (hfo : rf_fo 108 L st = true) (hcat : Nat.ble (st.map fun v => v.category).sum 8 = true) (hL2 : rf_ent M2.2.2.1 (.ref b :: As) = L2) (hlen : Nat.ble (rf_e1 (.ref b :: As)).length M2.2.2.1 = true)
    (hd : d2 + 1 ≤ d) (hc : rf_Ok T M2 d2 0 L2 [] σ Q2) (k : ∀ r1 σ1, Q2 r1 σ1 → rf_Ok T M d (pc + 3) L (r1.toList ++ st) σ1 Q) : rf_Ok T M d pc L sk σ Q := by
  obtain ⟨r1, σ1, g1, g2⟩ := hc
  exact ok_V hm hk hsk hrc hfo hcat hL2 hlen hd g1 (k r1 σ1 g2)
theorem ok_Sx (hm : rf_mk M2 1 As.length zc zi zm zs = true) (hk : rf_kc M pc idx z M2.1 1 = true) (hsk : sk = As.reverse ++ st) (hfo : rf_fo 108 L st = true) (hcat : Nat.ble (st.map fun v => v.category).sum 8 = true) (hL2 : rf_ent M2.2.2.1 As = L2) (hlen : Nat.ble (rf_e1 As).length M2.2.2.1 = true)
    (hd : d2 + 1 ≤ d) (hc : rf_Ok T M2 d2 0 L2 [] σ Q2) (k : ∀ r1 σ1, Q2 r1 σ1 → rf_Ok T M d (pc + 3) L (r1.toList ++ st) σ1 Q) : rf_Ok T M d pc L sk σ Q := by
  obtain ⟨r1, σ1, g1, g2⟩ := hc
  exact ok_S hm hk hsk hfo hcat hL2 hlen hd g1 (k r1 σ1 g2)
theorem ok_icmp_eq (hck : rf_ckb M pc (.if_icmp .eq off) off tgt = true) (kt : x = y → rf_Ok T M d tgt L st σ Q) (kf : ¬ x = y → rf_Ok T M d (pc + 3) L st σ Q) : rf_Ok T M d pc L (.int y :: .int x :: st) σ Q := by
  by_cases h : x = y
  · obtain ⟨r, s, h1, h2⟩ := kt h
    exact ⟨r, s, rf_icmp_eq hck (fun _ => h1) (fun hh => absurd h hh), h2⟩
  · obtain ⟨r, s, h1, h2⟩ := kf h
    exact ⟨r, s, rf_icmp_eq hck (fun hh => absurd hh h) (fun _ => h1), h2⟩
theorem ok_if_eq (hck : rf_ckb M pc (.ifCond .eq off) off tgt = true) (kt : x = 0 → rf_Ok T M d tgt L st σ Q) (kf : ¬ x = 0 → rf_Ok T M d (pc + 3) L st σ Q) : rf_Ok T M d pc L (.int x :: st) σ Q := by
  by_cases h : x = 0
  · obtain ⟨r, s, h1, h2⟩ := kt h
    exact ⟨r, s, rf_if_eq hck (fun _ => h1) (fun hh => absurd h hh), h2⟩
  · obtain ⟨r, s, h1, h2⟩ := kf h
    exact ⟨r, s, rf_if_eq hck (fun hh => absurd hh h) (fun _ => h1), h2⟩
theorem ok_icmp_ne (hck : rf_ckb M pc (.if_icmp .ne off) off tgt = true) (kt : ¬ x = y → rf_Ok T M d tgt L st σ Q) (kf : x = y → rf_Ok T M d (pc + 3) L st σ Q) : rf_Ok T M d pc L (.int y :: .int x :: st) σ Q := by
  by_cases h : x = y
  · obtain ⟨r, s, h1, h2⟩ := kf h
    exact ⟨r, s, rf_icmp_ne hck (fun hh => absurd h hh) (fun _ => h1), h2⟩
  · obtain ⟨r, s, h1, h2⟩ := kt h
    exact ⟨r, s, rf_icmp_ne hck (fun _ => h1) (fun hh => absurd hh h), h2⟩
theorem ok_if_ne (hck : rf_ckb M pc (.ifCond .ne off) off tgt = true) (kt : ¬ x = 0 → rf_Ok T M d tgt L st σ Q) (kf : x = 0 → rf_Ok T M d (pc + 3) L st σ Q) : rf_Ok T M d pc L (.int x :: st) σ Q := by
  by_cases h : x = 0
  · obtain ⟨r, s, h1, h2⟩ := kf h
    exact ⟨r, s, rf_if_ne hck (fun hh => absurd h hh) (fun _ => h1), h2⟩
  · obtain ⟨r, s, h1, h2⟩ := kt h
    exact ⟨r, s, rf_if_ne hck (fun _ => h1) (fun hh => absurd hh h), h2⟩
theorem ok_icmp_lt (hck : rf_ckb M pc (.if_icmp .lt off) off tgt = true) (kt : x < y → rf_Ok T M d tgt L st σ Q) (kf : ¬ x < y → rf_Ok T M d (pc + 3) L st σ Q) : rf_Ok T M d pc L (.int y :: .int x :: st) σ Q := by
  by_cases h : x < y
  · obtain ⟨r, s, h1, h2⟩ := kt h
    exact ⟨r, s, rf_icmp_lt hck (fun _ => h1) (fun hh => absurd h hh), h2⟩
  · obtain ⟨r, s, h1, h2⟩ := kf h
    exact ⟨r, s, rf_icmp_lt hck (fun hh => absurd hh h) (fun _ => h1), h2⟩
theorem ok_if_lt (hck : rf_ckb M pc (.ifCond .lt off) off tgt = true) (kt : x < 0 → rf_Ok T M d tgt L st σ Q) (kf : ¬ x < 0 → rf_Ok T M d (pc + 3) L st σ Q) : rf_Ok T M d pc L (.int x :: st) σ Q := by
  by_cases h : x < 0
  · obtain ⟨r, s, h1, h2⟩ := kt h
    exact ⟨r, s, rf_if_lt hck (fun _ => h1) (fun hh => absurd h hh), h2⟩
  · obtain ⟨r, s, h1, h2⟩ := kf h
    exact ⟨r, s, rf_if_lt hck (fun hh => absurd hh h) (fun _ => h1), h2⟩
theorem ok_icmp_ge (hck : rf_ckb M pc (.if_icmp .ge off) off tgt = true) (kt : y ≤ x → rf_Ok T M d tgt L st σ Q) (kf : ¬ y ≤ x → rf_Ok T M d (pc + 3) L st σ Q) : rf_Ok T M d pc L (.int y :: .int x :: st) σ Q := by
  by_cases h : y ≤ x
  · obtain ⟨r, s, h1, h2⟩ := kt h
    exact ⟨r, s, rf_icmp_ge hck (fun _ => h1) (fun hh => absurd h hh), h2⟩
  · obtain ⟨r, s, h1, h2⟩ := kf h
    exact ⟨r, s, rf_icmp_ge hck (fun hh => absurd hh h) (fun _ => h1), h2⟩
theorem ok_if_ge (hck : rf_ckb M pc (.ifCond .ge off) off tgt = true) (kt : 0 ≤ x → rf_Ok T M d tgt L st σ Q) (kf : ¬ 0 ≤ x → rf_Ok T M d (pc + 3) L st σ Q) : rf_Ok T M d pc L (.int x :: st) σ Q := by
  by_cases h : 0 ≤ x
  · obtain ⟨r, s, h1, h2⟩ := kt h
    exact ⟨r, s, rf_if_ge hck (fun _ => h1) (fun hh => absurd h hh), h2⟩
  · obtain ⟨r, s, h1, h2⟩ := kf h
    exact ⟨r, s, rf_if_ge hck (fun hh => absurd hh h) (fun _ => h1), h2⟩
theorem ok_icmp_gt (hck : rf_ckb M pc (.if_icmp .gt off) off tgt = true) (kt : y < x → rf_Ok T M d tgt L st σ Q) (kf : ¬ y < x → rf_Ok T M d (pc + 3) L st σ Q) : rf_Ok T M d pc L (.int y :: .int x :: st) σ Q := by
  by_cases h : y < x
  · obtain ⟨r, s, h1, h2⟩ := kt h
    exact ⟨r, s, rf_icmp_gt hck (fun _ => h1) (fun hh => absurd h hh), h2⟩
  · obtain ⟨r, s, h1, h2⟩ := kf h
    exact ⟨r, s, rf_icmp_gt hck (fun hh => absurd hh h) (fun _ => h1), h2⟩
theorem ok_if_gt (hck : rf_ckb M pc (.ifCond .gt off) off tgt = true) (kt : 0 < x → rf_Ok T M d tgt L st σ Q) (kf : ¬ 0 < x → rf_Ok T M d (pc + 3) L st σ Q) : rf_Ok T M d pc L (.int x :: st) σ Q := by
  by_cases h : 0 < x
  · obtain ⟨r, s, h1, h2⟩ := kt h
    exact ⟨r, s, rf_if_gt hck (fun _ => h1) (fun hh => absurd h hh), h2⟩
  · obtain ⟨r, s, h1, h2⟩ := kf h
    exact ⟨r, s, rf_if_gt hck (fun hh => absurd hh h) (fun _ => h1), h2⟩
theorem ok_icmp_le (hck : rf_ckb M pc (.if_icmp .le off) off tgt = true) (kt : x ≤ y → rf_Ok T M d tgt L st σ Q) (kf : ¬ x ≤ y → rf_Ok T M d (pc + 3) L st σ Q) : rf_Ok T M d pc L (.int y :: .int x :: st) σ Q := by
  by_cases h : x ≤ y
  · obtain ⟨r, s, h1, h2⟩ := kt h
    exact ⟨r, s, rf_icmp_le hck (fun _ => h1) (fun hh => absurd h hh), h2⟩
  · obtain ⟨r, s, h1, h2⟩ := kf h
    exact ⟨r, s, rf_icmp_le hck (fun hh => absurd hh h) (fun _ => h1), h2⟩
theorem ok_if_le (hck : rf_ckb M pc (.ifCond .le off) off tgt = true) (kt : x ≤ 0 → rf_Ok T M d tgt L st σ Q) (kf : ¬ x ≤ 0 → rf_Ok T M d (pc + 3) L st σ Q) : rf_Ok T M d pc L (.int x :: st) σ Q := by
  by_cases h : x ≤ 0
  · obtain ⟨r, s, h1, h2⟩ := kt h
    exact ⟨r, s, rf_if_le hck (fun _ => h1) (fun hh => absurd h hh), h2⟩
  · obtain ⟨r, s, h1, h2⟩ := kf h
    exact ⟨r, s, rf_if_le hck (fun hh => absurd hh h) (fun _ => h1), h2⟩
end RFO
theorem rc_0 : rf_rc (tSh, fun _ => (0, 0, fun _ => 0)) 108 0 "CoatsByLot" = true := by decide +kernel
theorem rc_1 : rf_rc (tSh, fun _ => (0, 0, fun _ => 0)) 108 1 "CoatsByLot$World" = true := by decide +kernel
theorem rc_2 : rf_rc (tSh, fun _ => (0, 0, fun _ => 0)) 108 2 "CoatsByLot$Roads" = true := by decide +kernel
theorem rc_10 : rf_rc (tSh, fun _ => (0, 0, fun _ => 0)) 108 10 "CoatsByLot$Riders" = true := by decide +kernel
theorem rc_19 : rf_rc (tSh, fun _ => (0, 0, fun _ => 0)) 108 19 "CoatsByLot$Shifts" = true := by decide +kernel
theorem rc_22 : rf_rc (tSh, fun _ => (0, 0, fun _ => 0)) 108 22 "CoatsByLot$Diary" = true := by decide +kernel
theorem rc_26 : rf_rc (tSh, fun _ => (0, 0, fun _ => 0)) 108 26 "CoatsByLot$Desk" = true := by decide +kernel
theorem rc_29 : rf_rc (tSh, fun _ => (0, 0, fun _ => 0)) 108 29 "CoatsByLot$Text" = true := by decide +kernel
theorem rc_32 : rf_rc (tSh, fun _ => (0, 0, fun _ => 0)) 108 32 "CoatsByLot$Text" = true := by decide +kernel
theorem rc_38 : rf_rc (tSh, fun _ => (0, 0, fun _ => 0)) 108 38 "CoatsByLot$World" = true := by decide +kernel
theorem rc_39 : rf_rc (tSh, fun _ => (0, 0, fun _ => 0)) 108 39 "CoatsByLot$Roads" = true := by decide +kernel
theorem rc_47 : rf_rc (tSh, fun _ => (0, 0, fun _ => 0)) 108 47 "CoatsByLot$Riders" = true := by decide +kernel
theorem rc_56 : rf_rc (tSh, fun _ => (0, 0, fun _ => 0)) 108 56 "CoatsByLot$Shifts" = true := by decide +kernel
theorem rc_59 : rf_rc (tSh, fun _ => (0, 0, fun _ => 0)) 108 59 "CoatsByLot$Diary" = true := by decide +kernel
theorem rc_63 : rf_rc (tSh, fun _ => (0, 0, fun _ => 0)) 108 63 "CoatsByLot$Desk" = true := by decide +kernel
theorem rc_66 : rf_rc (tSh, fun _ => (0, 0, fun _ => 0)) 108 66 "CoatsByLot$Text" = true := by decide +kernel
theorem rc_69 : rf_rc (tSh, fun _ => (0, 0, fun _ => 0)) 108 69 "CoatsByLot$Text" = true := by decide +kernel
theorem rc_75 : rf_rc (tSh, fun _ => (0, 0, fun _ => 0)) 108 75 "CoatsByLot$Reader" = true := by decide +kernel
theorem rc_76 : rf_rc (tSh, fun _ => (0, 0, fun _ => 0)) 108 76 "CoatsByLot$Text" = true := by decide +kernel
theorem rc_79 : rf_rc (tSh, fun _ => (0, 0, fun _ => 0)) 108 79 "CoatsByLot$Search" = true := by decide +kernel
theorem rc_83 : rf_rc (tSh, fun _ => (0, 0, fun _ => 0)) 108 83 "CoatsByLot$Voices" = true := by decide +kernel
theorem rc_85 : rf_rc (tSh, fun _ => (0, 0, fun _ => 0)) 108 85 "CoatsByLot$Sheets" = true := by decide +kernel
theorem rc_94 : rf_rc (tSh, fun _ => (0, 0, fun _ => 0)) 108 94 "CoatsByLotModel" = true := by decide +kernel
theorem rf_eq {x : Int32} {a b : Nat} (h : x = nI a) (e : a = b) : x = nI b := by
  subst e
  exact h
/-- a truth as a number -/
def bI (b : Bool) : Int32 := cond b 1 0
theorem bI_or {b : Bool} : bI b = 0 ∨ bI b = 1 := by cases b <;> simp [bI]
theorem bI_0 {b : Bool} : bI b = 0 ↔ b = false := by cases b <;> simp [bI]
theorem bI_n0 {b : Bool} : ¬ bI b = 0 ↔ b = true := by cases b <;> simp [bI]
theorem bI_t {b : Bool} (h : b = true) : bI b = 1 := by subst h; rfl
theorem bI_f {b : Bool} (h : b = false) : bI b = 0 := by subst h; rfl
/-- the sum of the first n of f -/
def sumI (f : Nat → Int32) : Nat → Int32
  | 0 => 0
  | n + 1 => sumI f n + f n
theorem sumI_congr {f g : Nat → Int32} : ∀ {n : Nat}, (∀ i, i < n → f i = g i) → sumI f n = sumI g n
  | 0, _ => rfl
  | n + 1, h => by
    rw [sumI, sumI, sumI_congr (fun i hi => h i (by omega)), h n (by omega)]
/-- a switch whose case is known -/
theorem ok_tk {T : rf_Tb} {M : rf_M} {d pc : Nat} {L : List (Option Value)} {st : List Value} {σ : rf_Mem} {Q : Option Value → rf_Mem → Prop} {x : Int32} {dflt lo hi : Int} {offs : List Int} {tgts : List Nat} {dt i t : Nat} (hck : rf_ckt M pc dflt lo hi offs tgts dt = true) (ht : tgts[i]? = some t) (hx : x.toInt = lo + i) (k : rf_Ok T M d t L st σ Q) : rf_Ok T M d pc L (.int x :: st) σ Q := by
  refine ok_table hck (fun h => ?_) (fun j t2 hj he => ?_)
  · have hck' := hck
    simp only [rf_ckt, Bool.and_eq_true, decide_eq_true_eq] at hck'
    have hl : tgts.length = offs.length := by
      have := congrArg List.length hck'.1.2
      simpa using this.symm
    have := (List.getElem?_eq_some_iff.mp ht).1
    omega
  · have e : j = i := by omega
    subst e
    rw [ht] at hj
    cases hj
    exact k
