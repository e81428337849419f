def R_law : String := "CoatsByLotLaw"
def lw_P (b : Addr) (xs : List Int32) (args : Array Value) (s : State) : Prop := args = #[.ref b] ∧ s.IntsAt b xs ∧ xs.length ≤ 384 ∧ (Jvm.Cond.and given_1 narrow_1).before args s = true
def lw_Q (_ : Array Value) (s : State) (o : Outcome) (t : State) : Prop := o = .returned (some (.int 1)) ∧ Framed s o t [] 600000 7302250
def lw_Z (below : List Frame) (a : Array Value) (s : State) : State → Prop := fun t => ∃ o, t.status = .running ∧ Ended t below o ∧ lw_Q a s o t
/-- the law's own end, with 1 on the stack, nothing written that was there before, its room as the claim has it -/
theorem lw_ret {p : Program} {l : Launch} {e : Env} {s : State} {m : MethodId} {below : List Frame} {meth : Method} {c : Code} {b : Nat} (hx : p.tables.exec = Jvm.exec) (hb : c.code = code) (hr : meth.sig.returnType = ret) (hlocks : meth.locks = false) {pc : Nat} {H : Heap} {ls : Array Slot} (hdg : decode code pc = .ok (.ireturn, 1)) : W p l e room_1 s m #[Value.ref b] below meth c H [] 600000 7302250 (lw_Z below #[Value.ref b] s) (F0 m pc ls [.int 1]) := by
  intro T hT X
  obtain ⟨fs, hret, hrun, hended, hW, hframe⟩ := X.leave (v := some (.int 1)) (hlocks := hlocks) (fun h => by rw [hr] at h; cases h)
  have hmeth' : T.vm.method? m = some meth := X.method'
  refine ⟨T.setFrames fs, ?_, .returned (some (.int 1)), hrun, hended, rfl, ⟨_, rfl⟩, hW, hframe⟩
  jvm_step X.here [X.here.top, hx, hb, hdg, hmeth', hr, ret, narrow_b1]
  (try refine ⟨rfl, ?_⟩); (try refine ⟨rfl, ?_⟩)
  first | (intro acts; rw [hret _ acts rfl rfl rfl]) | rw [hret _ _ rfl rfl rfl]
  exact Steps.refl _
/-- what holds at the law's entry: the machine, the code, the tables' words (any of lw_tbl by 'hts w (by decide +kernel)'), the script of L ints xs at the cell b, what the Statement gives of the start (any of its parts by flat_of_before) -/
def lw_At (p : Program) (s : State) (m : MethodId) (meth : Method) (c : Code) (b L : Nat) (xs : Nat → Int32) : Prop :=
  p.tables.exec = Jvm.exec ∧ c.code = code ∧ meth.sig.returnType = ret ∧ c.maxLocals = 4 ∧ s.vm.findClass R_law = some m.cls ∧ (∀ w ∈ lw_tbl, w.before #[Value.ref b] s = true) ∧ va_X b L xs s s.heap ∧ b < s.heap.size ∧ meth.locks = false ∧ (Jvm.Cond.and given_1 narrow_1).before #[Value.ref b] s = true
/-! ===== the start ===== -/
theorem st_sr : (lw_tbl.all fun w => match w with
  | .stringRef c i tx => !(decide (c = RX2)) || ((decide (i = 22) && decide (tx = "fgpqn")) || (decide (i = 32) && decide (tx = "nlgb")))
  | _ => true) = true := by decide +kernel
theorem st_ab : ∀ j, j < 8 → Cond.eq (.elem (.static "CoatsByLot" "ABOVE" "[I") (.int (Int32.ofNat j))) (.int (tAbove j)) ∈ flatC (Jvm.Cond.and given_1 narrow_1) := by decide +kernel
theorem st_bo : ∀ j, j < 32 → Cond.eq (.elem (.static "CoatsByLot$Voices" "BODIES" "[I") (.int (Int32.ofNat j))) (.int (tBodies j)) ∈ flatC (Jvm.Cond.and given_1 narrow_1) := by decide +kernel
theorem st_a1 : Cond.arrayOf (.static "CoatsByLot" "ABOVE" "[I") .int ∈ flatC (Jvm.Cond.and given_1 narrow_1) ∧ Cond.eq (.length (.static "CoatsByLot" "ABOVE" "[I")) (.int (Int32.ofNat 8)) ∈ flatC (Jvm.Cond.and given_1 narrow_1) ∧ Cond.arrayOf (.static "CoatsByLot$Voices" "BODIES" "[I") .int ∈ flatC (Jvm.Cond.and given_1 narrow_1) ∧ Cond.eq (.length (.static "CoatsByLot$Voices" "BODIES" "[I")) (.int (Int32.ofNat 32)) ∈ flatC (Jvm.Cond.and given_1 narrow_1) ∧ Cond.eq (.static "java/lang/String" "COMPACT_STRINGS" "Z") (.int 1) ∈ flatC (Jvm.Cond.and given_1 narrow_1) := by decide +kernel
theorem st_x1 : ∀ i, i < 2 → Cond.exactly (.string "CoatsByLot$Reader" (if i = 0 then 22 else 32)) "java/lang/String" ∈ flatC (Jvm.Cond.and given_1 narrow_1) := by decide +kernel
theorem st_x2 : ∀ i, i < 2 → Cond.eq (.field (.string "CoatsByLot$Reader" (if i = 0 then 22 else 32)) "java/lang/String" "coder" "B") (.int 0) ∈ flatC (Jvm.Cond.and given_1 narrow_1) := by decide +kernel
theorem st_x3 : ∀ i, i < 2 → Cond.arrayOf (.field (.string "CoatsByLot$Reader" (if i = 0 then 22 else 32)) "java/lang/String" "value" "[B") .byte ∈ flatC (Jvm.Cond.and given_1 narrow_1) := by decide +kernel
theorem st_x4 : ∀ i, i < 2 → Cond.eq (.length (.field (.string "CoatsByLot$Reader" (if i = 0 then 22 else 32)) "java/lang/String" "value" "[B")) (.int (Int32.ofNat (([5, 4] : List Nat).getD i 0))) ∈ flatC (Jvm.Cond.and given_1 narrow_1) := by decide +kernel
theorem st_x5 : ∀ i, i < 2 → ∀ j, j < ([5, 4] : List Nat).getD i 0 → Cond.eq (.elem (.field (.string "CoatsByLot$Reader" (if i = 0 then 22 else 32)) "java/lang/String" "value" "[B") (.int (Int32.ofNat j))) (.int ((([[nI 102, nI 103, nI 112, nI 113, nI 110], [nI 110, nI 108, nI 103, nI 98]] : List (List Int32)).getD i []).getD j 0)) ∈ flatC (Jvm.Cond.and given_1 narrow_1) := by decide +kernel
theorem st_x6 : Cond.not (Cond.eq (.string "CoatsByLot$Reader" 22) (.string "CoatsByLot$Reader" 32)) ∈ flatC (Jvm.Cond.and given_1 narrow_1) := by decide +kernel
theorem st_w1 : (Cond.laysStatic "CoatsByLot" "ABOVE" "[I" ∈ lw_tbl ∧ Cond.initialized "CoatsByLot" ∈ lw_tbl) ∧ (Cond.laysStatic "CoatsByLot$Voices" "BODIES" "[I" ∈ lw_tbl ∧ Cond.initialized "CoatsByLot$Voices" ∈ lw_tbl) ∧ (Cond.laysStatic "java/lang/String" "COMPACT_STRINGS" "Z" ∈ lw_tbl ∧ Cond.initialized "java/lang/String" ∈ lw_tbl) ∧ Cond.arrayOver (.array .int) ∈ lw_tbl := by decide +kernel
theorem st_nest : ∀ w ∈ rf_nest, w ∈ lw_tbl ∧ w.onTables = true := by
  intro w hw
  obtain ⟨h1, h2⟩ := List.mem_filter.mp hw
  refine ⟨h1, ?_⟩
  revert h2
  cases w <;> intro h2 <;> first | rfl | cases h2
theorem st_Ex {s : State} {b L : Nat} {xs : Nat → Int32} (hts : ∀ w ∈ lw_tbl, w.before #[Value.ref b] s = true) (hX : va_X b L xs s s.heap) (hb : b < s.heap.size) (hgv : (Jvm.Cond.and given_1 narrow_1).before #[Value.ref b] s = true) : ∃ ad : Nat → Nat, ad 1000 = b ∧ rf_Ex (tEx L xs) s.heap.size ad s := by
  have hs := flat_of_before _ hgv
  have hA : ∀ a : Nat, a < s.heap.size → ¬ (fun q : Nat => s.heap.size ≤ q) a := fun a h => Nat.not_le.mpr h
  obtain ⟨a1, a2, a3, a4, a5⟩ := st_a1
  obtain ⟨⟨w1, w2⟩, ⟨w3, w4⟩, ⟨w5, w6⟩, w7⟩ := st_w1
  obtain ⟨tA, eA, TA⟩ := va_Tof (args := #[Value.ref b]) (s := s) (tm := .static "CoatsByLot" "ABOVE" "[I") (ty := .int) (N := 8) (f := fun j => .int (tAbove j)) (A := fun q => s.heap.size ≤ q) (by decide) (hs _ a1) (va_eqt (hs _ a2)) (fun j hj => va_eqt (hs _ (st_ab j hj))) hA
  obtain ⟨tB, eB, TB⟩ := va_Tof (args := #[Value.ref b]) (s := s) (tm := .static "CoatsByLot$Voices" "BODIES" "[I") (ty := .int) (N := 32) (f := fun j => .int (tBodies j)) (A := fun q => s.heap.size ≤ q) (by decide) (hs _ a3) (va_eqt (hs _ a4)) (fun j hj => va_eqt (hs _ (st_bo j hj))) hA
  obtain ⟨adK, adV, ⟨hS, -⟩, hK⟩ := vk_Sof (args := #[Value.ref b]) (s := s) (N := 2) (tm := fun i => (.string "CoatsByLot$Reader" (if i = 0 then 22 else 32))) (len := [5, 4]) (byt := [[nI 102, nI 103, nI 112, nI 113, nI 110], [nI 110, nI 108, nI 103, nI 98]]) (A := fun q => s.heap.size ≤ q) (by decide) (fun i hi => hs _ (st_x1 i hi)) (fun i hi => hs _ (st_x2 i hi)) (fun i hi => hs _ (st_x3 i hi)) (fun i hi => hs _ (st_x4 i hi)) (fun i hi j hj => hs _ (st_x5 i hi j hj)) (fun i j hi hj hij => by
    rcases (show (i = 0 ∧ j = 1) ∨ (i = 1 ∧ j = 0) by omega) with ⟨rfl, rfl⟩ | ⟨rfl, rfl⟩
    · exact Or.inl (hs _ st_x6)
    · exact Or.inr (hs _ st_x6)) hA
  refine ⟨fun k => if k = 1000 then b else if k = 1001 then tA else if k = 1002 then tB else if k = 1003 then adV 0 else if k = 1004 then adV 1 else if k = 1005 then adK 0 else adK 1, rfl, ⟨Nat.le_refl _, fun w hw => va_Nw.of (st_nest w hw).2 (hts w (st_nest w hw).1), va_AOA.of (hts _ w7)⟩, fun k h1 h2 => ?_, fun k h1 h2 => ?_, va_Zref (hts _ w1) (hts _ w2) eA hA, va_Zref (hts _ w3) (hts _ w4) eB hA, va_Zof (hts _ w5) (hts _ w6) (va_eqi (hs _ a5)) hA, fun k h1 h2 i tx hm ht => ?_⟩
  · rcases (show k = 1000 ∨ k = 1001 ∨ k = 1002 ∨ k = 1003 ∨ k = 1004 by omega) with rfl | rfl | rfl | rfl | rfl
    · obtain ⟨scr, g1, g2, g3, g4, g5⟩ := hX
      exact ⟨scr, g1, g2, g3, Nat.le_of_eq g4.symm, by rw [g4]; rfl, g5, hA b hb⟩
    · exact TA
    · exact TB
    · exact (hS 0 (by decide)).2.2.2
    · exact (hS 1 (by decide)).2.2.2
  · rcases (show k = 1005 ∨ k = 1006 by omega) with rfl | rfl
    · exact ⟨(hS 0 (by decide)).1, (hS 0 (by decide)).2.1, (hS 0 (by decide)).2.2.1⟩
    · exact ⟨(hS 1 (by decide)).1, (hS 1 (by decide)).2.1, (hS 1 (by decide)).2.2.1⟩
  · have h3 := List.all_eq_true.mp st_sr _ hm
    simp only [decide_true, Bool.not_true, Bool.false_or, Bool.or_eq_true, Bool.and_eq_true, decide_eq_true_eq] at h3
    rcases (show k = 1005 ∨ k = 1006 by omega) with rfl | rfl
    · rw [if_pos rfl] at ht
      rcases h3 with ⟨rfl, -⟩ | ⟨-, h4⟩
      · exact ⟨hts _ hm, hK 0 (by decide)⟩
      · rw [ht] at h4
        exact absurd h4 (by decide)
    · rw [if_neg (by decide)] at ht
      rcases h3 with ⟨-, h4⟩ | ⟨rfl, -⟩
      · rw [ht] at h4
        exact absurd h4 (by decide)
      · exact ⟨hts _ hm, hK 1 (by decide)⟩
theorem st_K {s : State} {args : Array Value} (hw : ∀ w ∈ rf_words, w.before args s = true) : ∃ D : va_G, va_K D vwCl [] s := by
  have h : ∀ c : Nat, ∃ q : ClassId × (Nat → Nat), ∀ r : vw_C, vwCl[c]? = some r → u_Kn s r.1 r.2.1 r.2.2 q.1 q.2 := by
    intro c
    by_cases hc : c < 13
    · obtain ⟨e1, e2, -, -, e5, -⟩ := rf_cls_ok c hc
      obtain ⟨cC, iS, hk⟩ := u_known hw e2 (hw _ e5)
      refine ⟨(cC, iS), fun r hr => ?_⟩
      rw [e1] at hr
      cases hr
      exact hk
    · exact ⟨(0, fun _ => 0), fun r hr => absurd (List.getElem?_eq_some_iff.mp hr).1 hc⟩
  obtain ⟨D, hD⟩ := Classical.axiomOfChoice h
  exact ⟨(fun c => (D c).1, fun c => (D c).2), fun c q hq => hD c q hq, fun k q hk => by cases hk⟩
theorem st_Rm : rf_Rm tSc room_1 62 0 108 := ⟨Nat.le_of_ble_eq_true rfl, Nat.le_of_ble_eq_true rfl, Nat.le_of_ble_eq_true rfl, by decide +kernel⟩
theorem st_sl : rf_sl tSc 108 - rf_sl tSc 0 ≤ 7302250 := by decide +kernel
theorem whole_start {p : Program} {e : Env} {s : State} {m : MethodId} {below : List Frame} {meth : Method} {c : Code} (l : Launch) (hflags : l.flags = flags0) {b L : Nat} {xs : Nat → Int32} (hL : L ≤ 384) (C0 : lw_At p s m meth c b L xs) (hnm : meth.name = "law") : W p l e room_1 s m #[Value.ref b] below meth c s.heap [] 0 0 (lw_Z below #[Value.ref b] s) (entryFrame m ([Value.ref b] : List Value).toArray 4) := by
  obtain ⟨hx, hcd, hrt, hml, hown, hts, hX, hbl, hlocks, hgv⟩ := C0
  obtain ⟨ad, hb, hE⟩ := st_Ex hts hX hbl hgv
  have hw : ∀ w ∈ rf_words, w.before #[Value.ref b] s = true := fun w hw => hts w (List.mem_filter.mp hw).1
  obtain ⟨D, hK⟩ := st_K hw
  obtain ⟨σ', hlaw⟩ := law_all (Ln := L) (xs := xs) hL
  subst hb
  have hC : rf_Cx ML_law p s m #[Value.ref (ad 1000)] meth c := ⟨hx, hcd, hml, hown, hw, hrt, hlocks, hnm⟩
  have hWd : rf_Wd tSc s.heap.size D ad (fun _ => 0) 0 (z0, z0) s s.heap := ⟨Nat.zero_le _, fun k hk => absurd hk (Nat.not_lt_zero _), fun k q hk => (by cases hk), ⟨fun i j p q hi => (by cases hi), fun k q hk => (by cases hk)⟩, hK, fun k hk => absurd hk (Nat.not_lt_zero _)⟩
  rw [lg_entry_eq]
  refine hlaw p l e room_1 s m #[Value.ref (ad 1000)] below meth c s.heap.size D ad 0 (lw_Z below #[Value.ref (ad 1000)] s) hC st_Rm hE ?_ ad (fun _ => 0) s.heap [] _ (fun _ _ => rfl) (Nat.le_refl _) (Nat.zero_le _) hWd va_S.rf (rf_ent_Lv ad (vs := [.ref 1000]) (nL := 4) (by decide))
  intro ad' cid' H locs ls pc a1 a2 a4 a5 hdec hnar
  refine va_forget (fun q hq => a5.2.2 q hq) ?_
  exact W.widen (k := 600000) (n := 7302250) (Nat.le_of_ble_eq_true rfl) st_sl (lw_ret hx hcd hrt hlocks hdec)
