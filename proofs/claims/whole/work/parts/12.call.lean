theorem rf_good {y : MethodName} {b : ByteArray} {k : Nat} {t : Option FieldType} (h : Cond.code y b k t ∈ rf_words) : GoodIn rf_words (.code y b k t :: rf_words) := by
  intro w hw
  have hm : w ∈ rf_words := by
    rcases List.mem_cons.mp hw with rfl | h1
    · exact h
    · exact h1
  exact ⟨hm, good_of_word (List.mem_filter.mp hm).2⟩
theorem rf_blind {T : rf_Tb} {lo : Nat} {D : va_G} {ad : Nat → Nat} {cid : Nat → ClassId} {n : Nat} {σ : rf_Mem} {av : List Value} : FrameBlind (va_Pc av (fun U => rf_Ex T.2 lo ad U ∧ rf_Wd T.1 lo D ad cid n σ U U.heap)) := by
  intro a U g mk h
  exact ⟨h.1, rf_Ex_same (s := U) (U := U.calling g mk a) rfl rfl h.2.1, rf_Wd_moved (s := U) (U := U.calling g mk a) (Vm.Alike.refl U.vm) h.2.2⟩
theorem rf_map_cat (ad : Nat → Nat) (st : List Value) : ((st.map (rf_cv ad)).map fun v => v.category) = st.map fun v => v.category := by
  rw [List.map_map]
  exact List.map_congr_left fun v _ => rf_cv_cat ad v
theorem rf_recv {T : rf_Tb} {lo : Nat} {D : va_G} {ad0 ad : Nat → Nat} {cid : Nat → ClassId} {n n0 b : Nat} {σ : rf_Mem} {s : State} {H : Heap} {locs : List Loc} {C : String} (hE : rf_Ex T.2 lo ad0 s) (hag : rf_ag n0 ad0 ad) (hw : rf_Wd T.1 lo D ad cid n σ s H) (hS : va_S (fun q => lo ≤ q) s.heap H locs) (h : rf_rc T n b C = true) : ∃ cell : Cell, H[ad b]? = some cell ∧ cell.vm.isStatics = false ∧ s.vm.findClass C = some cell.cls := by
  unfold rf_rc at h
  cases hb : Nat.blt b 500 with
  | true =>
    rw [hb, cond_true] at h
    split at h
    · rename_i ci hk
      simp only [Bool.and_eq_true, Nat.blt_eq, decide_eq_true_eq] at h
      obtain ⟨⟨h1, h2⟩, rfl⟩ := h
      have hg := rf_ws_get (T := T.1) (ad := ad) (cid := cid) (σ := σ) h2
      rw [rf_enc_obj _ _ hk] at hg
      exact va_recv hw.2.2.2.2.1 hw.2.2.1 (rf_cls_ok ci h1).1 hg
    · cases h
  | false =>
    rw [hb, cond_false] at h
    simp only [Bool.and_eq_true, Nat.ble_eq, decide_eq_true_eq] at h
    obtain ⟨⟨h1, h2⟩, rfl⟩ := h
    rw [hag b (Or.inr (by omega))]
    obtain ⟨cell, g1, g2, g3, -⟩ := (hE.2.2.1 b h1 h2).1.kept hS.2.1
    exact ⟨cell, g1, g2, g3⟩
section RFD
variable {T : rf_Tb} {M M2 : rf_M} {d d2 pc idx z zc zi zm zs b n n1 n' : Nat} {L L2 : List (Option Value)} {sk st As : List Value} {σ σ1 σ' : rf_Mem} {r r1 : Option Value}
theorem rf_call_end {p : Program} {l : Launch} {e : Env} {R : Room} {s : State} {m : MethodId} {args : Array Value} {below : List Frame} {meth : Method} {c : Code} {lo : Nat} {D : va_G} {ad0 : Nat → Nat} {n0 : Nat} {Q : State → Prop} {H : Heap} {locs : List Loc} {ls : Array Slot} {ad : Nat → Nat} {a : Array Value}
    (k : rf_Ht T M p l e R s m args below meth c lo D ad0 n0 n' Q (pc + 3) (L, r1.toList ++ st, n1, σ1)) (hfo : rf_fo n L st = true) (h0 : n0 ≤ n) (hn : n ≤ n1) (hn1 : n1 ≤ n') (a1 : rf_ag n0 ad0 ad) (a5 : va_S (fun q => lo ≤ q) s.heap H locs) (a6 : rf_Lv ad ls M.2.2.1 L)
    (hr : va_Run p l e R s m args below meth c H locs (n - n0) (rf_sl T.1 n - rf_sl T.1 n0) (n1 - n) (rf_sl T.1 n1 - rf_sl T.1 n) (F0 m pc ls (sk.map (rf_cv ad))) (st.map (rf_cv ad)) (rf_Qc T lo D ad n r1 n1 σ1 a) (fun q => lo ≤ q)) :
    W p l e R s m args below meth c H locs (n - n0) (rf_sl T.1 n - rf_sl T.1 n0) Q (F0 m pc ls (sk.map (rf_cv ad))) := by
  simp only [rf_fo, Bool.and_eq_true] at hfo
  refine rf_after hr a5 (fun ad' cid' H1 locs1 hag hw hS => ?_)
  have e1 := rf_sl_mono T.1 h0
  have e2 := rf_sl_mono T.1 hn
  have k1 := k ad' cid' H1 locs1 ls (fun j hj => by rw [hag j (by omega)]; exact a1 j hj) (Nat.le_trans h0 hn) hn1 hw hS ⟨a6.1, a6.2.1, a6.2.2.1, fun i v hi => by
    rw [rf_okv_cv hag (show rf_okv n v = true from List.all_eq_true.mp hfo.1 _ (List.mem_of_getElem? hi))]
    exact a6.2.2.2 i v hi⟩
  have es : (r1.toList ++ st).map (rf_cv ad') = (r1.map (rf_cv ad')).toList ++ st.map (rf_cv ad) := by
    rw [List.map_append, List.map_congr_left (l := st) (f := rf_cv ad') (g := rf_cv ad) fun v hv => rf_okv_cv hag (List.all_eq_true.mp hfo.2 v hv)]
    cases r1 <;> rfl
  simp only [es] at k1
  exact W.widen (k := n1 - n0) (n := rf_sl T.1 n1 - rf_sl T.1 n0) (by omega) (by omega) k1
/-- an object's method -/
theorem rf_callV (hm : rf_mk M2 0 As.length zc zi zm zs = true) (hk : rf_kc M pc idx z M2.1 0 = true) (hsk : sk = As.reverse ++ .ref b :: st) (hrc : rf_rc T n b M2.1.cls = true) (hfo : rf_fo n L st = true) (hcat : Nat.ble (st.map fun v => v.category).sum 8 = true) (hL2 : rf_ent M2.2.2.1 (.ref b :: As) = L2) (hlen : Nat.ble (rf_e1 (.ref b :: As)).length M2.2.2.1 = true)
    (hn : n ≤ n1) (hn1 : n1 ≤ n') (hd : d2 + 1 ≤ d) (hc : rf_At T M2 d2 0 (L2, [], n, σ) r1 n1 σ1) (k : rf_At T M d (pc + 3) (L, r1.toList ++ st, n1, σ1) r n' σ') : rf_At T M d pc (L, sk, n, σ) r n' σ' := by
  subst hsk
  subst hL2
  simp only [rf_mk, Bool.and_eq_true, decide_eq_true_eq, Nat.ble_eq] at hm
  obtain ⟨⟨⟨w1, w2⟩, w3, w4⟩, ⟨⟨⟨y1, y2⟩, y3⟩, y4⟩, y5⟩ := hm
  simp only [rf_kc, Bool.and_eq_true, decide_eq_true_eq] at hk
  obtain ⟨hdg, w5⟩ := hk
  intro p l e R s m args below meth c lo D ad0 n0 Q hC hR hE hf ad cid H locs ls a1 a2 a3 a4 a5 a6
  obtain ⟨hx, hb, hml, hown, hts, hrt, hlocks, hnm⟩ := id hC
  have a2 : n0 ≤ n := a2
  have e1 := rf_sl_mono T.1 a2
  have e2 := rf_sl_mono T.1 hn
  have e3 := rf_sl_mono T.1 hn1
  have hM := rf_met y4 (Nat.le_of_ble_eq_true hlen) hn hc l lo D ad cid
  have hcb : CallB R s args M.1.cls idx M2.1 M2.2.1 M2.2.2.1 M2.2.2.2 (.code M2.1 M2.2.1 M2.2.2.1 M2.2.2.2 :: rf_words) (rf_rm T.1 d2 n n1) (n1 - n) (rf_sl T.1 n1 - rf_sl T.1 n) As.length :=
    callB_of _ hts (rf_good (rf_hw_w w1)) rfl rfl rfl (hts _ (rf_hw_w w2)) (hts _ (rf_hw_w w5)) ⟨y1, y2, y3⟩ ⟨by show d2 + 1 ≤ R.frames; have := hR.1; omega, by show 8 + (M2.2.2.1 + 11) + 50 * d2 ≤ R.locals; have := hR.2.1; omega⟩
  refine rf_call_end (sk := As.reverse ++ .ref b :: st) (k p l e R s m args below meth c lo D ad0 n0 Q hC hR hE hf) hfo a2 hn hn1 a1 a5 a6 (a := (Value.ref (ad b) :: As.map (rf_cv ad)).toArray) ?_
  refine va_runV (As := As.map (rf_cv ad)) (b := ad b) (rest := st.map (rf_cv ad)) ⟨hx, hb, hml, hown, hts⟩ hM ⟨hcb, hts _ (rf_hw_w w3), hts _ (rf_hw_w w4)⟩ ⟨rf_blind, rf_recv hE a1 a4 a5 hrc, fun U hU hW => ⟨rfl, rf_Ex_moved hW (by rw [hU]; exact a5) (fun k hk => a1 k (Or.inr hk)) hE, by rw [hU]; exact rf_Wd_moved hW.alike a4⟩⟩ rfl (by rw [List.length_map]) a6.2.1 ?_ ?_ hdg ?_
  · show (As.reverse ++ .ref b :: st).map (rf_cv ad) = _
    rw [List.map_append, List.map_reverse, List.map_cons]
    rfl
  · exact lv_room (by rw [rf_map_cat]; exact Nat.le_of_ble_eq_true hcat)
  · have hroom : (n - n0) + (n1 - n) ≤ R.cells ∧ (rf_sl T.1 n - rf_sl T.1 n0) + (rf_sl T.1 n1 - rf_sl T.1 n) ≤ R.slots := by
      obtain ⟨-, -, r3, r4⟩ := hR
      exact ⟨by omega, by omega⟩
    exact hroom
/-- a constructor -/
theorem rf_callI (hm : rf_mk M2 2 As.length zc zi zm zs = true) (hk : rf_kc M pc idx z M2.1 2 = true) (hsk : sk = As.reverse ++ .ref b :: st) (hfo : rf_fo n L st = true) (hcat : Nat.ble (st.map fun v => v.category).sum 8 = true) (hL2 : rf_ent M2.2.2.1 (.ref b :: As) = L2) (hlen : Nat.ble (rf_e1 (.ref b :: As)).length M2.2.2.1 = true)
    (hn : n ≤ n1) (hn1 : n1 ≤ n') (hd : d2 + 1 ≤ d) (hc : rf_At T M2 d2 0 (L2, [], n, σ) r1 n1 σ1) (k : rf_At T M d (pc + 3) (L, r1.toList ++ st, n1, σ1) r n' σ') : rf_At T M d pc (L, sk, n, σ) r n' σ' := by
  subst hsk
  subst hL2
  simp only [rf_mk, Bool.and_eq_true, decide_eq_true_eq, Nat.ble_eq] at hm
  obtain ⟨⟨⟨w1, w2⟩, ⟨w3, w4⟩, w6⟩, ⟨⟨⟨y1, y2⟩, y3⟩, y4⟩, y5⟩ := hm
  simp only [rf_kc, Bool.and_eq_true, decide_eq_true_eq] at hk
  obtain ⟨hdg, w5⟩ := hk
  intro p l e R s m args below meth c lo D ad0 n0 Q hC hR hE hf ad cid H locs ls a1 a2 a3 a4 a5 a6
  obtain ⟨hx, hb, hml, hown, hts, hrt, hlocks, hnm⟩ := id hC
  have a2 : n0 ≤ n := a2
  have e1 := rf_sl_mono T.1 a2
  have e2 := rf_sl_mono T.1 hn
  have e3 := rf_sl_mono T.1 hn1
  have hM := rf_met y4 (Nat.le_of_ble_eq_true hlen) hn hc l lo D ad cid
  have hcb : CallB R s args M.1.cls idx M2.1 M2.2.1 M2.2.2.1 M2.2.2.2 (.code M2.1 M2.2.1 M2.2.2.1 M2.2.2.2 :: rf_words) (rf_rm T.1 d2 n n1) (n1 - n) (rf_sl T.1 n1 - rf_sl T.1 n) As.length :=
    callB_of _ hts (rf_good (rf_hw_w w1)) rfl rfl rfl (hts _ (rf_hw_w w2)) (hts _ (rf_hw_w w5)) ⟨y1, y2, y3⟩ ⟨by show d2 + 1 ≤ R.frames; have := hR.1; omega, by show 8 + (M2.2.2.1 + 11) + 50 * d2 ≤ R.locals; have := hR.2.1; omega⟩
  rw [w6] at hM hcb
  refine rf_call_end (sk := As.reverse ++ .ref b :: st) (k p l e R s m args below meth c lo D ad0 n0 Q hC hR hE hf) hfo a2 hn hn1 a1 a5 a6 (a := (Value.ref (ad b) :: As.map (rf_cv ad)).toArray) ?_
  refine va_runI (As := As.map (rf_cv ad)) (b := ad b) (rest := st.map (rf_cv ad)) ⟨hx, hb, hml, hown, hts⟩ hM ⟨hcb, w4, hts _ (rf_hw_w w3)⟩ ⟨rf_blind, fun U hU hW => ⟨rfl, rf_Ex_moved hW (by rw [hU]; exact a5) (fun k hk => a1 k (Or.inr hk)) hE, by rw [hU]; exact rf_Wd_moved hW.alike a4⟩⟩ rfl (by rw [List.length_map]) a6.2.1 ?_ ?_ hdg ?_
  · show (As.reverse ++ .ref b :: st).map (rf_cv ad) = _
    rw [List.map_append, List.map_reverse, List.map_cons]
    rfl
  · exact lv_room (by rw [rf_map_cat]; exact Nat.le_of_ble_eq_true hcat)
  · have hroom : (n - n0) + (n1 - n) ≤ R.cells ∧ (rf_sl T.1 n - rf_sl T.1 n0) + (rf_sl T.1 n1 - rf_sl T.1 n) ≤ R.slots := by
      obtain ⟨-, -, r3, r4⟩ := hR
      exact ⟨by omega, by omega⟩
    exact hroom
/-- a static method -/
theorem rf_callS (hm : rf_mk M2 1 As.length zc zi zm zs = true) (hk : rf_kc M pc idx z M2.1 1 = true) (hsk : sk = As.reverse ++ st) (hfo : rf_fo n L st = true) (hcat : Nat.ble (st.map fun v => v.category).sum 8 = true) (hL2 : rf_ent M2.2.2.1 As = L2) (hlen : Nat.ble (rf_e1 As).length M2.2.2.1 = true)
    (hn : n ≤ n1) (hn1 : n1 ≤ n') (hd : d2 + 1 ≤ d) (hc : rf_At T M2 d2 0 (L2, [], n, σ) r1 n1 σ1) (k : rf_At T M d (pc + 3) (L, r1.toList ++ st, n1, σ1) r n' σ') : rf_At T M d pc (L, sk, n, σ) r n' σ' := by
  subst hsk
  subst hL2
  simp only [rf_mk, Bool.and_eq_true, decide_eq_true_eq, Nat.ble_eq] at hm
  obtain ⟨⟨⟨w1, w2⟩, w3⟩, ⟨⟨⟨y1, y2⟩, y3⟩, y4⟩, y5⟩ := hm
  simp only [rf_kc, Bool.and_eq_true, Bool.or_eq_true, decide_eq_true_eq] at hk
  obtain ⟨hdg, w5⟩ := hk
  intro p l e R s m args below meth c lo D ad0 n0 Q hC hR hE hf ad cid H locs ls a1 a2 a3 a4 a5 a6
  obtain ⟨hx, hb, hml, hown, hts, hrt, hlocks, hnm⟩ := id hC
  have a2 : n0 ≤ n := a2
  have e1 := rf_sl_mono T.1 a2
  have e2 := rf_sl_mono T.1 hn
  have e3 := rf_sl_mono T.1 hn1
  have hM := rf_met y4 (Nat.le_of_ble_eq_true hlen) hn hc l lo D ad cid
  have hRR : (rf_rm T.1 d2 n n1).frames + 1 ≤ R.frames ∧ 8 + (M2.2.2.1 + 11) + (rf_rm T.1 d2 n n1).locals ≤ R.locals := ⟨by show d2 + 1 ≤ R.frames; have := hR.1; omega, by show 8 + (M2.2.2.1 + 11) + 50 * d2 ≤ R.locals; have := hR.2.1; omega⟩
  have hst : (F0 m pc ls ((As.reverse ++ st).map (rf_cv ad))).stack = (As.map (rf_cv ad)).reverse ++ st.map (rf_cv ad) := by
    show (As.reverse ++ st).map (rf_cv ad) = _
    rw [List.map_append, List.map_reverse]
  have hroom : (n - n0) + (n1 - n) ≤ R.cells ∧ (rf_sl T.1 n - rf_sl T.1 n0) + (rf_sl T.1 n1 - rf_sl T.1 n) ≤ R.slots := by
    obtain ⟨-, -, r3, r4⟩ := hR
    exact ⟨by omega, by omega⟩
  refine rf_call_end (sk := As.reverse ++ st) (k p l e R s m args below meth c lo D ad0 n0 Q hC hR hE hf) hfo a2 hn hn1 a1 a5 a6 (a := (As.map (rf_cv ad)).toArray) ?_
  rcases w5 with w5 | w5
  · exact va_runS (As := As.map (rf_cv ad)) (rest := st.map (rf_cv ad)) ⟨hx, hb, hml, hown, hts⟩ hM ⟨callB_of _ hts (rf_good (rf_hw_w w1)) rfl rfl rfl (hts _ (rf_hw_w w2)) (hts _ (rf_hw_w w5)) ⟨y1, y2, y3⟩ hRR, hts _ (rf_hw_w w3)⟩ ⟨rf_blind, fun U hU hW => ⟨rfl, rf_Ex_moved hW (by rw [hU]; exact a5) (fun k hk => a1 k (Or.inr hk)) hE, by rw [hU]; exact rf_Wd_moved hW.alike a4⟩⟩ rfl (by rw [List.length_map]) a6.2.1 hst (lv_room (by rw [rf_map_cat]; exact Nat.le_of_ble_eq_true hcat)) hdg hroom
  · exact va_runSN (As := As.map (rf_cv ad)) (rest := st.map (rf_cv ad)) ⟨hx, hb, hml, hown, hts⟩ hM ⟨va_cnB _ hts (rf_good (rf_hw_w w1)) rfl rfl rfl (hE.1.2.1 _ (rf_nest_m rfl w5)) (hts _ (rf_hw_w w2)) ⟨y1, y2, y3⟩ hRR, hts _ (rf_hw_w w3), trivial⟩ ⟨rf_blind, fun U hU hW => ⟨rfl, rf_Ex_moved hW (by rw [hU]; exact a5) (fun k hk => a1 k (Or.inr hk)) hE, by rw [hU]; exact rf_Wd_moved hW.alike a4⟩⟩ rfl (by rw [List.length_map]) a6.2.1 hst (lv_room (by rw [rf_map_cat]; exact Nat.le_of_ble_eq_true hcat)) hdg hroom
end RFD
