/-! ===== calls ===== -/
theorem rf_Wd_moved {T : Nat → rf_Sh} {lo : Nat} {D : va_G} {ad : Nat → Nat} {cid : Nat → ClassId} {n : Nat} {σ : rf_Mem} {s U : State} {H : Heap} (hvm : s.vm.Alike U.vm) (h : rf_Wd T lo D ad cid n σ s H) : rf_Wd T lo D ad cid n σ U H :=
  ⟨h.1, h.2.1, h.2.2.1, h.2.2.2.1, va_K.moved hvm h.2.2.2.2.1, fun k hk hk2 => ⟨arrOfT_moved hvm (h.2.2.2.2.2 k hk hk2).1, (h.2.2.2.2.2 k hk hk2).2.moved hvm⟩⟩
theorem rf_AOA_moved {ty : FieldType} {s U : State} (hvm : s.vm.Alike U.vm) (h : va_AOA ty s) : va_AOA ty U := by
  have e := Cond.arrayOver_setVmC (args := #[]) hvm (.array ty)
  have h2 : (Cond.arrayOver (.array ty)).before #[] (s.setVm U.vm) = true := by rw [e]; exact h
  exact h2
theorem rf_nest_kind {w : Cond} (h : w ∈ rf_nest) : (∃ a i x h, w = .methodLinkNest a i x h) ∨ ∃ a i b n d h, w = .fieldLinkNest a i b n d h := by
  have h1 := (List.mem_filter.mp h).2
  split at h1
  · exact Or.inl ⟨_, _, _, _, rfl⟩
  · exact Or.inr ⟨_, _, _, _, _, _, rfl⟩
  · cases h1
theorem rf_Ex_moved {E : Nat → Nat × Nat × (Nat → Int32)} {lo : Nat} {ad0 ad : Nat → Nat} {s U : State} {locs : List Loc} (hW : s.WarmedH U.vm) (hS : va_S (fun q => lo ≤ q) s.heap U.heap locs) (hag : ∀ k, 500 ≤ k → ad k = ad0 k) (h : rf_Ex E lo ad0 s) : rf_Ex E lo ad U := by
  obtain ⟨⟨h1, h2, h3⟩, h4, h5, h6, h7, h8, h9⟩ := h
  have hal := hW.alike
  refine ⟨⟨Nat.le_trans h1 hS.1, fun w hw => ?_, rf_AOA_moved hal h3⟩, fun k k1 k2 => ?_, fun k k1 k2 => ?_, ?_, ?_, (h8.moved hal).kept hS.2.1, fun k k1 k2 i tx hi ht => ?_⟩
  · rcases rf_nest_kind hw with ⟨a, i, x, g, rfl⟩ | ⟨a, i, b, n, d, g, rfl⟩
    · exact va_Nw.warmM hW (h2 _ hw)
    · exact va_Nw.warmF hW (h2 _ hw)
  · rw [hag k (by omega)]
    exact ((h4 k k1 k2).moved hal).kept hS.2.1
  · rw [hag k (by omega), hag (k - 2) (by omega)]
    obtain ⟨g1, g2, g3⟩ := h5 k k1 k2
    exact ⟨(g1.moved hal).kept hS.2.1, (g2.moved hal).kept hS.2.1, (g3.moved hal).kept hS.2.1⟩
  · rw [hag 1001 (by decide)]
    exact (h6.moved hal).kept hS.2.1
  · rw [hag 1002 (by decide)]
    exact (h7.moved hal).kept hS.2.1
  · rw [hag k (by omega)]
    exact vk_R.warm hW (h9 k k1 k2 i tx hi ht)
theorem rf_Ex_same {E : Nat → Nat × Nat × (Nat → Int32)} {lo : Nat} {ad : Nat → Nat} {s U : State} (hv : U.vm = s.vm) (hh : U.heap = s.heap) (h : rf_Ex E lo ad s) : rf_Ex E lo ad U := by
  obtain ⟨⟨h1, h2, h3⟩, h4, h5, h6, h7, h8, h9⟩ := h
  have hal : s.vm.Alike U.vm := by rw [hv]; exact Vm.Alike.refl _
  rw [← hh] at h1 h4 h5 h6 h7 h8
  refine ⟨⟨h1, fun w hw => ?_, rf_AOA_moved hal h3⟩, fun k k1 k2 => (h4 k k1 k2).moved hal, fun k k1 k2 => ?_, h6.moved hal, h7.moved hal, h8.moved hal, fun k k1 k2 i tx hi ht => vk_R.same hv (h9 k k1 k2 i tx hi ht)⟩
  · rcases rf_nest_kind hw with ⟨a, i, x, g, rfl⟩ | ⟨a, i, b, n, d, g, rfl⟩
    · exact va_Nw.same rfl hv.symm (h2 _ hw)
    · exact va_Nw.same rfl hv.symm (h2 _ hw)
  · obtain ⟨g1, g2, g3⟩ := h5 k k1 k2
    exact ⟨g1.moved hal, g2.moved hal, g3.moved hal⟩
/-- the locals with which a method begins -/
def rf_e1 : List Value → List (Option Value)
  | [] => []
  | v :: vs => match v with
    | .long a => some (.long a) :: none :: rf_e1 vs
    | .double a => some (.double a) :: none :: rf_e1 vs
    | v => some v :: rf_e1 vs
theorem rf_e1_cons (v : Value) (vs : List Value) : rf_e1 (v :: vs) = (if v.category = 2 then [some v, none] else [some v]) ++ rf_e1 vs := by cases v <;> rfl
theorem rf_e1_len (ad : Nat → Nat) : ∀ vs : List Value, (lg_sl (vs.map (rf_cv ad))).length = (rf_e1 vs).length
  | [] => rfl
  | v :: vs => by
    rw [rf_e1_cons, List.map_cons]
    unfold lg_sl
    rw [List.flatMap_cons, List.length_append, List.length_append]
    have h := rf_e1_len ad vs
    unfold lg_sl at h
    rw [h, rf_cv_cat]
    rcases lv_cat v with e | e <;> simp [e]
theorem rf_e1_args (ad : Nat → Nat) : ∀ (vs : List Value) (i j : Nat) (v : Value), (rf_e1 vs)[j]? = some (some v) → (i + j, rf_cv ad v) ∈ lv_args i (vs.map (rf_cv ad))
  | [], i, j, v, h => by simp [rf_e1] at h
  | u :: vs, i, j, v, h => by
    rw [rf_e1_cons] at h
    rw [List.map_cons, lv_args, rf_cv_cat]
    rcases lv_cat u with e | e
    · simp only [e, show ¬ (1 : Nat) = 2 by omega, if_false] at h ⊢
      match j, h with
      | 0, h =>
        simp at h
        subst h
        exact List.mem_cons_self
      | j + 1, h =>
        have := rf_e1_args ad vs (i + 1) j v (by simpa using h)
        rw [show i + 1 + j = i + (j + 1) by omega] at this
        exact List.mem_cons_of_mem _ this
    · simp only [e, if_true] at h ⊢
      match j, h with
      | 0, h =>
        simp at h
        subst h
        exact List.mem_cons_self
      | 1, h => simp at h
      | j + 2, h =>
        have := rf_e1_args ad vs (i + 2) j v (by simpa using h)
        rw [show i + 2 + j = i + (j + 2) by omega] at this
        exact List.mem_cons_of_mem _ this
def rf_ent (nL : Nat) (vs : List Value) : List (Option Value) := rf_e1 vs ++ List.replicate (nL - (rf_e1 vs).length) none
theorem rf_ent_Lv (ad : Nat → Nat) {vs : List Value} {nL : Nat} (h : (rf_e1 vs).length ≤ nL) : rf_Lv ad ((lg_sl (vs.map (rf_cv ad)) ++ List.replicate (nL - (lg_sl (vs.map (rf_cv ad))).length) Slot.unset).toArray) nL (rf_ent nL vs) := by
  obtain ⟨h1, h2, h3⟩ := lv_entry (vs.map (rf_cv ad)) (n := nL) (by rw [rf_e1_len]; exact h)
  refine ⟨by simp [rf_ent]; omega, h1, h2, fun i v hi => ?_⟩
  unfold rf_ent at hi
  by_cases hl : i < (rf_e1 vs).length
  · rw [List.getElem?_append_left hl] at hi
    have := rf_e1_args ad vs 0 i v hi
    rw [Nat.zero_add] at this
    exact h3 _ this
  · rw [List.getElem?_append_right (by omega), List.getElem?_replicate] at hi
    split at hi <;> cases hi
def rf_Qc (T : rf_Tb) (lo : Nat) (D : va_G) (ad : Nat → Nat) (n : Nat) (r1 : Option Value) (n1 : Nat) (σ1 : rf_Mem) : Array Value → State → Outcome → State → Prop := fun _ st oc t =>
  ∃ (ad' : Nat → Nat) (cid' : Nat → ClassId), oc = .returned (r1.map (rf_cv ad')) ∧ rf_ag n ad ad' ∧ rf_Wd T.1 lo D ad' cid' n1 σ1 t t.heap ∧ va_F (fun q => lo ≤ q) st t
theorem rf_met {T : rf_Tb} {M2 : rf_M} {d n n1 : Nat} {σ σ1 : rf_Mem} {r1 : Option Value} {vs : List Value} (hpl : plainName M2.1.cls = true) (hlen : (rf_e1 vs).length ≤ M2.2.2.1) (hn : n ≤ n1) (hc : rf_At T M2 d 0 (rf_ent M2.2.2.1 vs, [], n, σ) r1 n1 σ1) (l : Launch) (lo : Nat) (D : va_G) (ad : Nat → Nat) (cid : Nat → ClassId) :
    Met l M2.1 (.code M2.1 M2.2.1 M2.2.2.1 M2.2.2.2 :: rf_words) (rf_rm T.1 d n n1) (va_Pc (vs.map (rf_cv ad)) (fun U => rf_Ex T.2 lo ad U ∧ rf_Wd T.1 lo D ad cid n σ U U.heap)) (rf_Qc T lo D ad n r1 n1 σ1) (n1 - n) (rf_sl T.1 n1 - rf_sl T.1 n) (fun q => lo ≤ q) := by
  refine Met.ofW (cc := M2.2.1) (maxL := M2.2.2.1) (ret := M2.2.2.2) hpl rfl ?_
  intro p e s m args below meth c s₁ B hml hv
  obtain ⟨rfl, hE, hw⟩ := hv
  have hts := atoms_spec (ws := .code M2.1 M2.2.1 M2.2.2.1 M2.2.2.2 :: rf_words) B.pre
  have hlocks := B.notSynchronized
  have hC : rf_Cx M2 p s m (vs.map (rf_cv ad)).toArray meth c := ⟨B.exec, B.bytes, hml, findClass_of_methodNamed B.named, fun w hw => hts w (List.mem_cons_of_mem _ hw), B.returns, hlocks, (name_of_methodNamed B.named B.method).1⟩
  rw [lg_entry_eq]
  have hR : rf_Rm T.1 (rf_rm T.1 d n n1) d n n1 := ⟨Nat.le_refl _, Nat.le_refl _, Nat.le_refl _, Nat.le_refl _⟩
  have K := hc p l e (rf_rm T.1 d n n1) s m (vs.map (rf_cv ad)).toArray below meth c lo D ad n (MQ below (rf_Qc T lo D ad n r1 n1 σ1) (vs.map (rf_cv ad)).toArray s (n1 - n) (rf_sl T.1 n1 - rf_sl T.1 n) (fun q => lo ≤ q)) hC hR hE ?_ ad cid s.heap [] _ (fun _ _ => rfl) (Nat.le_refl _) hn hw va_S.rf (rf_ent_Lv ad hlen)
  · simp only [Nat.sub_self] at K
    exact K
  · intro ad' cid' H locs ls pc a1 a2 a4 a5 hdec hnar
    have hq : ∀ t : State, t.heap = H → s.WarmedH t.vm → rf_Qc T lo D ad n r1 n1 σ1 (vs.map (rf_cv ad)).toArray s (.returned (r1.map (rf_cv ad'))) t := fun t ht hW => ⟨ad', cid', rfl, a1, by rw [ht]; exact rf_Wd_moved hW.alike a4, a5.F ht⟩
    match r1, hdec, hnar, hq with
    | none, hdec, hnar, hq => exact W.vret B.exec B.bytes (B.returns.trans hnar) hq a5.2.2 hdec
    | some (.int v), hdec, hnar, hq =>
      obtain ⟨ty, h1, h2⟩ := hnar
      exact W.zret B.exec B.bytes (B.returns.trans h1) h2 hq a5.2.2 hdec
    | some (.long v), hdec, hnar, hq => exact W.lret B.exec B.bytes (B.returns.trans hnar) hq a5.2.2 hdec
    | some (.ref v), hdec, hnar, hq =>
      obtain ⟨C, h1⟩ := hnar
      exact W.aret B.exec B.bytes (B.returns.trans h1) (Or.inl ⟨C, rfl⟩) (Or.inr ⟨_, rfl⟩) hq a5.2.2 hdec
section RFC
variable {T : rf_Tb} {M : rf_M} {p : Program} {l : Launch} {e : Env} {R : Room} {s : State} {m : MethodId} {args : Array Value} {below : List Frame} {meth : Method} {c : Code} {lo : Nat} {D : va_G} {ad0 : Nat → Nat} {n0 n' : Nat} {Q : State → Prop} {d pc pc' : Nat} {H : Heap} {locs : List Loc} {cells slots mc ms n n1 : Nat} {ls : Array Slot} {st0 rest : List Value} {ad : Nat → Nat} {σ1 : rf_Mem} {r1 : Option Value} {a : Array Value}
theorem rf_after (hr : va_Run p l e R s m args below meth c H locs cells slots mc ms (F0 m pc ls st0) rest (rf_Qc T lo D ad n r1 n1 σ1 a) (fun q => lo ≤ q)) (hS : va_S (fun q => lo ≤ q) s.heap H locs)
    (kk : ∀ (ad' : Nat → Nat) (cid' : Nat → ClassId) (H1 : Heap) (locs1 : List Loc), rf_ag n ad ad' → rf_Wd T.1 lo D ad' cid' n1 σ1 s H1 → va_S (fun q => lo ≤ q) s.heap H1 locs1 → W p l e R s m args below meth c H1 locs1 (cells + mc) (slots + ms) Q (F0 m (pc + 3) ls ((r1.map (rf_cv ad')).toList ++ rest))) : W p l e R s m args below meth c H locs cells slots Q (F0 m pc ls st0) := by
  intro U hU X
  obtain ⟨v, st₀, t, U', L, h0, X', hL, e1, e2, ⟨ad', cid', hv, hag, hw, hz, hk⟩, st⟩ := hr U hU X
  cases hv
  rw [h0] at hz hk
  have hal : s.vm.Alike t.vm := by rw [← e2]; exact X'.warmed.alike
  rw [← e1] at hw hz hk
  obtain ⟨t2, a1, b1⟩ := kk ad' cid' U'.heap (locs ++ L) hag (rf_Wd_moved hal.symm hw)
    ⟨Nat.le_trans hS.1 hz, fun q h1 h2 => by rw [hk q (Nat.lt_of_lt_of_le h1 hS.1) h2]; exact hS.2.1 q h1 h2, fun q hq => by
      rcases List.mem_append.mp hq with h | h
      · exact hS.2.2 q h
      · exact hL q h⟩ U' rfl X'
  exact ⟨t2, st t2 a1, b1⟩
end RFC
/-- what the tables say of a method: kind 0 of an object, 1 static, 2 a constructor -/
def rf_mk (M2 : rf_M) (kind nargs zc zi zm zs : Nat) : Bool :=
  rf_hw zc (.code M2.1 M2.2.1 M2.2.2.1 M2.2.2.2) && rf_hw zi (.initialized M2.1.cls) && (match kind with
    | 0 => rf_hw zm (.instanceMethod M2.1) && rf_hw zs (.selects M2.1.cls M2.1 M2.1)
    | 1 => rf_hw zm (.static M2.1)
    | _ => rf_hw zm (.instanceMethod M2.1) && decide (M2.1.name = "<init>") && decide (M2.2.2.2 = none)) &&
  (decide (M2.1.cls ≠ "java/lang/invoke/MethodHandle") && decide (M2.1.cls ≠ "java/lang/invoke/VarHandle") && decide ((parseMethodDescriptor M2.1.desc).map (fun d => d.parameters.length) = some nargs) && plainName M2.1.cls && Nat.ble M2.2.2.1 31)
/-- a call's place: its instruction, its word -/
def rf_kc (M : rf_M) (pc idx z : Nat) (y : MethodName) (kind : Nat) : Bool := match kind with
  | 0 => decide (decode M.2.1 pc = .ok (.invokevirtual idx, 3)) && rf_hw z (.methodLink M.1.cls idx y)
  | 1 => decide (decode M.2.1 pc = .ok (.invokestatic idx, 3)) && (rf_hw z (.methodLink M.1.cls idx y) || decide (lw_tbl[z]? = some (.methodLinkNest M.1.cls idx y "CoatsByLot")))
  | _ => decide (decode M.2.1 pc = .ok (.invokespecial idx, 3)) && rf_hw z (.methodLink M.1.cls idx y)
def rf_okv (n : Nat) : Value → Bool
  | .ref a => Nat.blt a n || Nat.ble 500 a
  | _ => true
def rf_oko (n : Nat) : Option Value → Bool
  | some v => rf_okv n v
  | none => true
def rf_fo (n : Nat) (L : List (Option Value)) (st : List Value) : Bool := L.all (rf_oko n) && st.all (rf_okv n)
theorem rf_okv_cv {n : Nat} {ad ad' : Nat → Nat} {v : Value} (hag : rf_ag n ad ad') (h : rf_okv n v = true) : rf_cv ad' v = rf_cv ad v := by
  refine rf_cv_eq fun a e => ?_
  subst e
  simp only [rf_okv, Bool.or_eq_true, Nat.blt_eq, Nat.ble_eq] at h
  exact hag a h
/-- the receiver: an object of the world, or a text -/
def rf_rc (T : rf_Tb) (n b : Nat) (C : String) : Bool := cond (Nat.blt b 500) (match (T.1 b).1 with
  | ci + 3 => Nat.blt ci 13 && Nat.blt b n && decide ((rf_cls ci).1 = C)
  | _ => false) (Nat.ble 1005 b && Nat.ble b 1006 && decide (C = "java/lang/String"))
def rf_sig (vs : List Value) (k : Nat) : Nat := match k with
  | 1 => vs.length
  | _ => vs.length - 1
