section RFS
variable {T : rf_Tb} {M : rf_M} {p : Program} {l : Launch} {e : Env} {R : Room} {s : State} {m : MethodId} {args : Array Value} {below : List Frame} {meth : Method} {c : Code} {lo : Nat} {D : va_G} {ad0 : Nat → Nat} {n0 n' : Nat} {Q : State → Prop} {d pc pc' : Nat} {S S' : rf_St} {ps : List Bool}
theorem rf_badf (h : rf_bad S = (ps, S')) (hps : rf_all ps) : False := by
  cases h
  exact absurd hps.1 Bool.false_ne_true
/-- a step that changes the operands alone -/
theorem rf_pure {L : List (Option Value)} {st st' : List Value} {n : Nat} {σ : rf_Mem} (h : ∀ (ad : Nat → Nat) (cid : Nat → ClassId) (H : Heap) (locs : List Loc) (ls : Array Slot), rf_ag n0 ad0 ad → rf_Wd T.1 lo D ad cid n σ s H → va_S (fun q => lo ≤ q) s.heap H locs → rf_Lv ad ls M.2.2.1 L →
      W p l e R s m args below meth c H locs (n - n0) (rf_sl T.1 n - rf_sl T.1 n0) Q (F0 m pc' ls (st'.map (rf_cv ad))) → W p l e R s m args below meth c H locs (n - n0) (rf_sl T.1 n - rf_sl T.1 n0) Q (F0 m pc ls (st.map (rf_cv ad))))
    (k : rf_Ht T M p l e R s m args below meth c lo D ad0 n0 n' Q pc' (L, st', n, σ)) : rf_Ht T M p l e R s m args below meth c lo D ad0 n0 n' Q pc (L, st, n, σ) :=
  fun ad cid H locs ls a1 a2 a3 a4 a5 a6 => h ad cid H locs ls a1 a4 a5 a6 (k ad cid H locs ls a1 a2 a3 a4 a5 a6)

theorem rf_k_push {v : Value} (hv : ∀ ad, rf_cv ad v = v) (hW : ∀ (H : Heap) (locs : List Loc) (cells slots : Nat) (ls : Array Slot) (rest : List Value), W p l e R s m args below meth c H locs cells slots Q (F0 m pc' ls (v :: rest)) → W p l e R s m args below meth c H locs cells slots Q (F0 m pc ls (rest))) (hr : rf_push v S = (ps, S')) (k : rf_Ht T M p l e R s m args below meth c lo D ad0 n0 n' Q pc' S') : rf_Ht T M p l e R s m args below meth c lo D ad0 n0 n' Q pc S := by
  obtain ⟨L, st, n, σ⟩ := S
  cases hr
  refine rf_pure (fun ad cid H locs ls _ _ _ _ kk => hW H locs _ _ ls _ ?_) k
  rw [List.map_cons, hv] at kk
  exact kk

theorem rf_k_i1 {f : Int32 → Int32} (hW : ∀ (H : Heap) (locs : List Loc) (cells slots : Nat) (ls : Array Slot) (rest : List Value) (x : Int32), W p l e R s m args below meth c H locs cells slots Q (F0 m pc' ls (.int (f x) :: rest)) → W p l e R s m args below meth c H locs cells slots Q (F0 m pc ls (.int x :: rest))) (hr : rf_i1 f S = (ps, S')) (hps : rf_all ps)  (k : rf_Ht T M p l e R s m args below meth c lo D ad0 n0 n' Q pc' S') : rf_Ht T M p l e R s m args below meth c lo D ad0 n0 n' Q pc S := by
  obtain ⟨L, st, n, σ⟩ := S
  unfold rf_i1 at hr
  split at hr
  · rename_i heq
    cases heq
    cases hr
    exact rf_pure (fun ad cid H locs ls _ _ _ _ kk => hW H locs _ _ ls _ _ kk) k
  · exact (rf_badf hr hps).elim

theorem rf_k_i2 {f : Int32 → Int32 → Int32} (hW : ∀ (H : Heap) (locs : List Loc) (cells slots : Nat) (ls : Array Slot) (rest : List Value) (x y : Int32), W p l e R s m args below meth c H locs cells slots Q (F0 m pc' ls (.int (f x y) :: rest)) → W p l e R s m args below meth c H locs cells slots Q (F0 m pc ls (.int y :: .int x :: rest))) (hr : rf_i2 f S = (ps, S')) (hps : rf_all ps)  (k : rf_Ht T M p l e R s m args below meth c lo D ad0 n0 n' Q pc' S') : rf_Ht T M p l e R s m args below meth c lo D ad0 n0 n' Q pc S := by
  obtain ⟨L, st, n, σ⟩ := S
  unfold rf_i2 at hr
  split at hr
  · rename_i heq
    cases heq
    cases hr
    exact rf_pure (fun ad cid H locs ls _ _ _ _ kk => hW H locs _ _ ls _ _ _ kk) k
  · exact (rf_badf hr hps).elim

theorem rf_k_l2 {f : Int64 → Int64 → Int64} (hW : ∀ (H : Heap) (locs : List Loc) (cells slots : Nat) (ls : Array Slot) (rest : List Value) (x y : Int64), W p l e R s m args below meth c H locs cells slots Q (F0 m pc' ls (.long (f x y) :: rest)) → W p l e R s m args below meth c H locs cells slots Q (F0 m pc ls (.long y :: .long x :: rest))) (hr : rf_l2 f S = (ps, S')) (hps : rf_all ps)  (k : rf_Ht T M p l e R s m args below meth c lo D ad0 n0 n' Q pc' S') : rf_Ht T M p l e R s m args below meth c lo D ad0 n0 n' Q pc S := by
  obtain ⟨L, st, n, σ⟩ := S
  unfold rf_l2 at hr
  split at hr
  · rename_i heq
    cases heq
    cases hr
    exact rf_pure (fun ad cid H locs ls _ _ _ _ kk => hW H locs _ _ ls _ _ _ kk) k
  · exact (rf_badf hr hps).elim

theorem rf_k_lsh {f : Int64 → Int32 → Int64} (hW : ∀ (H : Heap) (locs : List Loc) (cells slots : Nat) (ls : Array Slot) (rest : List Value) (x : Int64) (y : Int32), W p l e R s m args below meth c H locs cells slots Q (F0 m pc' ls (.long (f x y) :: rest)) → W p l e R s m args below meth c H locs cells slots Q (F0 m pc ls (.int y :: .long x :: rest))) (hr : rf_lsh f S = (ps, S')) (hps : rf_all ps)  (k : rf_Ht T M p l e R s m args below meth c lo D ad0 n0 n' Q pc' S') : rf_Ht T M p l e R s m args below meth c lo D ad0 n0 n' Q pc S := by
  obtain ⟨L, st, n, σ⟩ := S
  unfold rf_lsh at hr
  split at hr
  · rename_i heq
    cases heq
    cases hr
    exact rf_pure (fun ad cid H locs ls _ _ _ _ kk => hW H locs _ _ ls _ _ _ kk) k
  · exact (rf_badf hr hps).elim

theorem rf_k_i2l (hW : ∀ (H : Heap) (locs : List Loc) (cells slots : Nat) (ls : Array Slot) (rest : List Value) (x : Int32), W p l e R s m args below meth c H locs cells slots Q (F0 m pc' ls (.long x.toInt64 :: rest)) → W p l e R s m args below meth c H locs cells slots Q (F0 m pc ls (.int x :: rest))) (hr : rf_i2l S = (ps, S')) (hps : rf_all ps)  (k : rf_Ht T M p l e R s m args below meth c lo D ad0 n0 n' Q pc' S') : rf_Ht T M p l e R s m args below meth c lo D ad0 n0 n' Q pc S := by
  obtain ⟨L, st, n, σ⟩ := S
  unfold rf_i2l at hr
  split at hr
  · rename_i heq
    cases heq
    cases hr
    exact rf_pure (fun ad cid H locs ls _ _ _ _ kk => hW H locs _ _ ls _ _ kk) k
  · exact (rf_badf hr hps).elim

theorem rf_k_l2i (hW : ∀ (H : Heap) (locs : List Loc) (cells slots : Nat) (ls : Array Slot) (rest : List Value) (x : Int64), W p l e R s m args below meth c H locs cells slots Q (F0 m pc' ls (.int x.toInt32 :: rest)) → W p l e R s m args below meth c H locs cells slots Q (F0 m pc ls (.long x :: rest))) (hr : rf_l2i S = (ps, S')) (hps : rf_all ps)  (k : rf_Ht T M p l e R s m args below meth c lo D ad0 n0 n' Q pc' S') : rf_Ht T M p l e R s m args below meth c lo D ad0 n0 n' Q pc S := by
  obtain ⟨L, st, n, σ⟩ := S
  unfold rf_l2i at hr
  split at hr
  · rename_i heq
    cases heq
    cases hr
    exact rf_pure (fun ad cid H locs ls _ _ _ _ kk => hW H locs _ _ ls _ _ kk) k
  · exact (rf_badf hr hps).elim

theorem rf_k_lcmp (hW : ∀ (H : Heap) (locs : List Loc) (cells slots : Nat) (ls : Array Slot) (rest : List Value) (x y : Int64), W p l e R s m args below meth c H locs cells slots Q (F0 m pc' ls (.int (lg_cmp x y) :: rest)) → W p l e R s m args below meth c H locs cells slots Q (F0 m pc ls (.long y :: .long x :: rest))) (hr : rf_lcmp S = (ps, S')) (hps : rf_all ps)  (k : rf_Ht T M p l e R s m args below meth c lo D ad0 n0 n' Q pc' S') : rf_Ht T M p l e R s m args below meth c lo D ad0 n0 n' Q pc S := by
  obtain ⟨L, st, n, σ⟩ := S
  unfold rf_lcmp at hr
  split at hr
  · rename_i heq
    cases heq
    cases hr
    exact rf_pure (fun ad cid H locs ls _ _ _ _ kk => hW H locs _ _ ls _ _ _ kk) k
  · exact (rf_badf hr hps).elim

theorem rf_k_pop (hW : ∀ (H : Heap) (locs : List Loc) (cells slots : Nat) (ls : Array Slot) (rest : List Value) (x : Int32), W p l e R s m args below meth c H locs cells slots Q (F0 m pc' ls (rest)) → W p l e R s m args below meth c H locs cells slots Q (F0 m pc ls (.int x :: rest))) (hr : rf_pop S = (ps, S')) (hps : rf_all ps)  (k : rf_Ht T M p l e R s m args below meth c lo D ad0 n0 n' Q pc' S') : rf_Ht T M p l e R s m args below meth c lo D ad0 n0 n' Q pc S := by
  obtain ⟨L, st, n, σ⟩ := S
  unfold rf_pop at hr
  split at hr
  · rename_i heq
    cases heq
    cases hr
    exact rf_pure (fun ad cid H locs ls _ _ _ _ kk => hW H locs _ _ ls _ _ kk) k
  · exact (rf_badf hr hps).elim

theorem rf_k_i2z {f : Int32 → Int32 → Int32} (hW : ∀ (H : Heap) (locs : List Loc) (cells slots : Nat) (ls : Array Slot) (rest : List Value) (x y : Int32), ¬ y = 0 → W p l e R s m args below meth c H locs cells slots Q (F0 m pc' ls (.int (f x y) :: rest)) → W p l e R s m args below meth c H locs cells slots Q (F0 m pc ls (.int y :: .int x :: rest))) (hr : rf_i2z f S = (ps, S')) (hps : rf_all ps)  (k : rf_Ht T M p l e R s m args below meth c lo D ad0 n0 n' Q pc' S') : rf_Ht T M p l e R s m args below meth c lo D ad0 n0 n' Q pc S := by
  obtain ⟨L, st, n, σ⟩ := S
  unfold rf_i2z at hr
  split at hr
  · rename_i heq
    cases heq
    cases hr
    have h0 := hps.1
    simp only [rf_nz, decide_eq_true_eq] at h0
    exact rf_pure (fun ad cid H locs ls _ _ _ _ kk => hW H locs _ _ ls _ _ _ h0 kk) k
  · exact (rf_badf hr hps).elim

theorem rf_k_l2z {f : Int64 → Int64 → Int64} (hW : ∀ (H : Heap) (locs : List Loc) (cells slots : Nat) (ls : Array Slot) (rest : List Value) (x y : Int64), ¬ y = 0 → W p l e R s m args below meth c H locs cells slots Q (F0 m pc' ls (.long (f x y) :: rest)) → W p l e R s m args below meth c H locs cells slots Q (F0 m pc ls (.long y :: .long x :: rest))) (hr : rf_l2z f S = (ps, S')) (hps : rf_all ps)  (k : rf_Ht T M p l e R s m args below meth c lo D ad0 n0 n' Q pc' S') : rf_Ht T M p l e R s m args below meth c lo D ad0 n0 n' Q pc S := by
  obtain ⟨L, st, n, σ⟩ := S
  unfold rf_l2z at hr
  split at hr
  · rename_i heq
    cases heq
    cases hr
    have h0 := hps.1
    simp only [rf_nzl, decide_eq_true_eq] at h0
    exact rf_pure (fun ad cid H locs ls _ _ _ _ kk => hW H locs _ _ ls _ _ _ h0 kk) k
  · exact (rf_badf hr hps).elim

theorem rf_k_dup (hW : ∀ (H : Heap) (locs : List Loc) (cells slots : Nat) (ls : Array Slot) (rest : List Value) (x : Value), x.category = 1 → W p l e R s m args below meth c H locs cells slots Q (F0 m pc' ls (x :: x :: rest)) → W p l e R s m args below meth c H locs cells slots Q (F0 m pc ls (x :: rest))) (hr : rf_dup S = (ps, S')) (hps : rf_all ps)  (k : rf_Ht T M p l e R s m args below meth c lo D ad0 n0 n' Q pc' S') : rf_Ht T M p l e R s m args below meth c lo D ad0 n0 n' Q pc S := by
  obtain ⟨L, st, n, σ⟩ := S
  unfold rf_dup at hr
  split at hr
  · rename_i heq
    cases heq
    cases hr
    exact rf_pure (fun ad cid H locs ls _ _ _ _ kk => hW H locs _ _ ls _ (.int _) rfl kk) k
  · rename_i heq
    cases heq
    cases hr
    exact rf_pure (fun ad cid H locs ls _ _ _ _ kk => hW H locs _ _ ls _ (.ref _) rfl kk) k
  · exact (rf_badf hr hps).elim

theorem rf_k_dup2 (hW : ∀ (H : Heap) (locs : List Loc) (cells slots : Nat) (ls : Array Slot) (rest : List Value) (x : Int32) (y : Nat), W p l e R s m args below meth c H locs cells slots Q (F0 m pc' ls (.int x :: .ref y :: .int x :: .ref y :: rest)) → W p l e R s m args below meth c H locs cells slots Q (F0 m pc ls (.int x :: .ref y :: rest))) (hr : rf_dup2 S = (ps, S')) (hps : rf_all ps)  (k : rf_Ht T M p l e R s m args below meth c lo D ad0 n0 n' Q pc' S') : rf_Ht T M p l e R s m args below meth c lo D ad0 n0 n' Q pc S := by
  obtain ⟨L, st, n, σ⟩ := S
  unfold rf_dup2 at hr
  split at hr
  · rename_i heq
    cases heq
    cases hr
    exact rf_pure (fun ad cid H locs ls _ _ _ _ kk => hW H locs _ _ ls _ _ _ kk) k
  · exact (rf_badf hr hps).elim

theorem rf_k_ild {x : Nat} (hW : ∀ (H : Heap) (locs : List Loc) (cells slots : Nat) (ls : Array Slot) (rest : List Value) (a : Int32), ls[x]? = some (.val (.int a)) → W p l e R s m args below meth c H locs cells slots Q (F0 m pc' ls (.int a :: rest)) → W p l e R s m args below meth c H locs cells slots Q (F0 m pc ls (rest))) (hr : rf_ild x S = (ps, S')) (hps : rf_all ps)  (k : rf_Ht T M p l e R s m args below meth c lo D ad0 n0 n' Q pc' S') : rf_Ht T M p l e R s m args below meth c lo D ad0 n0 n' Q pc S := by
  obtain ⟨L, st, n, σ⟩ := S
  unfold rf_ild at hr
  simp only at hr
  split at hr
  · rename_i heq
    cases hr
    exact rf_pure (fun ad cid H locs ls _ _ _ hL kk => hW H locs _ _ ls _ _ (rf_Lv_get hL heq) kk) k
  · exact (rf_badf hr hps).elim

theorem rf_k_lld {x : Nat} (hW : ∀ (H : Heap) (locs : List Loc) (cells slots : Nat) (ls : Array Slot) (rest : List Value) (a : Int64), ls[x]? = some (.val (.long a)) → W p l e R s m args below meth c H locs cells slots Q (F0 m pc' ls (.long a :: rest)) → W p l e R s m args below meth c H locs cells slots Q (F0 m pc ls (rest))) (hr : rf_lld x S = (ps, S')) (hps : rf_all ps)  (k : rf_Ht T M p l e R s m args below meth c lo D ad0 n0 n' Q pc' S') : rf_Ht T M p l e R s m args below meth c lo D ad0 n0 n' Q pc S := by
  obtain ⟨L, st, n, σ⟩ := S
  unfold rf_lld at hr
  simp only at hr
  split at hr
  · rename_i heq
    cases hr
    exact rf_pure (fun ad cid H locs ls _ _ _ hL kk => hW H locs _ _ ls _ _ (rf_Lv_get hL heq) kk) k
  · exact (rf_badf hr hps).elim

theorem rf_k_ald {x : Nat} (hW : ∀ (H : Heap) (locs : List Loc) (cells slots : Nat) (ls : Array Slot) (rest : List Value) (a : Nat), ls[x]? = some (.val (.ref a)) → W p l e R s m args below meth c H locs cells slots Q (F0 m pc' ls (.ref a :: rest)) → W p l e R s m args below meth c H locs cells slots Q (F0 m pc ls (rest))) (hr : rf_ald x S = (ps, S')) (hps : rf_all ps)  (k : rf_Ht T M p l e R s m args below meth c lo D ad0 n0 n' Q pc' S') : rf_Ht T M p l e R s m args below meth c lo D ad0 n0 n' Q pc S := by
  obtain ⟨L, st, n, σ⟩ := S
  unfold rf_ald at hr
  simp only at hr
  split at hr
  · rename_i heq
    cases hr
    exact rf_pure (fun ad cid H locs ls _ _ _ hL kk => hW H locs _ _ ls _ _ (rf_Lv_get hL heq) kk) k
  · exact (rf_badf hr hps).elim

theorem rf_k_ist {x : Nat} (hW : ∀ (H : Heap) (locs : List Loc) (cells slots : Nat) (ls : Array Slot) (rest : List Value) (a : Int32) (lv : List (Nat × Value)), lv_has ls M.2.2.1 lv → x < M.2.2.1 → (∀ ls' : Array Slot, lv_has ls' M.2.2.1 ((x, Value.int a) :: lv.filter (fun q => !(q.1 == x) && !(q.1 + 1 == x && q.2.category == 2))) → W p l e R s m args below meth c H locs cells slots Q (F0 m pc' ls' rest)) → W p l e R s m args below meth c H locs cells slots Q (F0 m pc ls (.int a :: rest))) (hr : rf_ist x S = (ps, S')) (hps : rf_all ps)  (k : rf_Ht T M p l e R s m args below meth c lo D ad0 n0 n' Q pc' S') : rf_Ht T M p l e R s m args below meth c lo D ad0 n0 n' Q pc S := by
  obtain ⟨L, st, n, σ⟩ := S
  unfold rf_ist at hr
  split at hr
  · rename_i heq
    cases heq
    cases hc : (rf_nl L x && Nat.blt x L.length) with
    | false => rw [hc] at hr; exact (rf_badf hr hps).elim
    | true =>
      rw [hc] at hr
      cases hr
      simp only [Bool.and_eq_true, Nat.blt_eq] at hc
      intro ad cid H locs ls a1 a2 a3 a4 a5 a6
      exact hW H locs _ _ ls _ _ _ (rf_Lv_has a6) (by rw [← a6.1]; exact hc.2) (fun ls' h' => k ad cid H locs ls' a1 a2 a3 a4 a5 (rf_Lv_set1 a6 hc.1 h'))
  · exact (rf_badf hr hps).elim

theorem rf_k_ast {x : Nat} (hW : ∀ (H : Heap) (locs : List Loc) (cells slots : Nat) (ls : Array Slot) (rest : List Value) (a : Nat) (lv : List (Nat × Value)), lv_has ls M.2.2.1 lv → x < M.2.2.1 → (∀ ls' : Array Slot, lv_has ls' M.2.2.1 ((x, Value.ref a) :: lv.filter (fun q => !(q.1 == x) && !(q.1 + 1 == x && q.2.category == 2))) → W p l e R s m args below meth c H locs cells slots Q (F0 m pc' ls' rest)) → W p l e R s m args below meth c H locs cells slots Q (F0 m pc ls (.ref a :: rest))) (hr : rf_ast x S = (ps, S')) (hps : rf_all ps)  (k : rf_Ht T M p l e R s m args below meth c lo D ad0 n0 n' Q pc' S') : rf_Ht T M p l e R s m args below meth c lo D ad0 n0 n' Q pc S := by
  obtain ⟨L, st, n, σ⟩ := S
  unfold rf_ast at hr
  split at hr
  · rename_i heq
    cases heq
    cases hc : (rf_nl L x && Nat.blt x L.length) with
    | false => rw [hc] at hr; exact (rf_badf hr hps).elim
    | true =>
      rw [hc] at hr
      cases hr
      simp only [Bool.and_eq_true, Nat.blt_eq] at hc
      intro ad cid H locs ls a1 a2 a3 a4 a5 a6
      exact hW H locs _ _ ls _ _ _ (rf_Lv_has a6) (by rw [← a6.1]; exact hc.2) (fun ls' h' => k ad cid H locs ls' a1 a2 a3 a4 a5 (rf_Lv_set1 a6 hc.1 h'))
  · exact (rf_badf hr hps).elim

theorem rf_k_lst {x : Nat} (hW : ∀ (H : Heap) (locs : List Loc) (cells slots : Nat) (ls : Array Slot) (rest : List Value) (a : Int64) (lv : List (Nat × Value)), lv_has ls M.2.2.1 lv → x + 1 < M.2.2.1 → (∀ ls' : Array Slot, lv_has ls' M.2.2.1 ((x, Value.long a) :: lv.filter (fun q => !(q.1 == x) && (!(q.1 == x + 1) && !(q.1 + 1 == x && q.2.category == 2)))) → W p l e R s m args below meth c H locs cells slots Q (F0 m pc' ls' rest)) → W p l e R s m args below meth c H locs cells slots Q (F0 m pc ls (.long a :: rest))) (hr : rf_lst x S = (ps, S')) (hps : rf_all ps)  (k : rf_Ht T M p l e R s m args below meth c lo D ad0 n0 n' Q pc' S') : rf_Ht T M p l e R s m args below meth c lo D ad0 n0 n' Q pc S := by
  obtain ⟨L, st, n, σ⟩ := S
  unfold rf_lst at hr
  split at hr
  · rename_i heq
    cases heq
    cases hc : (rf_nl L x && Nat.blt (x + 1) L.length) with
    | false => rw [hc] at hr; exact (rf_badf hr hps).elim
    | true =>
      rw [hc] at hr
      cases hr
      simp only [Bool.and_eq_true, Nat.blt_eq] at hc
      intro ad cid H locs ls a1 a2 a3 a4 a5 a6
      exact hW H locs _ _ ls _ _ _ (rf_Lv_has a6) (by rw [← a6.1]; exact hc.2) (fun ls' h' => k ad cid H locs ls' a1 a2 a3 a4 a5 (rf_Lv_set2 a6 hc.1 h'))
  · exact (rf_badf hr hps).elim

theorem rf_k_inc {x : Nat} {v : Int32} (hW : ∀ (H : Heap) (locs : List Loc) (cells slots : Nat) (ls : Array Slot) (rest : List Value) (a : Int32) (lv : List (Nat × Value)) (q : Nat), lv_has ls M.2.2.1 lv → x < M.2.2.1 → lv[q]? = some (x, .int a) → (∀ ls' : Array Slot, lv_has ls' M.2.2.1 ((x, Value.int (a + v)) :: lv.filter (fun q => !(q.1 == x) && !(q.1 + 1 == x && q.2.category == 2))) → W p l e R s m args below meth c H locs cells slots Q (F0 m pc' ls' rest)) → W p l e R s m args below meth c H locs cells slots Q (F0 m pc ls rest)) (hr : rf_inc x v S = (ps, S')) (hps : rf_all ps)  (k : rf_Ht T M p l e R s m args below meth c lo D ad0 n0 n' Q pc' S') : rf_Ht T M p l e R s m args below meth c lo D ad0 n0 n' Q pc S := by
  obtain ⟨L, st, n, σ⟩ := S
  unfold rf_inc at hr
  simp only at hr
  split at hr
  · rename_i a heq
    cases hc : (rf_nl L x && Nat.blt x L.length) with
    | false => rw [hc] at hr; exact (rf_badf hr hps).elim
    | true =>
      rw [hc] at hr
      cases hr
      simp only [Bool.and_eq_true, Nat.blt_eq] at hc
      intro ad cid H locs ls a1 a2 a3 a4 a5 a6
      have hg : L[x]? = some (some (.int a)) := by
        rw [List.getD_eq_getElem?_getD] at heq
        cases hq : L[x]? with
        | none => rw [hq] at heq; cases heq
        | some o => rw [hq] at heq; exact congrArg some heq
      have hm := rf_prs_mem (ad := ad) (i := 0) hg
      rw [Nat.zero_add] at hm
      obtain ⟨q, hq⟩ := List.getElem?_of_mem hm
      exact hW H locs _ _ ls _ _ _ q (rf_Lv_has a6) (by rw [← a6.1]; exact hc.2) hq (fun ls' h' => k ad cid H locs ls' a1 a2 a3 a4 a5 (rf_Lv_set1 a6 hc.1 h'))
  · exact (rf_badf hr hps).elim

theorem rf_k_kill {x : Nat} (hr : rf_kill x S = (ps, S')) (k : rf_Ht T M p l e R s m args below meth c lo D ad0 n0 n' Q pc S') : rf_Ht T M p l e R s m args below meth c lo D ad0 n0 n' Q pc S := by
  obtain ⟨L, st, n, σ⟩ := S
  cases hr
  intro ad cid H locs ls a1 a2 a3 a4 a5 a6
  exact k ad cid H locs ls a1 a2 a3 a4 a5 (rf_Lv_kill a6)

theorem rf_k_mm {f : Int32 → Int32 → Int32} (hR : rf_Rm T.1 R d n0 n') (hW : ∀ (H : Heap) (locs : List Loc) (cells slots : Nat) (ls : Array Slot) (rest : List Value) (x y : Int32), rest.length ≤ 8 → ls.size = M.2.2.1 → cells ≤ R.cells → slots ≤ R.slots → W p l e R s m args below meth c H locs cells slots Q (F0 m pc' ls (.int (f x y) :: rest)) → W p l e R s m args below meth c H locs cells slots Q (F0 m pc ls (.int y :: .int x :: rest))) (hr : rf_mm f S = (ps, S')) (hps : rf_all ps)  (k : rf_Ht T M p l e R s m args below meth c lo D ad0 n0 n' Q pc' S') : rf_Ht T M p l e R s m args below meth c lo D ad0 n0 n' Q pc S := by
  obtain ⟨L, st, n, σ⟩ := S
  unfold rf_mm at hr
  split at hr
  · rename_i L1 y x st1 n1 σ1 heq
    cases heq
    cases hc : Nat.ble st1.length 8 with
    | false => rw [hc] at hr; exact (rf_badf hr hps).elim
    | true =>
      rw [hc] at hr
      cases hr
      intro ad cid H locs ls a1 a2 a3 a4 a5 a6
      have e1 := rf_sl_mono T.1 a2
      have e2 := rf_sl_mono T.1 a3
      obtain ⟨-, -, r3, r4⟩ := hR
      exact hW H locs _ _ ls _ _ _ (by rw [List.length_map]; exact Nat.le_of_ble_eq_true hc) a6.2.1 (by show n - n0 ≤ R.cells; have a3 : n ≤ n' := a3; omega) (by show rf_sl T.1 n - rf_sl T.1 n0 ≤ R.slots; have e2 : rf_sl T.1 n ≤ rf_sl T.1 n' := e2; omega) (k ad cid H locs ls a1 a2 a3 a4 a5 a6)
  · exact (rf_badf hr hps).elim

theorem rf_k_oinit (hW : ∀ (H : Heap) (locs : List Loc) (cells slots : Nat) (ls : Array Slot) (rest : List Value) (x : Nat), rest.length ≤ 8 → ls.size = M.2.2.1 → W p l e R s m args below meth c H locs cells slots Q (F0 m pc' ls (rest)) → W p l e R s m args below meth c H locs cells slots Q (F0 m pc ls (.ref x :: rest))) (hr : rf_oinit S = (ps, S')) (hps : rf_all ps)  (k : rf_Ht T M p l e R s m args below meth c lo D ad0 n0 n' Q pc' S') : rf_Ht T M p l e R s m args below meth c lo D ad0 n0 n' Q pc S := by
  obtain ⟨L, st, n, σ⟩ := S
  unfold rf_oinit at hr
  split at hr
  · rename_i L1 a st1 n1 σ1 heq
    cases heq
    cases hc : Nat.ble st1.length 8 with
    | false => rw [hc] at hr; exact (rf_badf hr hps).elim
    | true =>
      rw [hc] at hr
      cases hr
      exact rf_pure (fun ad cid H locs ls _ _ _ hL kk => hW H locs _ _ ls _ _ (by rw [List.length_map]; exact Nat.le_of_ble_eq_true hc) hL.2.1 kk) k
  · exact (rf_badf hr hps).elim

end RFS
