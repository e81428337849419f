/-! ===== A small machine over numbered cells: its state, its straight steps (rf_ex), what a place in a method comes to (rf_At) ===== -/
abbrev rf_Mem : Type := (Nat → Nat → Int32) × (Nat → Nat → Int32)
abbrev rf_Sh : Type := Nat × Nat × List Nat
abbrev rf_Tb : Type := (Nat → rf_Sh) × (Nat → Nat × Nat × (Nat → Int32))
abbrev rf_St : Type := List (Option Value) × List Value × Nat × rf_Mem
abbrev rf_I : Type := Instr × Nat × Nat × Nat × Nat × Int32 × Int64
abbrev rf_M : Type := MethodName × ByteArray × Nat × Option FieldType
/-- the row of a cell: those of the class first, then those of the reference -/
def rf_row (σ : rf_Mem) (k : Nat) : Nat → Int32 := cond (Nat.blt k 94) (σ.1 k) (σ.2 k)
def rf_r (f : Nat → Nat → Int32) (k : Nat) (g : Nat → Int32) : Nat → Nat → Int32 := fun k' => if k' = k then g else f k'
def rf_w (f : Nat → Nat → Int32) (k i : Nat) (v : Int32) : Nat → Nat → Int32 := rf_r f k (upd (f k) i v)
def rf_rs (σ : rf_Mem) (k : Nat) (g : Nat → Int32) : rf_Mem := cond (Nat.blt k 94) (rf_r σ.1 k g, σ.2) (σ.1, rf_r σ.2 k g)
def rf_wr (σ : rf_Mem) (k i : Nat) (v : Int32) : rf_Mem := cond (Nat.blt k 94) (rf_w σ.1 k i v, σ.2) (σ.1, rf_w σ.2 k i v)
theorem rf_row_rs (σ : rf_Mem) (k : Nat) (g : Nat → Int32) (j : Nat) : rf_row (rf_rs σ k g) j = if j = k then g else rf_row σ j := by
  by_cases e : j = k
  · subst e
    unfold rf_row rf_rs
    cases hb : Nat.blt j 94 <;> simp [rf_r]
  · unfold rf_row rf_rs
    cases hb : Nat.blt j 94 <;> cases hc : Nat.blt k 94 <;> simp [rf_r, e]
theorem rf_wr_eq (σ : rf_Mem) (k i : Nat) (v : Int32) : rf_wr σ k i v = rf_rs σ k (upd (rf_row σ k) i v) := by
  unfold rf_wr rf_rs rf_row rf_w
  cases hb : Nat.blt k 94 <;> rfl
/-- a long out of two ints, and back -/
def rf_jn (x y : Int32) : Int64 := Int64.ofBitVec (x.toBitVec ++ y.toBitVec)
def rf_hi (v : Int64) : Int32 := Int32.ofBitVec (v.toBitVec.extractLsb' 32 32)
def rf_lo (v : Int64) : Int32 := Int32.ofBitVec (v.toBitVec.extractLsb' 0 32)
theorem rf_jn_hl (v : Int64) : rf_jn (rf_hi v) (rf_lo v) = v := by
  unfold rf_jn rf_hi rf_lo
  apply Int64.toBitVec_inj.mp
  show (v.toBitVec.extractLsb' 32 32 ++ v.toBitVec.extractLsb' 0 32 : BitVec (32 + 32)) = v.toBitVec
  apply BitVec.eq_of_getLsbD_eq
  intro i hi
  rw [BitVec.getLsbD_append]
  by_cases h : i < 32
  · simp [h]
  · have h2 : i - 32 < 32 := by omega
    simp [h, h2, show 32 + (i - 32) = i by omega]
/-- the kinds of fields: 0 int, 1 long, 2 a reference by its number (0 null), 3 boolean, t + 4 the reference t, ever -/
def rf_dr (x : Int32) : Value := if x = 0 then .null else .ref (x.toNatClampNeg - 1)
def rf_av (t : Nat) (x y : Int32) : Value := match t with
  | 0 => .int x
  | 1 => .long (rf_jn x y)
  | 2 => rf_dr x
  | 3 => .int x
  | t + 4 => .ref t
def rf_fa (g : Nat → Int32) : Nat → List Nat → List Value
  | _, [] => []
  | j, t :: ts => rf_av t (g j) (g (j + 100)) :: rf_fa g (j + 1) ts
def rf_cv (ad : Nat → Nat) : Value → Value
  | .ref a => .ref (ad a)
  | v => v
def rf_ty : Nat → FieldType
  | 0 => .int
  | 1 => .boolean
  | _ => .array .int
/-- a cell's contents: 0 int[], 1 boolean[], 2 int[][], c + 3 an object of class c -/
def rf_enc (ad : Nat → Nat) (cA : ClassId) (sh : rf_Sh) (g : Nat → Int32) : va_E := match sh.1 with
  | 0 => .inl (cA, sh.2.1, .inl g)
  | 1 => .inl (cA, sh.2.1, .inl g)
  | 2 => .inl (cA, sh.2.1, .inr (.inr (.inr (.inr (fun i => if i < sh.2.1 then some (ad (sh.2.2.getD i 0)) else none)))))
  | c + 3 => .inr (c, (rf_fa g 0 sh.2.2).map (rf_cv ad))
def rf_ws (T : Nat → rf_Sh) (ad : Nat → Nat) (cid : Nat → ClassId) (n : Nat) (σ : rf_Mem) : va_W := (List.range n).map fun k => (ad k, rf_enc ad (cid k) (T k) (rf_row σ k))
/-- a cell that may be spoken of while there are n: one of them, or one from 500 on -/
def rf_okr (n a : Nat) : Prop := a < n ∨ 500 ≤ a
/-- no cell speaks of one that isn't there yet -/
def rf_cl (T : Nat → rf_Sh) (n : Nat) (σ : rf_Mem) : Prop := ∀ k, k < n → (T k).2.2.length ≤ 90 ∧ ((T k).1 = 2 → ∀ i, i < (T k).2.1 → rf_okr n ((T k).2.2.getD i 0)) ∧
  (3 ≤ (T k).1 → ∀ j, ((T k).2.2[j]? = some 2 → rf_row σ k j = 0 ∨ rf_okr n ((rf_row σ k j).toNatClampNeg - 1)) ∧ ∀ t, (T k).2.2[j]? = some (t + 4) → rf_okr n t)
/-- the world: n cells, their rows σ -/
def rf_Wd (T : Nat → rf_Sh) (lo : Nat) (D : va_G) (ad : Nat → Nat) (cid : Nat → ClassId) (n : Nat) (σ : rf_Mem) (s : State) (H : Heap) : Prop :=
  n ≤ 500 ∧ rf_cl T n σ ∧ va_P D vwCl (rf_ws T ad cid n σ) H ∧ va_D (fun q => lo ≤ q) (rf_ws T ad cid n σ) ∧ va_K D vwCl [] s ∧ ∀ k, k < n → (T k).1 ≤ 2 → ArrOfT s (cid k) (rf_ty (T k).1) ∧ va_RA s (cid k) (rf_ty (T k).1)
/-- the words that every method may use -/
def rf_words : List Cond := lw_tbl.filter goodWord
theorem rf_word {z : Nat} {w : Cond} (h : lw_tbl[z]? = some w) (hg : goodWord w = true) : w ∈ rf_words := List.mem_filter.mpr ⟨List.mem_of_getElem? h, hg⟩
def rf_nest : List Cond := lw_tbl.filter fun w => match w with
  | .methodLinkNest .. => true
  | .fieldLinkNest .. => true
  | _ => false
/-- what lies outside the world, and is never changed: rows 1000 (the script) to 1004, the texts 1005, 1006, statics -/
def rf_Ex (E : Nat → Nat × Nat × (Nat → Int32)) (lo : Nat) (ad : Nat → Nat) (s : State) : Prop :=
  (lo ≤ s.heap.size ∧ (∀ w ∈ rf_nest, va_Nw w s) ∧ va_AOA .int s) ∧
  (∀ k, 1000 ≤ k → k ≤ 1004 → va_T (if (E k).1 = 0 then .int else .byte) (ad k) (E k).2.1 (fun j => .int ((E k).2.2 j)) (fun q => lo ≤ q) s s.heap) ∧
  (∀ k, 1005 ≤ k → k ≤ 1006 → va_O "java/lang/String" (ad k) (fun q => lo ≤ q) s s.heap ∧ va_OF "java/lang/String" "coder" "B" (.int 0) (ad k) (fun q => lo ≤ q) s s.heap ∧ va_OF "java/lang/String" "value" "[B" (.ref (ad (k - 2))) (ad k) (fun q => lo ≤ q) s s.heap) ∧
  va_Z "CoatsByLot" "ABOVE" "[I" (.ref (ad 1001)) (fun q => lo ≤ q) s s.heap ∧ va_Z "CoatsByLot$Voices" "BODIES" "[I" (.ref (ad 1002)) (fun q => lo ≤ q) s s.heap ∧ va_Z "java/lang/String" "COMPACT_STRINGS" "Z" (.int 1) (fun q => lo ≤ q) s s.heap ∧
  (∀ k, 1005 ≤ k → k ≤ 1006 → ∀ i tx, Cond.stringRef RX2 i tx ∈ lw_tbl → tx = (if k = 1005 then "fgpqn" else "nlgb") → vk_R RX2 i tx (ad k) s)
/-- the numbers of slots of the first n cells -/
def rf_sl (T : Nat → rf_Sh) : Nat → Nat
  | 0 => 0
  | n + 1 => rf_sl T n + (T n).2.1
theorem rf_sl_mono (T : Nat → rf_Sh) {a b : Nat} (h : a ≤ b) : rf_sl T a ≤ rf_sl T b := by
  induction h with
  | refl => exact Nat.le_refl _
  | step _ ih => exact Nat.le_trans ih (Nat.le_add_right _ _)
def rf_rm (T : Nat → rf_Sh) (d n0 n' : Nat) : Room := { frames := d, cells := n' - n0, slots := rf_sl T n' - rf_sl T n0, locals := 50 * d }
def rf_Rm (T : Nat → rf_Sh) (R : Room) (d n0 n' : Nat) : Prop := d ≤ R.frames ∧ 50 * d ≤ R.locals ∧ n' - n0 ≤ R.cells ∧ rf_sl T n' - rf_sl T n0 ≤ R.slots
def rf_Lv (ad : Nat → Nat) (ls : Array Slot) (nL : Nat) (L : List (Option Value)) : Prop := L.length = nL ∧ ls.size = nL ∧ lv_wf ls ∧ ∀ (i : Nat) (v : Value), L[i]? = some (some v) → ls[i]? = some (.val (rf_cv ad v))
def rf_Cx (M : rf_M) (p : Program) (s : State) (m : MethodId) (args : Array Value) (meth : Method) (c : Code) : Prop :=
  p.tables.exec = Jvm.exec ∧ c.code = M.2.1 ∧ c.maxLocals = M.2.2.1 ∧ s.vm.findClass M.1.cls = some m.cls ∧ (∀ w ∈ rf_words, w.before args s = true) ∧ meth.sig.returnType = M.2.2.2 ∧ meth.locks = false ∧ meth.name = M.1.name
def rf_ag (n0 : Nat) (ad0 ad : Nat → Nat) : Prop := ∀ k, k < n0 ∨ 500 ≤ k → ad k = ad0 k
def rf_ri : Option Value → Instr
  | none => .return_
  | some (.int _) => .ireturn
  | some (.long _) => .lreturn
  | some _ => .areturn
def rf_nar (ret : Option FieldType) (r : Option Value) : Prop := match r with
  | none => ret = none
  | some (.int v) => ∃ ty, ret = some ty ∧ narrow ty (.int v) = .int v
  | some (.long _) => ret = some .long
  | some (.ref _) => ∃ C, ret = some (.object C)
  | some _ => False
/-- the machine at a place of M, with this state -/
def rf_Ht (T : rf_Tb) (M : rf_M) (p : Program) (l : Launch) (e : Env) (R : Room) (s : State) (m : MethodId) (args : Array Value) (below : List Frame) (meth : Method) (c : Code) (lo : Nat) (D : va_G) (ad0 : Nat → Nat) (n0 n' : Nat) (Q : State → Prop) (pc : Nat) (S : rf_St) : Prop :=
  ∀ (ad : Nat → Nat) (cid : Nat → ClassId) (H : Heap) (locs : List Loc) (ls : Array Slot), rf_ag n0 ad0 ad → n0 ≤ S.2.2.1 → S.2.2.1 ≤ n' → rf_Wd T.1 lo D ad cid S.2.2.1 S.2.2.2 s H → va_S (fun q => lo ≤ q) s.heap H locs → rf_Lv ad ls M.2.2.1 S.1 →
    W p l e R s m args below meth c H locs (S.2.2.1 - n0) (rf_sl T.1 S.2.2.1 - rf_sl T.1 n0) Q (F0 m pc ls (S.2.1.map (rf_cv ad)))
/-- the machine at a return of M, with r -/
def rf_Hf (T : rf_Tb) (M : rf_M) (p : Program) (l : Launch) (e : Env) (R : Room) (s : State) (m : MethodId) (args : Array Value) (below : List Frame) (meth : Method) (c : Code) (lo : Nat) (D : va_G) (ad0 : Nat → Nat) (n0 n' : Nat) (Q : State → Prop) (r : Option Value) (σ' : rf_Mem) : Prop :=
  ∀ (ad : Nat → Nat) (cid : Nat → ClassId) (H : Heap) (locs : List Loc) (ls : Array Slot) (pc : Nat), rf_ag n0 ad0 ad → n0 ≤ n' → rf_Wd T.1 lo D ad cid n' σ' s H → va_S (fun q => lo ≤ q) s.heap H locs → decode M.2.1 pc = .ok (rf_ri r, 1) → rf_nar M.2.2.2 r →
    W p l e R s m args below meth c H locs (n' - n0) (rf_sl T.1 n' - rf_sl T.1 n0) Q (F0 m pc ls (r.toList.map (rf_cv ad)))
/-- from this place of M, with this state, M comes to its return with r, the world then n' cells with rows σ' -/
def rf_At (T : rf_Tb) (M : rf_M) (d pc : Nat) (S : rf_St) (r : Option Value) (n' : Nat) (σ' : rf_Mem) : Prop :=
  ∀ (p : Program) (l : Launch) (e : Env) (R : Room) (s : State) (m : MethodId) (args : Array Value) (below : List Frame) (meth : Method) (c : Code) (lo : Nat) (D : va_G) (ad0 : Nat → Nat) (n0 : Nat) (Q : State → Prop), rf_Cx M p s m args meth c → rf_Rm T.1 R d n0 n' → rf_Ex T.2 lo ad0 s →
  rf_Hf T M p l e R s m args below meth c lo D ad0 n0 n' Q r σ' → rf_Ht T M p l e R s m args below meth c lo D ad0 n0 n' Q pc S
