theorem rf_hw_w {z : Nat} {w : Cond} (h : rf_hw z w = true) : w ∈ rf_words := by
  simp only [rf_hw, Bool.and_eq_true, decide_eq_true_eq] at h
  exact rf_word h.1 h.2
theorem rf_nest_m {w : Cond} {z : Nat} (hm : (match w with | .methodLinkNest .. => true | .fieldLinkNest .. => true | _ => false) = true) (h : lw_tbl[z]? = some w) : w ∈ rf_nest := List.mem_filter.mpr ⟨List.mem_of_getElem? h, hm⟩
section RFX
variable {T : rf_Tb} {M : rf_M} {p : Program} {l : Launch} {e : Env} {R : Room} {s : State} {m : MethodId} {args : Array Value} {below : List Frame} {meth : Method} {c : Code} {lo : Nat} {D : va_G} {ad0 : Nat → Nat} {n0 n' : Nat} {Q : State → Prop} {d pc pc' : Nat} {S S' : rf_St} {ps : List Bool}
set_option maxHeartbeats 4000000 in
theorem rf_ex1_ok (hd1 : 1 ≤ d) (hC : rf_Cx M p s m args meth c) (hR : rf_Rm T.1 R d n0 n') (hE : rf_Ex T.2 lo ad0 s) (i : rf_I) (hck : rf_ck1 M pc i = true) (hr : rf_ex1 T i S = (ps, S')) (hps : rf_all ps) (hn : S'.2.2.1 ≤ n') (k : rf_Ht T M p l e R s m args below meth c lo D ad0 n0 n' Q (pc + i.2.1) S') : rf_Ht T M p l e R s m args below meth c lo D ad0 n0 n' Q pc S := by
  obtain ⟨op, len, x, y, z, v, w⟩ := i
  have hC1 := hC
  obtain ⟨hx, hb, hml, hown, hts, hrt, hlocks, hnm⟩ := hC
  have hlocals : 50 ≤ R.locals := by have := hR.2.1; omega
  have hframes : 1 ≤ R.frames := Nat.le_trans hd1 hR.1
  cases op
  case iconst a =>
    simp only [rf_ck1, Bool.and_eq_true, decide_eq_true_eq, Nat.beq_eq, Nat.blt_eq] at hck
    obtain ⟨hdg, rfl, hv⟩ := hck
    exact rf_k_push (fun _ => rfl) (fun H locs cells slots ls rest kk => lv_iconst hx hb hdg hv kk) hr k
  case bipush a =>
    simp only [rf_ck1, Bool.and_eq_true, decide_eq_true_eq, Nat.beq_eq, Nat.blt_eq] at hck
    obtain ⟨hdg, rfl, hv⟩ := hck
    exact rf_k_push (fun _ => rfl) (fun H locs cells slots ls rest kk => lv_bipush hx hb hdg hv kk) hr k
  case sipush a =>
    simp only [rf_ck1, Bool.and_eq_true, decide_eq_true_eq, Nat.beq_eq, Nat.blt_eq] at hck
    obtain ⟨hdg, rfl, hv⟩ := hck
    exact rf_k_push (fun _ => rfl) (fun H locs cells slots ls rest kk => lv_sipush hx hb hdg hv kk) hr k
  case lconst a =>
    simp only [rf_ck1, Bool.and_eq_true, decide_eq_true_eq, Nat.beq_eq, Nat.blt_eq] at hck
    obtain ⟨hdg, rfl, hv⟩ := hck
    exact rf_k_push (fun _ => rfl) (fun H locs cells slots ls rest kk => lv_lconst hx hb hdg hv kk) hr k
  case ldc_w a =>
    simp only [rf_ck1, Bool.and_eq_true, decide_eq_true_eq, Nat.beq_eq, Nat.blt_eq] at hck
    obtain ⟨hdg, rfl, hv⟩ := hck
    exact rf_k_push (fun _ => rfl) (fun H locs cells slots ls rest kk => lv_ldcw hx hb hown (hts _ (rf_hw_w hv)) hdg kk) hr k
  case ldc2_w a =>
    simp only [rf_ck1, Bool.and_eq_true, decide_eq_true_eq, Nat.beq_eq, Nat.blt_eq] at hck
    obtain ⟨hdg, rfl, hv⟩ := hck
    exact rf_k_push (fun _ => rfl) (fun H locs cells slots ls rest kk => lv_ldc2 hx hb hown (hts _ (rf_hw_w hv)) hdg kk) hr k
  case aconst_null =>
    simp only [rf_ck1, Bool.and_eq_true, decide_eq_true_eq, Nat.beq_eq, Nat.blt_eq] at hck
    obtain ⟨hdg, rfl⟩ := hck
    exact rf_k_push (fun _ => rfl) (fun H locs cells slots ls rest kk => lv_null hx hb hdg kk) hr k
  case iload a =>
    simp only [rf_ck1, Bool.and_eq_true, decide_eq_true_eq, Nat.beq_eq, Nat.blt_eq] at hck
    obtain ⟨hdg, rfl, rfl⟩ := hck
    exact rf_k_ild (fun H locs cells slots ls rest a h kk => lv_iload hx hb hdg h kk) hr hps k
  case iload_n a =>
    simp only [rf_ck1, Bool.and_eq_true, decide_eq_true_eq, Nat.beq_eq, Nat.blt_eq] at hck
    obtain ⟨hdg, rfl, hv⟩ := hck
    exact rf_k_ild (fun H locs cells slots ls rest a h kk => lv_iload_n hx hb hdg hv h kk) hr hps k
  case lload a =>
    simp only [rf_ck1, Bool.and_eq_true, decide_eq_true_eq, Nat.beq_eq, Nat.blt_eq] at hck
    obtain ⟨hdg, rfl, rfl⟩ := hck
    exact rf_k_lld (fun H locs cells slots ls rest a h kk => lv_lload hx hb hdg h kk) hr hps k
  case lload_n a =>
    simp only [rf_ck1, Bool.and_eq_true, decide_eq_true_eq, Nat.beq_eq, Nat.blt_eq] at hck
    obtain ⟨hdg, rfl, hv⟩ := hck
    exact rf_k_lld (fun H locs cells slots ls rest a h kk => lv_lload_n hx hb hdg hv h kk) hr hps k
  case aload a =>
    simp only [rf_ck1, Bool.and_eq_true, decide_eq_true_eq, Nat.beq_eq, Nat.blt_eq] at hck
    obtain ⟨hdg, rfl, rfl⟩ := hck
    exact rf_k_ald (fun H locs cells slots ls rest a h kk => lv_aload hx hb hdg h kk) hr hps k
  case aload_n a =>
    simp only [rf_ck1, Bool.and_eq_true, decide_eq_true_eq, Nat.beq_eq, Nat.blt_eq] at hck
    obtain ⟨hdg, rfl, hv⟩ := hck
    exact rf_k_ald (fun H locs cells slots ls rest a h kk => lv_aload_n hx hb hdg hv h kk) hr hps k
  case istore a =>
    simp only [rf_ck1, Bool.and_eq_true, decide_eq_true_eq, Nat.beq_eq, Nat.blt_eq] at hck
    obtain ⟨hdg, rfl, rfl⟩ := hck
    exact rf_k_ist (fun H locs cells slots ls rest a lv h1 h2 kk => lv_istore hx hb hdg h1 h2 rfl kk) hr hps k
  case istore_n a =>
    simp only [rf_ck1, Bool.and_eq_true, decide_eq_true_eq, Nat.beq_eq, Nat.blt_eq] at hck
    obtain ⟨hdg, rfl, hv⟩ := hck
    exact rf_k_ist (fun H locs cells slots ls rest a lv h1 h2 kk => lv_istore_n hx hb hdg hv h1 h2 rfl kk) hr hps k
  case astore a =>
    simp only [rf_ck1, Bool.and_eq_true, decide_eq_true_eq, Nat.beq_eq, Nat.blt_eq] at hck
    obtain ⟨hdg, rfl, rfl⟩ := hck
    exact rf_k_ast (fun H locs cells slots ls rest a lv h1 h2 kk => lv_astore hx hb hdg h1 h2 rfl kk) hr hps k
  case astore_n a =>
    simp only [rf_ck1, Bool.and_eq_true, decide_eq_true_eq, Nat.beq_eq, Nat.blt_eq] at hck
    obtain ⟨hdg, rfl, hv⟩ := hck
    exact rf_k_ast (fun H locs cells slots ls rest a lv h1 h2 kk => lv_astore_n hx hb hdg hv h1 h2 rfl kk) hr hps k
  case lstore a =>
    simp only [rf_ck1, Bool.and_eq_true, decide_eq_true_eq, Nat.beq_eq, Nat.blt_eq] at hck
    obtain ⟨hdg, rfl, rfl⟩ := hck
    exact rf_k_lst (fun H locs cells slots ls rest a lv h1 h2 kk => lv_lstore hx hb hdg h1 h2 rfl kk) hr hps k
  case lstore_n a =>
    simp only [rf_ck1, Bool.and_eq_true, decide_eq_true_eq, Nat.beq_eq, Nat.blt_eq] at hck
    obtain ⟨hdg, rfl, hv⟩ := hck
    exact rf_k_lst (fun H locs cells slots ls rest a lv h1 h2 kk => lv_lstore_n hx hb hdg hv h1 h2 rfl kk) hr hps k
  case iinc a b =>
    simp only [rf_ck1, Bool.and_eq_true, decide_eq_true_eq, Nat.beq_eq, Nat.blt_eq] at hck
    obtain ⟨hdg, ⟨rfl, rfl⟩, hv⟩ := hck
    exact rf_k_inc (fun H locs cells slots ls rest a lv q h1 h2 h3 kk => lv_iinc hx hb hdg h1 h3 (by rw [hv]) h2 rfl kk) hr hps k
  case iadd =>
    simp only [rf_ck1, Bool.and_eq_true, decide_eq_true_eq, Nat.beq_eq, Nat.blt_eq] at hck
    obtain ⟨hdg, rfl⟩ := hck
    exact rf_k_i2 (fun H locs cells slots ls rest a b kk => lv_iadd hx hb hdg kk) hr hps k
  case isub =>
    simp only [rf_ck1, Bool.and_eq_true, decide_eq_true_eq, Nat.beq_eq, Nat.blt_eq] at hck
    obtain ⟨hdg, rfl⟩ := hck
    exact rf_k_i2 (fun H locs cells slots ls rest a b kk => lv_isub hx hb hdg kk) hr hps k
  case imul =>
    simp only [rf_ck1, Bool.and_eq_true, decide_eq_true_eq, Nat.beq_eq, Nat.blt_eq] at hck
    obtain ⟨hdg, rfl⟩ := hck
    exact rf_k_i2 (fun H locs cells slots ls rest a b kk => lv_imul hx hb hdg kk) hr hps k
  case iand =>
    simp only [rf_ck1, Bool.and_eq_true, decide_eq_true_eq, Nat.beq_eq, Nat.blt_eq] at hck
    obtain ⟨hdg, rfl⟩ := hck
    exact rf_k_i2 (fun H locs cells slots ls rest a b kk => lv_iand hx hb hdg kk) hr hps k
  case ior =>
    simp only [rf_ck1, Bool.and_eq_true, decide_eq_true_eq, Nat.beq_eq, Nat.blt_eq] at hck
    obtain ⟨hdg, rfl⟩ := hck
    exact rf_k_i2 (fun H locs cells slots ls rest a b kk => lv_ior hx hb hdg kk) hr hps k
  case ixor =>
    simp only [rf_ck1, Bool.and_eq_true, decide_eq_true_eq, Nat.beq_eq, Nat.blt_eq] at hck
    obtain ⟨hdg, rfl⟩ := hck
    exact rf_k_i2 (fun H locs cells slots ls rest a b kk => lv_ixor hx hb hdg kk) hr hps k
  case ishl =>
    simp only [rf_ck1, Bool.and_eq_true, decide_eq_true_eq, Nat.beq_eq, Nat.blt_eq] at hck
    obtain ⟨hdg, rfl⟩ := hck
    exact rf_k_i2 (fun H locs cells slots ls rest a b kk => lv_ishl hx hb hdg kk) hr hps k
  case ishr =>
    simp only [rf_ck1, Bool.and_eq_true, decide_eq_true_eq, Nat.beq_eq, Nat.blt_eq] at hck
    obtain ⟨hdg, rfl⟩ := hck
    exact rf_k_i2 (fun H locs cells slots ls rest a b kk => lv_ishr hx hb hdg kk) hr hps k
  case iushr =>
    simp only [rf_ck1, Bool.and_eq_true, decide_eq_true_eq, Nat.beq_eq, Nat.blt_eq] at hck
    obtain ⟨hdg, rfl⟩ := hck
    exact rf_k_i2 (fun H locs cells slots ls rest a b kk => lv_iushr hx hb hdg rfl kk) hr hps k
  case idiv =>
    simp only [rf_ck1, Bool.and_eq_true, decide_eq_true_eq, Nat.beq_eq, Nat.blt_eq] at hck
    obtain ⟨hdg, rfl⟩ := hck
    exact rf_k_i2z (fun H locs cells slots ls rest a b h kk => lv_idiv hx hb hdg h kk) hr hps k
  case irem =>
    simp only [rf_ck1, Bool.and_eq_true, decide_eq_true_eq, Nat.beq_eq, Nat.blt_eq] at hck
    obtain ⟨hdg, rfl⟩ := hck
    exact rf_k_i2z (fun H locs cells slots ls rest a b h kk => lv_irem hx hb hdg h kk) hr hps k
  case ineg =>
    simp only [rf_ck1, Bool.and_eq_true, decide_eq_true_eq, Nat.beq_eq, Nat.blt_eq] at hck
    obtain ⟨hdg, rfl⟩ := hck
    exact rf_k_i1 (fun H locs cells slots ls rest a kk => lv_ineg hx hb hdg kk) hr hps k
  case i2b =>
    simp only [rf_ck1, Bool.and_eq_true, decide_eq_true_eq, Nat.beq_eq, Nat.blt_eq] at hck
    obtain ⟨hdg, rfl⟩ := hck
    exact rf_k_i1 (fun H locs cells slots ls rest a kk => lv_i2b hx hb hdg rfl kk) hr hps k
  case i2s =>
    simp only [rf_ck1, Bool.and_eq_true, decide_eq_true_eq, Nat.beq_eq, Nat.blt_eq] at hck
    obtain ⟨hdg, rfl⟩ := hck
    exact rf_k_i1 (fun H locs cells slots ls rest a kk => lv_i2s hx hb hdg rfl kk) hr hps k
  case i2c =>
    simp only [rf_ck1, Bool.and_eq_true, decide_eq_true_eq, Nat.beq_eq, Nat.blt_eq] at hck
    obtain ⟨hdg, rfl⟩ := hck
    exact rf_k_i1 (fun H locs cells slots ls rest a kk => lv_i2c hx hb hdg rfl kk) hr hps k
  case i2l =>
    simp only [rf_ck1, Bool.and_eq_true, decide_eq_true_eq, Nat.beq_eq, Nat.blt_eq] at hck
    obtain ⟨hdg, rfl⟩ := hck
    exact rf_k_i2l (fun H locs cells slots ls rest a kk => lv_i2l hx hb hdg rfl kk) hr hps k
  case l2i =>
    simp only [rf_ck1, Bool.and_eq_true, decide_eq_true_eq, Nat.beq_eq, Nat.blt_eq] at hck
    obtain ⟨hdg, rfl⟩ := hck
    exact rf_k_l2i (fun H locs cells slots ls rest a kk => lv_l2i hx hb hdg rfl kk) hr hps k
  case ladd =>
    simp only [rf_ck1, Bool.and_eq_true, decide_eq_true_eq, Nat.beq_eq, Nat.blt_eq] at hck
    obtain ⟨hdg, rfl⟩ := hck
    exact rf_k_l2 (fun H locs cells slots ls rest a b kk => lv_ladd hx hb hdg kk) hr hps k
  case lsub =>
    simp only [rf_ck1, Bool.and_eq_true, decide_eq_true_eq, Nat.beq_eq, Nat.blt_eq] at hck
    obtain ⟨hdg, rfl⟩ := hck
    exact rf_k_l2 (fun H locs cells slots ls rest a b kk => lv_lsub hx hb hdg kk) hr hps k
  case lmul =>
    simp only [rf_ck1, Bool.and_eq_true, decide_eq_true_eq, Nat.beq_eq, Nat.blt_eq] at hck
    obtain ⟨hdg, rfl⟩ := hck
    exact rf_k_l2 (fun H locs cells slots ls rest a b kk => lv_lmul hx hb hdg kk) hr hps k
  case land =>
    simp only [rf_ck1, Bool.and_eq_true, decide_eq_true_eq, Nat.beq_eq, Nat.blt_eq] at hck
    obtain ⟨hdg, rfl⟩ := hck
    exact rf_k_l2 (fun H locs cells slots ls rest a b kk => lv_land hx hb hdg kk) hr hps k
  case lor =>
    simp only [rf_ck1, Bool.and_eq_true, decide_eq_true_eq, Nat.beq_eq, Nat.blt_eq] at hck
    obtain ⟨hdg, rfl⟩ := hck
    exact rf_k_l2 (fun H locs cells slots ls rest a b kk => lv_lor hx hb hdg kk) hr hps k
  case ldiv =>
    simp only [rf_ck1, Bool.and_eq_true, decide_eq_true_eq, Nat.beq_eq, Nat.blt_eq] at hck
    obtain ⟨hdg, rfl⟩ := hck
    exact rf_k_l2z (fun H locs cells slots ls rest a b h kk => lv_ldiv hx hb hdg h kk) hr hps k
  case lrem =>
    simp only [rf_ck1, Bool.and_eq_true, decide_eq_true_eq, Nat.beq_eq, Nat.blt_eq] at hck
    obtain ⟨hdg, rfl⟩ := hck
    exact rf_k_l2z (fun H locs cells slots ls rest a b h kk => lv_lrem hx hb hdg h kk) hr hps k
  case lshl =>
    simp only [rf_ck1, Bool.and_eq_true, decide_eq_true_eq, Nat.beq_eq, Nat.blt_eq] at hck
    obtain ⟨hdg, rfl⟩ := hck
    exact rf_k_lsh (fun H locs cells slots ls rest a b kk => lv_lshl hx hb hdg rfl kk) hr hps k
  case lshr =>
    simp only [rf_ck1, Bool.and_eq_true, decide_eq_true_eq, Nat.beq_eq, Nat.blt_eq] at hck
    obtain ⟨hdg, rfl⟩ := hck
    exact rf_k_lsh (fun H locs cells slots ls rest a b kk => lv_lshr hx hb hdg rfl kk) hr hps k
  case lushr =>
    simp only [rf_ck1, Bool.and_eq_true, decide_eq_true_eq, Nat.beq_eq, Nat.blt_eq] at hck
    obtain ⟨hdg, rfl⟩ := hck
    exact rf_k_lsh (fun H locs cells slots ls rest a b kk => lv_lushr hx hb hdg rfl kk) hr hps k
  case lcmp =>
    simp only [rf_ck1, Bool.and_eq_true, decide_eq_true_eq, Nat.beq_eq, Nat.blt_eq] at hck
    obtain ⟨hdg, rfl⟩ := hck
    exact rf_k_lcmp (fun H locs cells slots ls rest a b kk => W.lcmp hx hb hdg kk) hr hps k
  case dup =>
    simp only [rf_ck1, Bool.and_eq_true, decide_eq_true_eq, Nat.beq_eq, Nat.blt_eq] at hck
    obtain ⟨hdg, rfl⟩ := hck
    exact rf_k_dup (fun H locs cells slots ls rest a h kk => lv_dup hx hb hdg h kk) hr hps k
  case dup2 =>
    simp only [rf_ck1, Bool.and_eq_true, decide_eq_true_eq, Nat.beq_eq, Nat.blt_eq] at hck
    obtain ⟨hdg, rfl⟩ := hck
    exact rf_k_dup2 (fun H locs cells slots ls rest a b kk => lv_dup2_11 hx hb hdg rfl rfl kk) hr hps k
  case pop =>
    simp only [rf_ck1, Bool.and_eq_true, decide_eq_true_eq, Nat.beq_eq, Nat.blt_eq] at hck
    obtain ⟨hdg, rfl⟩ := hck
    exact rf_k_pop (fun H locs cells slots ls rest a kk => lv_pop hx hb hdg rfl kk) hr hps k
  case nop =>
    simp only [rf_ck1, Nat.beq_eq] at hck
    subst hck
    exact rf_k_kill hr k
  case iaload =>
    simp only [rf_ck1, Bool.and_eq_true, decide_eq_true_eq, Nat.beq_eq, Nat.blt_eq] at hck
    obtain ⟨hdg, rfl⟩ := hck
    exact rf_k_eld hC1 hE (Or.inl ⟨rfl, hdg⟩) hr hps k
  case baload =>
    simp only [rf_ck1, Bool.and_eq_true, decide_eq_true_eq, Nat.beq_eq, Nat.blt_eq] at hck
    obtain ⟨hdg, rfl⟩ := hck
    exact rf_k_eld hC1 hE (Or.inr ⟨rfl, hdg⟩) hr hps k
  case iastore =>
    simp only [rf_ck1, Bool.and_eq_true, decide_eq_true_eq, Nat.beq_eq, Nat.blt_eq] at hck
    obtain ⟨hdg, rfl⟩ := hck
    exact rf_k_est hC1 (Or.inl ⟨rfl, hdg⟩) hr hps k
  case bastore =>
    simp only [rf_ck1, Bool.and_eq_true, decide_eq_true_eq, Nat.beq_eq, Nat.blt_eq] at hck
    obtain ⟨hdg, rfl⟩ := hck
    exact rf_k_est hC1 (Or.inr ⟨rfl, hdg⟩) hr hps k
  case aaload =>
    simp only [rf_ck1, Bool.and_eq_true, decide_eq_true_eq, Nat.beq_eq, Nat.blt_eq] at hck
    obtain ⟨hdg, rfl⟩ := hck
    exact rf_k_aald hC1 hdg hr hps k
  case arraylength =>
    simp only [rf_ck1, Bool.and_eq_true, decide_eq_true_eq, Nat.beq_eq, Nat.blt_eq] at hck
    obtain ⟨hdg, rfl⟩ := hck
    exact rf_k_alen hC1 hE hdg hr hps k
  case new a =>
    simp only [rf_ck1, Bool.and_eq_true, decide_eq_true_eq, Nat.beq_eq, Nat.blt_eq] at hck
    obtain ⟨hdg, ⟨rfl, h1⟩, h2⟩ := hck
    exact rf_k_newo hC1 hR hE h1 (rf_hw_w h2) hdg hr hps hn k
  case newarray a =>
    simp only [rf_ck1, Bool.and_eq_true, decide_eq_true_eq, Nat.beq_eq, Nat.blt_eq] at hck
    obtain ⟨hdg, rfl, h1⟩ := hck
    split at h1
    · exact rf_k_newr hC1 hR hE (Or.inl ⟨rfl, hdg⟩) hr hps hn k
    · exact rf_k_newr hC1 hR hE (Or.inr ⟨rfl, hdg⟩) hr hps hn k
    · cases h1
  case multianewarray a b =>
    simp only [rf_ck1, Bool.and_eq_true, decide_eq_true_eq, Nat.beq_eq, Nat.blt_eq] at hck
    obtain ⟨hdg, ⟨rfl, rfl⟩, h2⟩ := hck
    exact rf_k_new2 hC1 hR hE (rf_hw_w h2) hdg hr hps hn k
  case putfield a =>
    simp only [rf_ck1, Bool.and_eq_true, decide_eq_true_eq, Nat.beq_eq, Nat.blt_eq] at hck
    obtain ⟨hdg, ⟨⟨⟨rfl, h1⟩, h2⟩, h3⟩, h4⟩ := hck
    refine rf_k_put hC1 h1 h2 (rf_hw_w h3) ?_ hdg hr hps k
    simp only [Bool.or_eq_true, Bool.not_eq_true', Bool.and_eq_true, decide_eq_true_eq] at h4
    exact h4
  case getfield a =>
    simp only [rf_ck1, Bool.and_eq_true, decide_eq_true_eq, Nat.beq_eq, Nat.blt_eq] at hck
    obtain ⟨hdg, rfl, h1⟩ := hck
    have hr1 : cond (Nat.blt x 100) (rf_get T x y v S) (rf_sget y S) = (ps, S') := hr
    cases hb1 : Nat.blt x 100 with
    | true =>
      rw [hb1, cond_true] at h1 hr1
      simp only [Bool.and_eq_true, Nat.blt_eq] at h1
      exact rf_k_get hC1 h1.1.1 h1.1.2 (rf_hw_w h1.2) hdg hr1 hps k
    | false =>
      rw [hb1, cond_false] at h1 hr1
      refine rf_k_sget hC1 hE ?_ hdg hr1 hps k
      cases y with
      | zero => exact Or.inl ⟨rfl, rf_hw_w h1⟩
      | succ y => exact Or.inr ⟨by omega, rf_hw_w h1⟩
  case getstatic a =>
    simp only [rf_ck1, Bool.and_eq_true, decide_eq_true_eq, Nat.beq_eq, Nat.blt_eq] at hck
    obtain ⟨hdg, rfl, h1⟩ := hck
    obtain ⟨E1, E2, E3, E4, E5, E6, E7⟩ := hE
    split at h1
    · obtain ⟨L, st, n, σ⟩ := S
      cases hr
      exact rf_pure (fun ad cid H locs ls hag hw hS hL kk => va_gets hx hb E6 hS hown (hts _ (rf_hw_w h1)) (fun _ h => h) hdg kk) k
    · obtain ⟨L, st, n, σ⟩ := S
      cases hr
      refine rf_pure (fun ad cid H locs ls hag hw hS hL kk => ?_) k
      have ea : rf_cv ad (.ref 1001) = .ref (ad0 1001) := by
        show Value.ref (ad 1001) = _
        rw [hag 1001 (Or.inr (by decide))]
      rw [List.map_cons, ea] at kk
      simp only [Bool.or_eq_true, decide_eq_true_eq] at h1
      rcases h1 with h1 | h1
      · exact va_gets hx hb E4 hS hown (hts _ (rf_hw_w h1)) (fun _ h => h) hdg kk
      · exact va_getsN hx hb E4 hS hown (va_Nw.use rfl (E1.2.1 _ (rf_nest_m rfl h1))) (fun _ h => h) hdg kk
    · obtain ⟨L, st, n, σ⟩ := S
      cases hr
      refine rf_pure (fun ad cid H locs ls hag hw hS hL kk => ?_) k
      have ea : rf_cv ad (.ref 1002) = .ref (ad0 1002) := by
        show Value.ref (ad 1002) = _
        rw [hag 1002 (Or.inr (by decide))]
      rw [List.map_cons, ea] at kk
      exact va_gets hx hb E5 hS hown (hts _ (rf_hw_w h1)) (fun _ h => h) hdg kk
    · cases h1
  case ldc a =>
    simp only [rf_ck1, Bool.and_eq_true, decide_eq_true_eq, Nat.beq_eq, Nat.blt_eq] at hck
    obtain ⟨hdg, rfl, h1⟩ := hck
    have hr1 : cond (Nat.beq x 0) (rf_push (.int v) S) (rf_push (.ref x) S) = (ps, S') := hr
    cases hb1 : Nat.beq x 0 with
    | true =>
      rw [hb1, cond_true] at h1 hr1
      exact rf_k_push (fun _ => rfl) (fun H locs cells slots ls rest kk => lv_ldc hx hb hown (hts _ (rf_hw_w h1)) hdg kk) hr1 k
    | false =>
      rw [hb1, cond_false] at h1 hr1
      simp only [Bool.and_eq_true, decide_eq_true_eq, Nat.ble_eq] at h1
      obtain ⟨⟨⟨h2, h3⟩, h4⟩, h5⟩ := h1
      obtain ⟨L, st, n, σ⟩ := S
      cases hr1
      refine rf_pure (fun ad cid H locs ls hag hw hS hL kk => ?_) k
      have ea : rf_cv ad (.ref x) = .ref (ad0 x) := by
        show Value.ref (ad x) = _
        rw [hag x (Or.inr (by omega))]
      rw [List.map_cons, ea] at kk
      exact va_ldcS hx hb (by rw [h2] at hown; exact hown) (hE.2.2.2.2.2.2 x h3 h4 a _ (List.mem_of_getElem? h5) rfl) hdg kk
  case invokespecial a =>
    simp only [rf_ck1, Bool.and_eq_true, decide_eq_true_eq, Nat.beq_eq, Nat.blt_eq] at hck
    obtain ⟨hdg, rfl, h1⟩ := hck
    refine rf_k_oinit (fun H locs cells slots ls rest a h hs kk => W.objInit hx hb hown (hts _ (rf_hw_w h1)) (hts _ rf_w_oi.1) (hts _ rf_w_oi.2) rfl (by rw [hml]; exact hs) rfl hdg hframes ?_ kk) hr hps k
    have h2 := rf_cats rest
    have h3 : 2 * (F0 m pc ls (.ref a :: rest)).monitorRoom + (rest.map fun v => v.category).sum ≤ 2 * rest.length := by
      have h4 : (F0 m pc ls (.ref a :: rest)).monitorRoom = 0 := rfl
      omega
    omega
  case invokestatic a =>
    simp only [rf_ck1, Bool.and_eq_true, decide_eq_true_eq, Nat.beq_eq, Nat.blt_eq] at hck
    obtain ⟨hdg, rfl, h1⟩ := hck
    split at h1
    · refine rf_k_mm (f := rf_max) hR (fun H locs cells slots ls rest a b h hs h5 h6 kk => ?_) hr hps k
      have h2 := rf_cats rest
      exact va_mmax hx hb (by rw [hml]; exact hs.symm) hown (hts _ (rf_hw_w h1)) (hts _ rf_w_mx.1) (hts _ rf_w_mx.2.1) (hts _ rf_w_mx.2.2) hframes (by omega) h5 h6 hdg kk
    · refine rf_k_mm (f := rf_min) hR (fun H locs cells slots ls rest a b h hs h5 h6 kk => ?_) hr hps k
      have h2 := rf_cats rest
      exact va_mmin hx hb (by rw [hml]; exact hs.symm) hown (hts _ (rf_hw_w h1)) (hts _ rf_w_mn.1) (hts _ rf_w_mx.2.1) (hts _ rf_w_mn.2) hframes (by omega) h5 h6 hdg kk
    · exact rf_k_copy hC1 hR hd1 (rf_hw_w h1) hdg hr hps k
    · cases h1
  all_goals exact (rf_badf hr hps).elim
end RFX
