section MR
variable {E : mE} {M : mM} {K : mKt} {pc pc' : Nat} {L L' : List (Option Value)} {st : List Value} {a : Nat × Nat × Nat} {h h' : mH}
theorem mG_pc {pc2 : Nat} (e : pc = pc2) (k : mG E M K pc2 L st a h) : mG E M K pc L st a h := e ▸ k
theorem mI_ofInt (n : Nat) : Int32.ofInt (n : Int) = nI n := by
  first | rfl | exact Int32.ofInt_eq_ofNat | simp [nI]
theorem mG_iconst {n : Int} {v : Int32} (hd : mD M.2.2.1 pc (.iconst n) 1 pc') (hv : Int32.ofInt n = v) (k : mG E M K pc' L (.int v :: st) a h) : mG E M K pc L (st) a h := by
  obtain ⟨hd, rfl⟩ := hd
  exact fun p e s m args below meth c H locs ls C R S V => lv_iconst C.1 C.2.1 hd hv (k p e s m args below meth c H locs ls C R S V)
theorem mG_bipush {n : Int} {v : Int32} (hd : mD M.2.2.1 pc (.bipush n) 2 pc') (hv : (Int8.ofInt n).toInt32 = v) (k : mG E M K pc' L (.int v :: st) a h) : mG E M K pc L (st) a h := by
  obtain ⟨hd, rfl⟩ := hd
  exact fun p e s m args below meth c H locs ls C R S V => lv_bipush C.1 C.2.1 hd hv (k p e s m args below meth c H locs ls C R S V)
theorem mG_sipush {n : Int} {v : Int32} (hd : mD M.2.2.1 pc (.sipush n) 3 pc') (hv : (Int16.ofInt n).toInt32 = v) (k : mG E M K pc' L (.int v :: st) a h) : mG E M K pc L (st) a h := by
  obtain ⟨hd, rfl⟩ := hd
  exact fun p e s m args below meth c H locs ls C R S V => lv_sipush C.1 C.2.1 hd hv (k p e s m args below meth c H locs ls C R S V)
theorem mG_lconst {n : Fin 2} {v : Int64} (hd : mD M.2.2.1 pc (.lconst n) 1 pc') (hv : Int64.ofNat (n : Nat) = v) (k : mG E M K pc' L (.long v :: st) a h) : mG E M K pc L (st) a h := by
  obtain ⟨hd, rfl⟩ := hd
  exact fun p e s m args below meth c H locs ls C R S V => lv_lconst C.1 C.2.1 hd hv (k p e s m args below meth c H locs ls C R S V)
theorem mG_ldc {i : Nat} {v : Int32} (hd : mD M.2.2.1 pc (.ldc i) 2 pc') (hw : Cond.constant M.2.1.cls i v ∈ mw) (k : mG E M K pc' L (.int v :: st) a h) : mG E M K pc L (st) a h := by
  obtain ⟨hd, rfl⟩ := hd
  exact fun p e s m args below meth c H locs ls C R S V => lv_ldc C.1 C.2.1 C.2.2.2.2.2.1 (C.2.2.2.2.2.2.2.1 _ hw) hd (k p e s m args below meth c H locs ls C R S V)
theorem mG_ldcw {i : Nat} {v : Int32} (hd : mD M.2.2.1 pc (.ldc_w i) 3 pc') (hw : Cond.constant M.2.1.cls i v ∈ mw) (k : mG E M K pc' L (.int v :: st) a h) : mG E M K pc L (st) a h := by
  obtain ⟨hd, rfl⟩ := hd
  exact fun p e s m args below meth c H locs ls C R S V => lv_ldcw C.1 C.2.1 C.2.2.2.2.2.1 (C.2.2.2.2.2.2.2.1 _ hw) hd (k p e s m args below meth c H locs ls C R S V)
theorem mG_ldc2 {i : Nat} {v : Int64} (hd : mD M.2.2.1 pc (.ldc2_w i) 3 pc') (hw : Cond.constantLong M.2.1.cls i v ∈ mw) (k : mG E M K pc' L (.long v :: st) a h) : mG E M K pc L (st) a h := by
  obtain ⟨hd, rfl⟩ := hd
  exact fun p e s m args below meth c H locs ls C R S V => lv_ldc2 C.1 C.2.1 C.2.2.2.2.2.1 (C.2.2.2.2.2.2.2.1 _ hw) hd (k p e s m args below meth c H locs ls C R S V)
theorem mG_iload_n {k : Fin 4} {x : Int32} (hd : mD M.2.2.1 pc (.iload_n k) 1 pc') (hl : L[(k : Nat)]? = some (some (.int x))) (k : mG E M K pc' L (.int x :: st) a h) : mG E M K pc L (st) a h := by
  obtain ⟨hd, rfl⟩ := hd
  exact fun p e s m args below meth c H locs ls C R S V => lv_iload_n C.1 C.2.1 hd rfl (mHas_at V hl) (k p e s m args below meth c H locs ls C R S V)
theorem mG_iload {i : Nat} {x : Int32} (hd : mD M.2.2.1 pc (.iload i) 2 pc') (hl : L[i]? = some (some (.int x))) (k : mG E M K pc' L (.int x :: st) a h) : mG E M K pc L (st) a h := by
  obtain ⟨hd, rfl⟩ := hd
  exact fun p e s m args below meth c H locs ls C R S V => lv_iload C.1 C.2.1 hd (mHas_at V hl) (k p e s m args below meth c H locs ls C R S V)
theorem mG_lload {i : Nat} {x : Int64} (hd : mD M.2.2.1 pc (.lload i) 2 pc') (hl : L[i]? = some (some (.long x))) (k : mG E M K pc' L (.long x :: st) a h) : mG E M K pc L (st) a h := by
  obtain ⟨hd, rfl⟩ := hd
  exact fun p e s m args below meth c H locs ls C R S V => lv_lload C.1 C.2.1 hd (mHas_at V hl) (k p e s m args below meth c H locs ls C R S V)
theorem mG_aload_n {k : Fin 4} {x : Nat} (hd : mD M.2.2.1 pc (.aload_n k) 1 pc') (hl : L[(k : Nat)]? = some (some (.ref x))) (k : mG E M K pc' L (.ref x :: st) a h) : mG E M K pc L (st) a h := by
  obtain ⟨hd, rfl⟩ := hd
  exact fun p e s m args below meth c H locs ls C R S V => lv_aload_n C.1 C.2.1 hd rfl (mHas_at V hl) (k p e s m args below meth c H locs ls C R S V)
theorem mG_aload {i : Nat} {x : Nat} (hd : mD M.2.2.1 pc (.aload i) 2 pc') (hl : L[i]? = some (some (.ref x))) (k : mG E M K pc' L (.ref x :: st) a h) : mG E M K pc L (st) a h := by
  obtain ⟨hd, rfl⟩ := hd
  exact fun p e s m args below meth c H locs ls C R S V => lv_aload C.1 C.2.1 hd (mHas_at V hl) (k p e s m args below meth c H locs ls C R S V)
theorem mG_iadd {x y : Int32} (hd : mD M.2.2.1 pc (.iadd) 1 pc')  (k : mG E M K pc' L (.int (x + y) :: st) a h) : mG E M K pc L (.int y :: .int x :: st) a h := by
  obtain ⟨hd, rfl⟩ := hd
  exact fun p e s m args below meth c H locs ls C R S V => lv_iadd C.1 C.2.1 hd (k p e s m args below meth c H locs ls C R S V)
theorem mG_isub {x y : Int32} (hd : mD M.2.2.1 pc (.isub) 1 pc')  (k : mG E M K pc' L (.int (x - y) :: st) a h) : mG E M K pc L (.int y :: .int x :: st) a h := by
  obtain ⟨hd, rfl⟩ := hd
  exact fun p e s m args below meth c H locs ls C R S V => lv_isub C.1 C.2.1 hd (k p e s m args below meth c H locs ls C R S V)
theorem mG_imul {x y : Int32} (hd : mD M.2.2.1 pc (.imul) 1 pc')  (k : mG E M K pc' L (.int (x * y) :: st) a h) : mG E M K pc L (.int y :: .int x :: st) a h := by
  obtain ⟨hd, rfl⟩ := hd
  exact fun p e s m args below meth c H locs ls C R S V => lv_imul C.1 C.2.1 hd (k p e s m args below meth c H locs ls C R S V)
theorem mG_iand {x y : Int32} (hd : mD M.2.2.1 pc (.iand) 1 pc')  (k : mG E M K pc' L (.int (x &&& y) :: st) a h) : mG E M K pc L (.int y :: .int x :: st) a h := by
  obtain ⟨hd, rfl⟩ := hd
  exact fun p e s m args below meth c H locs ls C R S V => lv_iand C.1 C.2.1 hd (k p e s m args below meth c H locs ls C R S V)
theorem mG_ior {x y : Int32} (hd : mD M.2.2.1 pc (.ior) 1 pc')  (k : mG E M K pc' L (.int (x ||| y) :: st) a h) : mG E M K pc L (.int y :: .int x :: st) a h := by
  obtain ⟨hd, rfl⟩ := hd
  exact fun p e s m args below meth c H locs ls C R S V => lv_ior C.1 C.2.1 hd (k p e s m args below meth c H locs ls C R S V)
theorem mG_ixor {x y : Int32} (hd : mD M.2.2.1 pc (.ixor) 1 pc')  (k : mG E M K pc' L (.int (x ^^^ y) :: st) a h) : mG E M K pc L (.int y :: .int x :: st) a h := by
  obtain ⟨hd, rfl⟩ := hd
  exact fun p e s m args below meth c H locs ls C R S V => lv_ixor C.1 C.2.1 hd (k p e s m args below meth c H locs ls C R S V)
theorem mG_ishl {x y : Int32} (hd : mD M.2.2.1 pc (.ishl) 1 pc')  (k : mG E M K pc' L (.int (x <<< (y &&& 31)) :: st) a h) : mG E M K pc L (.int y :: .int x :: st) a h := by
  obtain ⟨hd, rfl⟩ := hd
  exact fun p e s m args below meth c H locs ls C R S V => lv_ishl C.1 C.2.1 hd (k p e s m args below meth c H locs ls C R S V)
theorem mG_ishr {x y : Int32} (hd : mD M.2.2.1 pc (.ishr) 1 pc')  (k : mG E M K pc' L (.int (x >>> (y &&& 31)) :: st) a h) : mG E M K pc L (.int y :: .int x :: st) a h := by
  obtain ⟨hd, rfl⟩ := hd
  exact fun p e s m args below meth c H locs ls C R S V => lv_ishr C.1 C.2.1 hd (k p e s m args below meth c H locs ls C R S V)
theorem mG_iushr {x y v : Int32} (hd : mD M.2.2.1 pc (.iushr) 1 pc') (hv : (x.toUInt32 >>> (y.toUInt32 &&& Int32.toUInt32 31)).toInt32 = v) (k : mG E M K pc' L (.int v :: st) a h) : mG E M K pc L (.int y :: .int x :: st) a h := by
  obtain ⟨hd, rfl⟩ := hd
  exact fun p e s m args below meth c H locs ls C R S V => lv_iushr C.1 C.2.1 hd hv (k p e s m args below meth c H locs ls C R S V)
theorem mG_idiv {x y : Int32} (hd : mD M.2.2.1 pc (.idiv) 1 pc') (hne : ¬ y = 0) (k : mG E M K pc' L (.int (x / y) :: st) a h) : mG E M K pc L (.int y :: .int x :: st) a h := by
  obtain ⟨hd, rfl⟩ := hd
  exact fun p e s m args below meth c H locs ls C R S V => lv_idiv C.1 C.2.1 hd hne (k p e s m args below meth c H locs ls C R S V)
theorem mG_irem {x y : Int32} (hd : mD M.2.2.1 pc (.irem) 1 pc') (hne : ¬ y = 0) (k : mG E M K pc' L (.int (x - x / y * y) :: st) a h) : mG E M K pc L (.int y :: .int x :: st) a h := by
  obtain ⟨hd, rfl⟩ := hd
  exact fun p e s m args below meth c H locs ls C R S V => lv_irem C.1 C.2.1 hd hne (k p e s m args below meth c H locs ls C R S V)
theorem mG_ladd {x y : Int64} (hd : mD M.2.2.1 pc (.ladd) 1 pc')  (k : mG E M K pc' L (.long (x + y) :: st) a h) : mG E M K pc L (.long y :: .long x :: st) a h := by
  obtain ⟨hd, rfl⟩ := hd
  exact fun p e s m args below meth c H locs ls C R S V => lv_ladd C.1 C.2.1 hd (k p e s m args below meth c H locs ls C R S V)
theorem mG_lmul {x y : Int64} (hd : mD M.2.2.1 pc (.lmul) 1 pc')  (k : mG E M K pc' L (.long (x * y) :: st) a h) : mG E M K pc L (.long y :: .long x :: st) a h := by
  obtain ⟨hd, rfl⟩ := hd
  exact fun p e s m args below meth c H locs ls C R S V => lv_lmul C.1 C.2.1 hd (k p e s m args below meth c H locs ls C R S V)
theorem mG_lcmp {x y : Int64} (hd : mD M.2.2.1 pc (.lcmp) 1 pc')  (k : mG E M K pc' L (.int (lg_cmp x y) :: st) a h) : mG E M K pc L (.long y :: .long x :: st) a h := by
  obtain ⟨hd, rfl⟩ := hd
  exact fun p e s m args below meth c H locs ls C R S V => W.lcmp C.1 C.2.1 hd (k p e s m args below meth c H locs ls C R S V)
theorem mG_i2l {x : Int32} (hd : mD M.2.2.1 pc (.i2l) 1 pc')  (k : mG E M K pc' L (.long x.toInt64 :: st) a h) : mG E M K pc L (.int x :: st) a h := by
  obtain ⟨hd, rfl⟩ := hd
  exact fun p e s m args below meth c H locs ls C R S V => lv_i2l C.1 C.2.1 hd rfl (k p e s m args below meth c H locs ls C R S V)
theorem mG_i2b {x : Int32} (hd : mD M.2.2.1 pc (.i2b) 1 pc')  (k : mG E M K pc' L (.int x.toInt8.toInt32 :: st) a h) : mG E M K pc L (.int x :: st) a h := by
  obtain ⟨hd, rfl⟩ := hd
  exact fun p e s m args below meth c H locs ls C R S V => lv_i2b C.1 C.2.1 hd rfl (k p e s m args below meth c H locs ls C R S V)
theorem mG_dup {v : Value} (hd : mD M.2.2.1 pc (.dup) 1 pc') (hv : v.category = 1) (k : mG E M K pc' L (v :: v :: st) a h) : mG E M K pc L (v :: st) a h := by
  obtain ⟨hd, rfl⟩ := hd
  exact fun p e s m args below meth c H locs ls C R S V => lv_dup C.1 C.2.1 hd ((mrv_cat E v).trans hv) (k p e s m args below meth c H locs ls C R S V)
theorem mG_pop {v : Value} (hd : mD M.2.2.1 pc (.pop) 1 pc') (hv : v.category = 1) (k : mG E M K pc' L (st) a h) : mG E M K pc L (v :: st) a h := by
  obtain ⟨hd, rfl⟩ := hd
  exact fun p e s m args below meth c H locs ls C R S V => lv_pop C.1 C.2.1 hd ((mrv_cat E v).trans hv) (k p e s m args below meth c H locs ls C R S V)
theorem mG_dup2 {v w : Value} (hd : mD M.2.2.1 pc (.dup2) 1 pc') (hv : v.category = 1) (hw : w.category = 1) (k : mG E M K pc' L (v :: w :: v :: w :: st) a h) : mG E M K pc L (v :: w :: st) a h := by
  obtain ⟨hd, rfl⟩ := hd
  exact fun p e s m args below meth c H locs ls C R S V => lv_dup2_11 C.1 C.2.1 hd ((mrv_cat E v).trans hv) ((mrv_cat E w).trans hw) (k p e s m args below meth c H locs ls C R S V)
/-! numbers that are naturals -/
theorem mG_iaddN {x y : Nat} (hd : mD M.2.2.1 pc .iadd 1 pc')  (k : mG E M K pc' L (.int (nI (x + y)) :: st) a h) : mG E M K pc L (.int (nI y) :: .int (nI x) :: st) a h := by
  refine mG_iadd hd ?_
  rw [nI_add]
  exact k
theorem mG_imulN {x y : Nat} (hd : mD M.2.2.1 pc .imul 1 pc')  (k : mG E M K pc' L (.int (nI (x * y)) :: st) a h) : mG E M K pc L (.int (nI y) :: .int (nI x) :: st) a h := by
  refine mG_imul hd ?_
  rw [pk_mul]
  exact k
theorem mG_isubN {x y : Nat} (hd : mD M.2.2.1 pc .isub 1 pc') (hle : y ≤ x) (k : mG E M K pc' L (.int (nI (x - y)) :: st) a h) : mG E M K pc L (.int (nI y) :: .int (nI x) :: st) a h := by
  refine mG_isub hd ?_
  rw [pk_sub hle]
  exact k
theorem nI_ne {y : Nat} (h0 : 0 < y) (hy : y < 2 ^ 31) : ¬ nI y = 0 := nI_ne0 h0 hy
theorem mG_idivN {x y : Nat} (hd : mD M.2.2.1 pc .idiv 1 pc') (hx : x < 2 ^ 31) (h0 : 0 < y) (hy : y < 2 ^ 31) (k : mG E M K pc' L (.int (nI (x / y)) :: st) a h) : mG E M K pc L (.int (nI y) :: .int (nI x) :: st) a h := by
  refine mG_idiv hd (nI_ne h0 hy) ?_
  rw [pk_div hx h0 hy]
  exact k
theorem mG_iremN {x y : Nat} (hd : mD M.2.2.1 pc .irem 1 pc') (hx : x < 2 ^ 31) (h0 : 0 < y) (hy : y < 2 ^ 31) (k : mG E M K pc' L (.int (nI (x % y)) :: st) a h) : mG E M K pc L (.int (nI y) :: .int (nI x) :: st) a h := by
  refine mG_irem hd (nI_ne h0 hy) ?_
  rw [pk_rem hx h0 hy]
  exact k
theorem mG_istore_n {j : Fin 4} {x : Int32} (hd : mD M.2.2.1 pc (.istore_n j) 1 pc') (hn : (j : Nat) < M.2.2.2.1) (hok : mOkS L (j : Nat) = true) (hL : L.set (j : Nat) (some (.int x)) = L') (k : mG E M K pc' L' st a h) : mG E M K pc L (.int x :: st) a h := by
  obtain ⟨hd, rfl⟩ := hd
  subst hL
  exact fun p e s m args below meth c H locs ls C R S V => lv_istore_n C.1 C.2.1 hd rfl V hn rfl (fun ls V' => k p e s m args below meth c H locs ls C R S (mHas_set (v := .int x) V' hok))
theorem mG_istore {i : Nat} {x : Int32} (hd : mD M.2.2.1 pc (.istore i) 2 pc') (hn : i < M.2.2.2.1) (hok : mOkS L i = true) (hL : L.set i (some (.int x)) = L') (k : mG E M K pc' L' st a h) : mG E M K pc L (.int x :: st) a h := by
  obtain ⟨hd, rfl⟩ := hd
  subst hL
  exact fun p e s m args below meth c H locs ls C R S V => lv_istore C.1 C.2.1 hd V hn rfl (fun ls V' => k p e s m args below meth c H locs ls C R S (mHas_set (v := .int x) V' hok))
theorem mG_astore_n {j : Fin 4} {x : Nat} (hd : mD M.2.2.1 pc (.astore_n j) 1 pc') (hn : (j : Nat) < M.2.2.2.1) (hok : mOkS L (j : Nat) = true) (hL : L.set (j : Nat) (some (.ref x)) = L') (k : mG E M K pc' L' st a h) : mG E M K pc L (.ref x :: st) a h := by
  obtain ⟨hd, rfl⟩ := hd
  subst hL
  exact fun p e s m args below meth c H locs ls C R S V => lv_astore_n C.1 C.2.1 hd rfl V hn rfl (fun ls V' => k p e s m args below meth c H locs ls C R S (mHas_set (v := .ref x) V' hok))
theorem mG_lstore {i : Nat} {x : Int64} (hd : mD M.2.2.1 pc (.lstore i) 2 pc') (hn : i + 1 < M.2.2.2.1) (hok : mOkS L i = true) (hL : (L.set i (some (.long x))).set (i + 1) none = L') (k : mG E M K pc' L' st a h) : mG E M K pc L (.long x :: st) a h := by
  obtain ⟨hd, rfl⟩ := hd
  subst hL
  exact fun p e s m args below meth c H locs ls C R S V => lv_lstore C.1 C.2.1 hd V hn rfl (fun ls V' => k p e s m args below meth c H locs ls C R S (mHas_set2 (v := .long x) V' hok))
theorem mG_iinc {i : Nat} {n : Int} {x v : Int32} (hd : mD M.2.2.1 pc (.iinc i n) 3 pc') (hl : L[i]? = some (some (.int x))) (hv : x + Int32.ofInt n = v) (hn : i < M.2.2.2.1) (hok : mOkS L i = true) (hL : L.set i (some (.int v)) = L') (k : mG E M K pc' L' st a h) : mG E M K pc L st a h := by
  obtain ⟨hd, rfl⟩ := hd
  subst hL
  intro p e s m args below meth c H locs ls C R S V
  obtain ⟨q, hq⟩ := List.getElem?_of_mem (mPr_mem.mpr ⟨.int x, hl, rfl⟩ : (i, mrv E (.int x)) ∈ mPr E L)
  exact lv_iinc C.1 C.2.1 hd V hq hv hn rfl (fun ls V' => k p e s m args below meth c H locs ls C R S (mHas_set (v := .int v) V' hok))
theorem mG_iincN {i : Nat} {x : Nat} (hd : mD M.2.2.1 pc (.iinc i 1) 3 pc') (hl : L[i]? = some (some (.int (nI x)))) (hn : i < M.2.2.2.1) (hok : mOkS L i = true) (hL : L.set i (some (.int (nI (x + 1)))) = L') (k : mG E M K pc' L' st a h) : mG E M K pc L st a h :=
  mG_iinc hd hl (show nI x + Int32.ofInt 1 = nI (x + 1) from nI_1 x) hn hok hL k
theorem mG_goto {tgt : Nat} (hd : mJ M.2.2.1 pc .goto pc' tgt) (k : mG E M K tgt L st a h) : mG E M K pc L st a h := by
  obtain ⟨off, hd, -, ht⟩ := hd
  exact fun p e s m args below meth c H locs ls C R S V => lv_goto C.1 C.2.1 hd ht (k p e s m args below meth c H locs ls C R S V)
theorem mG_icmp_eq {x y : Int32} {tgt : Nat} (hd : mJ M.2.2.1 pc (.if_icmp .eq) pc' tgt) (kt : x = y → mG E M K tgt L st a h) (kf : ¬ x = y → mG E M K pc' L st a h) : mG E M K pc L (.int y :: .int x :: st) a h := by
  obtain ⟨off, hd, rfl, ht⟩ := hd
  exact fun p e s m args below meth c H locs ls C R S V => lv_icmp_eq C.1 C.2.1 hd ht (fun q => kt q p e s m args below meth c H locs ls C R S V) (fun q => kf q p e s m args below meth c H locs ls C R S V)
theorem mG_if_eq {x : Int32} {tgt : Nat} (hd : mJ M.2.2.1 pc (.ifCond .eq) pc' tgt) (kt : x = 0 → mG E M K tgt L st a h) (kf : ¬ x = 0 → mG E M K pc' L st a h) : mG E M K pc L (.int x :: st) a h := by
  obtain ⟨off, hd, rfl, ht⟩ := hd
  exact fun p e s m args below meth c H locs ls C R S V => lv_if_eq C.1 C.2.1 hd ht (fun q => kt q p e s m args below meth c H locs ls C R S V) (fun q => kf q p e s m args below meth c H locs ls C R S V)
theorem mG_icmp_ne {x y : Int32} {tgt : Nat} (hd : mJ M.2.2.1 pc (.if_icmp .ne) pc' tgt) (kt : ¬ x = y → mG E M K tgt L st a h) (kf : x = y → mG E M K pc' L st a h) : mG E M K pc L (.int y :: .int x :: st) a h := by
  obtain ⟨off, hd, rfl, ht⟩ := hd
  exact fun p e s m args below meth c H locs ls C R S V => lv_icmp_ne C.1 C.2.1 hd ht (fun q => kt q p e s m args below meth c H locs ls C R S V) (fun q => kf q p e s m args below meth c H locs ls C R S V)
theorem mG_if_ne {x : Int32} {tgt : Nat} (hd : mJ M.2.2.1 pc (.ifCond .ne) pc' tgt) (kt : ¬ x = 0 → mG E M K tgt L st a h) (kf : x = 0 → mG E M K pc' L st a h) : mG E M K pc L (.int x :: st) a h := by
  obtain ⟨off, hd, rfl, ht⟩ := hd
  exact fun p e s m args below meth c H locs ls C R S V => lv_if_ne C.1 C.2.1 hd ht (fun q => kt q p e s m args below meth c H locs ls C R S V) (fun q => kf q p e s m args below meth c H locs ls C R S V)
theorem mG_icmp_lt {x y : Int32} {tgt : Nat} (hd : mJ M.2.2.1 pc (.if_icmp .lt) pc' tgt) (kt : x < y → mG E M K tgt L st a h) (kf : ¬ x < y → mG E M K pc' L st a h) : mG E M K pc L (.int y :: .int x :: st) a h := by
  obtain ⟨off, hd, rfl, ht⟩ := hd
  exact fun p e s m args below meth c H locs ls C R S V => lv_icmp_lt C.1 C.2.1 hd ht (fun q => kt q p e s m args below meth c H locs ls C R S V) (fun q => kf q p e s m args below meth c H locs ls C R S V)
theorem mG_if_lt {x : Int32} {tgt : Nat} (hd : mJ M.2.2.1 pc (.ifCond .lt) pc' tgt) (kt : x < 0 → mG E M K tgt L st a h) (kf : ¬ x < 0 → mG E M K pc' L st a h) : mG E M K pc L (.int x :: st) a h := by
  obtain ⟨off, hd, rfl, ht⟩ := hd
  exact fun p e s m args below meth c H locs ls C R S V => lv_if_lt C.1 C.2.1 hd ht (fun q => kt q p e s m args below meth c H locs ls C R S V) (fun q => kf q p e s m args below meth c H locs ls C R S V)
theorem mG_icmp_ge {x y : Int32} {tgt : Nat} (hd : mJ M.2.2.1 pc (.if_icmp .ge) pc' tgt) (kt : y ≤ x → mG E M K tgt L st a h) (kf : ¬ y ≤ x → mG E M K pc' L st a h) : mG E M K pc L (.int y :: .int x :: st) a h := by
  obtain ⟨off, hd, rfl, ht⟩ := hd
  exact fun p e s m args below meth c H locs ls C R S V => lv_icmp_ge C.1 C.2.1 hd ht (fun q => kt q p e s m args below meth c H locs ls C R S V) (fun q => kf q p e s m args below meth c H locs ls C R S V)
theorem mG_if_ge {x : Int32} {tgt : Nat} (hd : mJ M.2.2.1 pc (.ifCond .ge) pc' tgt) (kt : 0 ≤ x → mG E M K tgt L st a h) (kf : ¬ 0 ≤ x → mG E M K pc' L st a h) : mG E M K pc L (.int x :: st) a h := by
  obtain ⟨off, hd, rfl, ht⟩ := hd
  exact fun p e s m args below meth c H locs ls C R S V => lv_if_ge C.1 C.2.1 hd ht (fun q => kt q p e s m args below meth c H locs ls C R S V) (fun q => kf q p e s m args below meth c H locs ls C R S V)
theorem mG_icmp_gt {x y : Int32} {tgt : Nat} (hd : mJ M.2.2.1 pc (.if_icmp .gt) pc' tgt) (kt : y < x → mG E M K tgt L st a h) (kf : ¬ y < x → mG E M K pc' L st a h) : mG E M K pc L (.int y :: .int x :: st) a h := by
  obtain ⟨off, hd, rfl, ht⟩ := hd
  exact fun p e s m args below meth c H locs ls C R S V => lv_icmp_gt C.1 C.2.1 hd ht (fun q => kt q p e s m args below meth c H locs ls C R S V) (fun q => kf q p e s m args below meth c H locs ls C R S V)
theorem mG_if_gt {x : Int32} {tgt : Nat} (hd : mJ M.2.2.1 pc (.ifCond .gt) pc' tgt) (kt : 0 < x → mG E M K tgt L st a h) (kf : ¬ 0 < x → mG E M K pc' L st a h) : mG E M K pc L (.int x :: st) a h := by
  obtain ⟨off, hd, rfl, ht⟩ := hd
  exact fun p e s m args below meth c H locs ls C R S V => lv_if_gt C.1 C.2.1 hd ht (fun q => kt q p e s m args below meth c H locs ls C R S V) (fun q => kf q p e s m args below meth c H locs ls C R S V)
theorem mG_icmp_le {x y : Int32} {tgt : Nat} (hd : mJ M.2.2.1 pc (.if_icmp .le) pc' tgt) (kt : x ≤ y → mG E M K tgt L st a h) (kf : ¬ x ≤ y → mG E M K pc' L st a h) : mG E M K pc L (.int y :: .int x :: st) a h := by
  obtain ⟨off, hd, rfl, ht⟩ := hd
  exact fun p e s m args below meth c H locs ls C R S V => lv_icmp_le C.1 C.2.1 hd ht (fun q => kt q p e s m args below meth c H locs ls C R S V) (fun q => kf q p e s m args below meth c H locs ls C R S V)
theorem mG_if_le {x : Int32} {tgt : Nat} (hd : mJ M.2.2.1 pc (.ifCond .le) pc' tgt) (kt : x ≤ 0 → mG E M K tgt L st a h) (kf : ¬ x ≤ 0 → mG E M K pc' L st a h) : mG E M K pc L (.int x :: st) a h := by
  obtain ⟨off, hd, rfl, ht⟩ := hd
  exact fun p e s m args below meth c H locs ls C R S V => lv_if_le C.1 C.2.1 hd ht (fun q => kt q p e s m args below meth c H locs ls C R S V) (fun q => kf q p e s m args below meth c H locs ls C R S V)
theorem mG_icmp_eqN {x y : Nat} {tgt : Nat} (hd : mJ M.2.2.1 pc (.if_icmp .eq) pc' tgt) (hx : x < 2 ^ 31) (hy : y < 2 ^ 31) (kt : x = y → mG E M K tgt L st a h) (kf : ¬ x = y → mG E M K pc' L st a h) : mG E M K pc L (.int (nI y) :: .int (nI x) :: st) a h :=
  mG_icmp_eq hd (fun q => kt ((nI_eq hx hy).mp q)) (fun q => kf (fun z => q ((nI_eq hx hy).mpr z)))
theorem mG_icmp_neN {x y : Nat} {tgt : Nat} (hd : mJ M.2.2.1 pc (.if_icmp .ne) pc' tgt) (hx : x < 2 ^ 31) (hy : y < 2 ^ 31) (kt : ¬ x = y → mG E M K tgt L st a h) (kf : x = y → mG E M K pc' L st a h) : mG E M K pc L (.int (nI y) :: .int (nI x) :: st) a h :=
  mG_icmp_ne hd (fun q => kt (fun z => q ((nI_eq hx hy).mpr z))) (fun q => kf ((nI_eq hx hy).mp q))
theorem mG_icmp_ltN {x y : Nat} {tgt : Nat} (hd : mJ M.2.2.1 pc (.if_icmp .lt) pc' tgt) (hx : x < 2 ^ 31) (hy : y < 2 ^ 31) (kt : x < y → mG E M K tgt L st a h) (kf : y ≤ x → mG E M K pc' L st a h) : mG E M K pc L (.int (nI y) :: .int (nI x) :: st) a h :=
  mG_icmp_lt hd (fun q => kt ((nI_ltI hx hy).mp q)) (fun q => kf (Nat.not_lt.mp (fun z => q ((nI_ltI hx hy).mpr z))))
theorem mG_icmp_geN {x y : Nat} {tgt : Nat} (hd : mJ M.2.2.1 pc (.if_icmp .ge) pc' tgt) (hx : x < 2 ^ 31) (hy : y < 2 ^ 31) (kt : y ≤ x → mG E M K tgt L st a h) (kf : x < y → mG E M K pc' L st a h) : mG E M K pc L (.int (nI y) :: .int (nI x) :: st) a h :=
  mG_icmp_ge hd (fun q => kt ((nI_leI hy hx).mp q)) (fun q => kf (Nat.not_le.mp (fun z => q ((nI_leI hy hx).mpr z))))
theorem mG_icmp_gtN {x y : Nat} {tgt : Nat} (hd : mJ M.2.2.1 pc (.if_icmp .gt) pc' tgt) (hx : x < 2 ^ 31) (hy : y < 2 ^ 31) (kt : y < x → mG E M K tgt L st a h) (kf : x ≤ y → mG E M K pc' L st a h) : mG E M K pc L (.int (nI y) :: .int (nI x) :: st) a h :=
  mG_icmp_gt hd (fun q => kt ((nI_ltI hy hx).mp q)) (fun q => kf (Nat.not_lt.mp (fun z => q ((nI_ltI hy hx).mpr z))))
theorem mG_icmp_leN {x y : Nat} {tgt : Nat} (hd : mJ M.2.2.1 pc (.if_icmp .le) pc' tgt) (hx : x < 2 ^ 31) (hy : y < 2 ^ 31) (kt : x ≤ y → mG E M K tgt L st a h) (kf : y < x → mG E M K pc' L st a h) : mG E M K pc L (.int (nI y) :: .int (nI x) :: st) a h :=
  mG_icmp_le hd (fun q => kt ((nI_leI hx hy).mp q)) (fun q => kf (Nat.not_le.mp (fun z => q ((nI_leI hx hy).mpr z))))
theorem mG_if_eqN {x : Nat} {tgt : Nat} (hd : mJ M.2.2.1 pc (.ifCond .eq) pc' tgt) (hx : x < 2 ^ 31) (kt : x = 0 → mG E M K tgt L st a h) (kf : ¬ x = 0 → mG E M K pc' L st a h) : mG E M K pc L (.int (nI x) :: st) a h :=
  have h0 : (0 : Nat) < 2 ^ 31 := by decide
  mG_if_eq hd (fun q => kt ((nI_eq hx h0).mp q)) (fun q => kf (fun z => q ((nI_eq hx h0).mpr z)))
theorem mG_if_neN {x : Nat} {tgt : Nat} (hd : mJ M.2.2.1 pc (.ifCond .ne) pc' tgt) (hx : x < 2 ^ 31) (kt : ¬ x = 0 → mG E M K tgt L st a h) (kf : x = 0 → mG E M K pc' L st a h) : mG E M K pc L (.int (nI x) :: st) a h :=
  have h0 : (0 : Nat) < 2 ^ 31 := by decide
  mG_if_ne hd (fun q => kt (fun z => q ((nI_eq hx h0).mpr z))) (fun q => kf ((nI_eq hx h0).mp q))
theorem mG_if_ltN {x : Nat} {tgt : Nat} (hd : mJ M.2.2.1 pc (.ifCond .lt) pc' tgt) (hx : x < 2 ^ 31) (kt : False → mG E M K tgt L st a h) (kf : True → mG E M K pc' L st a h) : mG E M K pc L (.int (nI x) :: st) a h :=
  have h0 : (0 : Nat) < 2 ^ 31 := by decide
  mG_if_lt hd (fun q => kt (nI_pos hx q)) (fun q => kf (trivial))
theorem mG_if_geN {x : Nat} {tgt : Nat} (hd : mJ M.2.2.1 pc (.ifCond .ge) pc' tgt) (hx : x < 2 ^ 31) (kt : True → mG E M K tgt L st a h) (kf : False → mG E M K pc' L st a h) : mG E M K pc L (.int (nI x) :: st) a h :=
  have h0 : (0 : Nat) < 2 ^ 31 := by decide
  mG_if_ge hd (fun q => kt (trivial)) (fun q => kf (q (nI_pos' hx)))
theorem mG_if_gtN {x : Nat} {tgt : Nat} (hd : mJ M.2.2.1 pc (.ifCond .gt) pc' tgt) (hx : x < 2 ^ 31) (kt : 0 < x → mG E M K tgt L st a h) (kf : x = 0 → mG E M K pc' L st a h) : mG E M K pc L (.int (nI x) :: st) a h :=
  have h0 : (0 : Nat) < 2 ^ 31 := by decide
  mG_if_gt hd (fun q => kt ((nI_ltI h0 hx).mp q)) (fun q => kf (Nat.eq_zero_of_not_pos (fun z => q ((nI_ltI h0 hx).mpr z))))
theorem mG_if_leN {x : Nat} {tgt : Nat} (hd : mJ M.2.2.1 pc (.ifCond .le) pc' tgt) (hx : x < 2 ^ 31) (kt : x = 0 → mG E M K tgt L st a h) (kf : 0 < x → mG E M K pc' L st a h) : mG E M K pc L (.int (nI x) :: st) a h :=
  have h0 : (0 : Nat) < 2 ^ 31 := by decide
  mG_if_le hd (fun q => kt (Nat.le_zero.mp ((nI_leI hx h0).mp q))) (fun q => kf (Nat.not_le.mp (fun z => q ((nI_leI hx h0).mpr z))))
/-- what a boolean is on the stack -/
def mb (b : Bool) : Int32 := nI b.toNat
theorem mG_if_eqB {b : Bool} {tgt : Nat} (hd : mJ M.2.2.1 pc (.ifCond .eq) pc' tgt) (kt : b = false → mG E M K tgt L st a h) (kf : b = true → mG E M K pc' L st a h) : mG E M K pc L (.int (mb b) :: st) a h := by
  cases b
  · exact mG_if_eq hd (fun _ => kt rfl) (fun q => absurd (by decide) q)
  · exact mG_if_eq hd (fun q => absurd q (by decide)) (fun _ => kf rfl)
theorem mG_if_neB {b : Bool} {tgt : Nat} (hd : mJ M.2.2.1 pc (.ifCond .ne) pc' tgt) (kt : b = true → mG E M K tgt L st a h) (kf : b = false → mG E M K pc' L st a h) : mG E M K pc L (.int (mb b) :: st) a h := by
  cases b
  · exact mG_if_ne hd (fun q => absurd (by decide) q) (fun _ => kf rfl)
  · exact mG_if_ne hd (fun _ => kt rfl) (fun q => absurd q (by decide))
theorem mG_tableIn {dflt lo hi : Int} {offs : Array Int} {len tgt : Nat} {x : Int32} {off : Int} (hd : decode M.2.2.1 pc = .ok (.tableswitch dflt lo hi offs, len)) (h1 : ¬ x.toInt < lo) (h2 : ¬ hi < x.toInt) (ho : offs[(x.toInt - lo).toNat]? = some off) (ht : (pc : Int) + off = (tgt : Int)) (k : mG E M K tgt L st a h) : mG E M K pc L (.int x :: st) a h :=
  fun p e s m args below meth c H locs ls C R S V => lv_tableIn C.1 C.2.1 hd h1 h2 ho ht (k p e s m args below meth c H locs ls C R S V)
theorem mG_tableOut {dflt lo hi : Int} {offs : Array Int} {len tgt : Nat} {x : Int32} (hd : decode M.2.2.1 pc = .ok (.tableswitch dflt lo hi offs, len)) (h1 : x.toInt < lo ∨ hi < x.toInt) (ht : (pc : Int) + dflt = (tgt : Int)) (k : mG E M K tgt L st a h) : mG E M K pc L (.int x :: st) a h :=
  fun p e s m args below meth c H locs ls C R S V => lv_tableOut C.1 C.2.1 hd h1 ht (k p e s m args below meth c H locs ls C R S V)
theorem mG_lookup {dflt : Int} {ps : Array (Int × Int)} {len tgt : Nat} {x : Int32} {off : Int} (hd : decode M.2.2.1 pc = .ok (.lookupswitch dflt ps, len)) (hp : (ps.toList.zip (ps.toList.drop 1)).all (fun (a, next) => a.1 < next.1) = true) (ho : Op.lookupswitch.offset ps.toList dflt x.toInt = off) (ht : (pc : Int) + off = (tgt : Int)) (k : mG E M K tgt L st a h) : mG E M K pc L (.int x :: st) a h :=
  fun p e s m args below meth c H locs ls C R S V => lv_lookup C.1 C.2.1 hd hp ho ht (k p e s m args below meth c H locs ls C R S V)
end MR
