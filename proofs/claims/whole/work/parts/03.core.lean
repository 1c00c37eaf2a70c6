/-! THE PURE LAYER: heaps of numbered cells, and a judgement mG over them that is proved once over the machine, an instruction a row. -/
abbrev mC : Type := (Nat × Nat × (Nat → Int32)) ⊕ ((Nat × (Nat → Option Nat)) ⊕ (Nat × List Value))
abbrev mH : Type := Nat → mC
/-- launch; classes and slots; array classes; first address; tables' addresses; script; whether cells 3, 4, 5 and 6, 7, 8 have changed places -/
abbrev mE : Type := Launch × va_G × (Nat → ClassId) × Nat × (Nat → Nat) × (Nat × (Nat → Int32)) × Bool
abbrev mY : Type := MethodName × ByteArray × Nat × Option FieldType
abbrev mM : Type := Room × mY
abbrev mKt : Type := List Frame → Array Value → State → State → Prop
def mSw (b : Bool) (k : Nat) : Nat := if b = true then (if 3 ≤ k ∧ k < 6 then k + 3 else if 6 ≤ k ∧ k < 9 then k - 3 else k) else k
theorem mSw_inj {b : Bool} {i j : Nat} (h : mSw b i = mSw b j) : i = j := by
  unfold mSw at h
  cases b <;> simp at h
  · exact h
  · split at h <;> split at h <;> (try split at h) <;> (try split at h) <;> omega
def mra (E : mE) (k : Nat) : Nat := if k < 1000 then E.2.2.2.1 + mSw E.2.2.2.2.2.2 k else E.2.2.2.2.1 (k - 1000)
def mrv (E : mE) : Value → Value
  | .ref k => .ref (mra E k)
  | v => v
theorem mrv_cat (E : mE) (v : Value) : (mrv E v).category = v.category := by cases v <;> rfl
def mEn (E : mE) : mC → va_E
  | .inl x => .inl (E.2.2.1 x.1, (x.2.1, .inl x.2.2))
  | .inr (.inl x) => .inl (E.2.2.1 3, (x.1, .inr (.inr (.inr (.inr (fun j => (x.2 j).map (mra E)))))))
  | .inr (.inr x) => .inr (x.1, x.2.map (mrv E))
def mWs (E : mE) (n : Nat) (h : mH) : va_W := (List.range n).map (fun k => (E.2.2.2.1 + mSw E.2.2.2.2.2.2 k, mEn E (h k)))
def mA (E : mE) : Nat → Prop := fun q => E.2.2.2.1 ≤ q
def mU (h : mH) (a : Nat) (c : mC) : mH := fun j => if j = a then c else h j
theorem mU_same (h : mH) (a : Nat) (c d : mC) : mU (mU h a c) a d = mU h a d := by
  funext j
  unfold mU
  by_cases e : j = a <;> simp [e]
theorem mU_self (h : mH) (a : Nat) (c : mC) (e : h a = c) : mU h a c = h := by
  funext j
  unfold mU
  by_cases q : j = a
  · rw [if_pos q, q, e]
  · rw [if_neg q]
theorem mU_comm (h : mH) {a b : Nat} (hab : a ≠ b) (c d : mC) : mU (mU h a c) b d = mU (mU h b d) a c := by
  funext j
  unfold mU
  by_cases q : j = a
  · subst q
    simp [hab]
  · by_cases r : j = b
    · subst r
      simp [q]
    · simp [q, r]
theorem mWs_get {E : mE} {n : Nat} {h : mH} {a : Nat} (ha : a < n) {c : mC} (hc : h a = c) : (mWs E n h)[a]? = some (E.2.2.2.1 + mSw E.2.2.2.2.2.2 a, mEn E c) := by
  unfold mWs
  rw [List.getElem?_map, List.getElem?_range ha, ← hc]
  rfl
theorem mWs_set {E : mE} {n : Nat} {h : mH} {a : Nat} (c : mC) : (mWs E n h).set a (E.2.2.2.1 + mSw E.2.2.2.2.2.2 a, mEn E c) = mWs E n (mU h a c) := by
  apply List.ext_getElem?
  intro i
  unfold mWs
  rw [List.getElem?_set]
  by_cases hi : i < n
  · by_cases e : a = i
    · subst e
      simp [hi, mU, List.getElem?_map, List.getElem?_range hi]
    · simp [e, mU, Ne.symm e, List.getElem?_map, List.getElem?_range hi]
  · by_cases e : a = i
    · subst e
      simp [hi, List.getElem?_map]
    · simp [e, hi, List.getElem?_map]
theorem mWs_D (E : mE) (n : Nat) (h : mH) : va_D (mA E) (mWs E n h) := by
  constructor
  · intro i j p q hp hq e
    unfold mWs at hp hq
    rw [List.getElem?_map] at hp hq
    cases hi : (List.range n)[i]? with
    | none => rw [hi] at hp; cases hp
    | some i' =>
      cases hj : (List.range n)[j]? with
      | none => rw [hj] at hq; cases hq
      | some j' =>
        rw [hi] at hp
        rw [hj] at hq
        cases hp
        cases hq
        have e1 := (List.getElem?_eq_some_iff.mp hi)
        have e2 := (List.getElem?_eq_some_iff.mp hj)
        obtain ⟨_, e1⟩ := e1
        obtain ⟨_, e2⟩ := e2
        simp at e1 e2
        subst e1
        subst e2
        exact mSw_inj (Nat.add_left_cancel e)
  · intro k q hk
    obtain ⟨i, -, hi⟩ := List.mem_map.mp (List.mem_of_getElem? hk)
    rw [← hi]
    exact Nat.le_add_right _ _
/-! the words that every method takes along -/
def mw : List Cond := lw_tbl.filter goodWord
theorem mw_of {w : Cond} (i : Nat) (h : lw_tbl[i]? = some w) (g : goodWord w = true) : w ∈ mw := List.mem_filter.mpr ⟨List.mem_of_getElem? h, g⟩
theorem mGood {w : Cond} (hw : w ∈ mw) : GoodIn mw (w :: mw) := fun x hx => by
  have hx' : x ∈ mw := (List.mem_cons.mp hx).elim (fun e => e ▸ hw) id
  exact ⟨hx', good_of_word (List.mem_filter.mp hx').2⟩
/-! what isn't among them: nest mates, arrays over a class -/
def mNf : List (String × Nat × String) := [("DayCubes$Told", 32, "POWERS_OF_TEN"), ("DayCubes$Tellers", 51, "POWERS_OF_TEN"), ("DayCubes$Fall", 45, "POWERS_OF_SIX")]
def mNm : List (Nat × String) := [(9, "DayCubes$Reader"), (18, "DayCubes$Told"), (28, "DayCubes$Stand"), (43, "DayCubes$Seen"), (50, "DayCubes$Tellers"), (57, "DayCubes$Walk"), (64, "DayCubes$Fall")]
def mTys (E : mE) : List (ClassId × FieldType) := [(E.2.2.1 0, .int), (E.2.2.1 1, .byte), (E.2.2.1 2, .boolean), (E.2.2.1 3, .object "DayCubes$Stand")]
def mKn (E : mE) (U : State) : Prop := va_K E.2.1 mCl (mTys E) U ∧ va_AO "DayCubes$Stand" U ∧ (∀ q ∈ mNf, va_Nw (.fieldLinkNest q.1 q.2.1 "DayCubes" q.2.2 "[I" "DayCubes") U) ∧ ∀ q ∈ mNm, va_Nw (.methodLinkNest "DayCubes" q.1 ⟨q.2, "<init>", "()V"⟩ "DayCubes") U
theorem mKn.warm {E : mE} {s U : State} (hW : s.WarmedH U.vm) (h : mKn E s) : mKn E U := ⟨va_K.moved hW.alike h.1, va_AO.moved hW.alike h.2.1, fun q hq => va_Nw.warmF hW (h.2.2.1 q hq), fun q hq => va_Nw.warmM hW (h.2.2.2 q hq)⟩
theorem mKn.same {E : mE} {s U : State} (hv : s.vm = U.vm) (h : mKn E s) : mKn E U := ⟨va_K.moved (by rw [hv]; exact Vm.Alike.refl _) h.1, va_AO.moved (by rw [hv]; exact Vm.Alike.refl _) h.2.1, fun q hq => va_Nw.same rfl hv (h.2.2.1 q hq), fun q hq => va_Nw.same rfl hv (h.2.2.2 q hq)⟩
/-! tables: 0 POWERS_OF_TEN, 1 POWERS_OF_SIX, 2 KIND_ABOVE, 3 KIND_TRACE, 4 SETS_WITHOUT, 5 the script -/
def mSC : Nat → String := fun i => if i = 4 then "DayCubes$Tellers" else "DayCubes"
def mSN : Nat → String := fun i => match i with
  | 0 => "POWERS_OF_TEN"
  | 1 => "POWERS_OF_SIX"
  | 2 => "KIND_ABOVE"
  | 3 => "KIND_TRACE"
  | _ => "SETS_WITHOUT"
def mTab : Nat → List Int32 := fun i => match i with
  | 0 => [1, 10, 100, 1000, 10000]
  | 1 => [1, 6, 36, 216, 1296]
  | 2 => [0, 0, 0, 1, 2, 0]
  | 3 => [1, 10, 100, 1000, 10000, 100000]
  | _ => [0x5555, 0x3333, 0x0F0F, 0x00FF]
def mTL (E : mE) (i : Nat) : Nat := if i < 5 then (mTab i).length else E.2.2.2.2.2.1.1
def mTF (E : mE) (i j : Nat) : Int32 := if i < 5 then (mTab i).getD j 0 else E.2.2.2.2.2.1.2 j
def mSt (E : mE) (U : State) (H : Heap) : Prop := (∀ i, i < 5 → va_Z (mSC i) (mSN i) "[I" (.ref (E.2.2.2.2.1 i)) (mA E) U H) ∧ ∀ i, i < 6 → va_T .int (E.2.2.2.2.1 i) (mTL E i) (fun j => .int (mTF E i j)) (mA E) U H
theorem mSt.kept {E : mE} {u U : State} {H H1 : Heap} (hv : u.vm.Alike U.vm) (h : mSt E u H) (hq : ∀ a : Nat, a < H.size → ¬ mA E a → H1[a]? = H[a]?) : mSt E U H1 := ⟨fun i hi => va_Z.moved hv ((h.1 i hi).kept hq), fun i hi => va_T.moved hv ((h.2 i hi).kept hq)⟩
def mRep (E : mE) (n : Nat) (h : mH) (H : Heap) : Prop := n ≤ 1000 ∧ va_P E.2.1 mCl (mWs E n h) H
def mRs (E : mE) (s : State) (a : Nat × Nat × Nat) (h : mH) (H : Heap) : Prop := s.heap.size + a.2.1 = E.2.2.2.1 + a.1 ∧ mRep E a.1 h H
theorem mRep.size {E : mE} {n : Nat} {h : mH} {H : Heap} (R : mRep E n h H) (hE : E.2.2.2.2.2.2 = true → 9 ≤ n) : n = 0 ∨ E.2.2.2.1 + n ≤ H.size := by
  rcases Nat.eq_zero_or_pos n with h0 | h0
  · exact Or.inl h0
  · right
    have key : ∀ i, i < n → E.2.2.2.1 + mSw E.2.2.2.2.2.2 i < H.size := fun i hi => (R.2 i _ (mWs_get hi rfl)).lt
    cases hb : E.2.2.2.2.2.2 with
    | false =>
      have := key (n - 1) (by omega)
      rw [hb] at this
      simp [mSw] at this
      omega
    | true =>
      have h9 := hE hb
      by_cases h10 : 10 ≤ n
      · have := key (n - 1) (by omega)
        rw [hb] at this
        unfold mSw at this
        rw [if_pos rfl, if_neg (by omega), if_neg (by omega)] at this
        omega
      · have e9 : n = 9 := by omega
        have := key 5 (by omega)
        rw [hb] at this
        unfold mSw at this
        rw [if_pos rfl, if_pos (by omega)] at this
        omega
/-! locals -/
def mPr (E : mE) (L : List (Option Value)) : List (Nat × Value) := (List.range L.length).filterMap (fun i => match L[i]? with
  | some (some v) => some (i, mrv E v)
  | _ => none)
theorem mPr_mem {E : mE} {L : List (Option Value)} {i : Nat} {w : Value} : (i, w) ∈ mPr E L ↔ ∃ v, L[i]? = some (some v) ∧ w = mrv E v := by
  unfold mPr
  rw [List.mem_filterMap]
  constructor
  · rintro ⟨j, -, hj⟩
    split at hj
    · rename_i v hv
      simp at hj
      obtain ⟨rfl, rfl⟩ := hj
      exact ⟨v, hv, rfl⟩
    · cases hj
  · rintro ⟨v, hv, rfl⟩
    refine ⟨i, List.mem_range.mpr (List.getElem?_eq_some_iff.mp hv).1, ?_⟩
    rw [hv]
theorem mHas_at {E : mE} {ls : Array Slot} {nL : Nat} {L : List (Option Value)} (V : lv_has ls nL (mPr E L)) {i : Nat} {v : Value} (hi : L[i]? = some (some v)) : ls[i]? = some (.val (mrv E v)) := V.2.2 (i, mrv E v) (mPr_mem.mpr ⟨v, hi, rfl⟩)
/-- a store of one word at i leaves the others, if the one ahead isn't a long -/
def mOkS (L : List (Option Value)) (i : Nat) : Bool := match i with
  | 0 => true
  | j + 1 => match L[j]? with
    | some (some v) => v.category == 1
    | _ => true
theorem mHas_set {E : mE} {ls : Array Slot} {nL : Nat} {L : List (Option Value)} {i : Nat} {v : Value} (V : lv_has ls nL ((i, mrv E v) :: (mPr E L).filter (fun q => !(q.1 == i) && !(q.1 + 1 == i && q.2.category == 2)))) (hok : mOkS L i = true) : lv_has ls nL (mPr E (L.set i (some v))) := by
  refine ⟨V.1, V.2.1, ?_⟩
  rintro ⟨j, w⟩ hq
  obtain ⟨u, hu, rfl⟩ := mPr_mem.mp hq
  rw [List.getElem?_set] at hu
  by_cases e : i = j
  · subst e
    rw [if_pos rfl] at hu
    split at hu
    · cases hu
      exact V.2.2 (i, mrv E v) List.mem_cons_self
    · cases hu
  · rw [if_neg e] at hu
    refine V.2.2 (j, mrv E u) (List.mem_cons_of_mem _ (List.mem_filter.mpr ⟨mPr_mem.mpr ⟨u, hu, rfl⟩, ?_⟩))
    have e1 : ¬ j = i := fun z => e z.symm
    simp only [Bool.and_eq_true, Bool.not_eq_true', beq_eq_false_iff_ne, ne_eq, e1, not_false_iff, true_and, Bool.and_eq_false_iff]
    by_cases e2 : j + 1 = i
    · right
      subst e2
      simp [mOkS, hu] at hok
      rw [mrv_cat]
      omega
    · left
      exact e2
theorem mHas_set2 {E : mE} {ls : Array Slot} {nL : Nat} {L : List (Option Value)} {i : Nat} {v : Value} (V : lv_has ls nL ((i, mrv E v) :: (mPr E L).filter (fun q => !(q.1 == i) && (!(q.1 == i + 1) && !(q.1 + 1 == i && q.2.category == 2))))) (hok : mOkS L i = true) : lv_has ls nL (mPr E ((L.set i (some v)).set (i + 1) none)) := by
  refine ⟨V.1, V.2.1, ?_⟩
  rintro ⟨j, w⟩ hq
  obtain ⟨u, hu, rfl⟩ := mPr_mem.mp hq
  rw [List.getElem?_set] at hu
  by_cases e0 : i + 1 = j
  · rw [if_pos e0] at hu
    split at hu <;> cases hu
  · rw [if_neg e0, List.getElem?_set] at hu
    by_cases e : i = j
    · subst e
      rw [if_pos rfl] at hu
      split at hu
      · cases hu
        exact V.2.2 (i, mrv E v) List.mem_cons_self
      · cases hu
    · rw [if_neg e] at hu
      refine V.2.2 (j, mrv E u) (List.mem_cons_of_mem _ (List.mem_filter.mpr ⟨mPr_mem.mpr ⟨u, hu, rfl⟩, ?_⟩))
      have e1 : ¬ j = i := fun z => e z.symm
      have e3 : ¬ j = i + 1 := fun z => e0 z.symm
      simp only [Bool.and_eq_true, Bool.not_eq_true', beq_eq_false_iff_ne, ne_eq, e1, e3, not_false_iff, true_and, Bool.and_eq_false_iff]
      by_cases e2 : j + 1 = i
      · right
        subst e2
        simp [mOkS, hu] at hok
        rw [mrv_cat]
        omega
      · left
        exact e2
/-! the judgement -/
def mCx (E : mE) (M : mM) (p : Program) (s : State) (m : MethodId) (args : Array Value) (meth : Method) (c : Code) : Prop :=
  p.tables.exec = Jvm.exec ∧ c.code = M.2.2.1 ∧ c.maxLocals = M.2.2.2.1 ∧ meth.sig.returnType = M.2.2.2.2 ∧ meth.locks = false ∧ s.vm.findClass M.2.1.cls = some m.cls ∧ meth.name = M.2.1.name ∧ (∀ w ∈ mw, w.before args s = true) ∧ mKn E s ∧ mSt E s s.heap ∧ E.2.2.2.1 ≤ s.heap.size
def mG (E : mE) (M : mM) (K : mKt) (pc : Nat) (L : List (Option Value)) (st : List Value) (a : Nat × Nat × Nat) (h : mH) : Prop :=
  ∀ (p : Program) (e : Env) (s : State) (m : MethodId) (args : Array Value) (below : List Frame) (meth : Method) (c : Code) (H : Heap) (locs : List Loc) (ls : Array Slot), mCx E M p s m args meth c → mRs E s a h H → va_S (mA E) s.heap H locs → lv_has ls M.2.2.2.1 (mPr E L) →
    W p E.1 e M.1 s m args below meth c H locs a.2.1 a.2.2 (K below args s) (F0 m pc ls (st.map (mrv E)))
/-- an instruction at pc, and where the next one is -/
def mD (cc : ByteArray) (pc : Nat) (i : Instr) (len pc' : Nat) : Prop := decode cc pc = .ok (i, len) ∧ pc + len = pc'
/-- a jump at pc: the next one, and where it goes -/
def mJ (cc : ByteArray) (pc : Nat) (i : Int → Instr) (pc' tgt : Nat) : Prop := ∃ off, decode cc pc = .ok (i off, 3) ∧ pc + 3 = pc' ∧ (pc : Int) + off = (tgt : Int)
theorem mJ.of {cc : ByteArray} {pc : Nat} {i : Int → Instr} {pc' tgt : Nat} (off : Int) (h : decode cc pc = .ok (i off, 3)) (h1 : pc + 3 = pc') (h2 : (pc : Int) + off = (tgt : Int)) : mJ cc pc i pc' tgt := ⟨off, h, h1, h2⟩
def mR (d : Nat) : Room := { frames := d, cells := 0, slots := 0, locals := 60 * d }
def mRa (d mc ms : Nat) : Room := { frames := d, cells := mc, slots := ms, locals := 60 * d }
def mPc (E : mE) (av : List Value) (n : Nat) (h : mH) : Array Value → State → Prop := fun v U => v = (av.map (mrv E)).toArray ∧ mRep E n h U.heap ∧ mKn E U ∧ mSt E U U.heap ∧ U.heap.size = E.2.2.2.1 + n
def mQc (E : mE) (n' : Nat) (Q : Option Value → mH → Prop) : Array Value → State → Outcome → State → Prop := fun _ st o t => (∃ (r : Option Value) (h' : mH), o = .returned (r.map (mrv E)) ∧ Q r h' ∧ mRep E n' h' t.heap) ∧ va_F (mA E) st t
def mKq (E : mE) (R : Room) (n' : Nat) (Q : Option Value → mH → Prop) : mKt := fun below args s => MQ below (mQc E n' Q) args s R.cells R.slots (mA E)
def mOkR (E : mE) (R : Room) (Y : mY) (av : List Value) (n n' : Nat) (h : mH) (Q : Option Value → mH → Prop) : Prop :=
  Met E.1 Y.1 (.code Y.1 Y.2.1 Y.2.2.1 Y.2.2.2 :: mw) R (mPc E av n h) (mQc E n' Q) R.cells R.slots (mA E)
/-- all cells of a run: 40 of the class, 16 of the reference -/
abbrev mN : Nat := 56
abbrev mOk (E : mE) (d : Nat) (Y : mY) (av : List Value) (h : mH) (Q : Option Value → mH → Prop) : Prop := mOkR E (mR d) Y av mN mN h Q
abbrev mKn0 (E : mE) (d : Nat) (Q : Option Value → mH → Prop) : mKt := mKq E (mR d) mN Q
theorem mPr_args (E : mE) (av : List Value) (hc : ∀ v ∈ av, v.category = 1) (k : Nat) {nL : Nat} {ls : Array Slot} (V : lv_has ls nL (lv_args 0 (av.map (mrv E)))) : lv_has ls nL (mPr E (av.map some ++ List.replicate k none)) := by
  have key : ∀ (av : List Value), (∀ v ∈ av, v.category = 1) → ∀ (o i : Nat) (v : Value), av[i]? = some v → (o + i, mrv E v) ∈ lv_args o (av.map (mrv E)) := by
    intro av
    induction av with
    | nil => intro _ o i v h; simp at h
    | cons x t ih =>
      intro hc o i v h
      have hx : (mrv E x).category = 1 := by rw [mrv_cat]; exact hc x List.mem_cons_self
      cases i with
      | zero =>
        simp at h
        subst h
        simp [lv_args]
      | succ j =>
        simp at h
        have := ih (fun v hv => hc v (List.mem_cons_of_mem _ hv)) (o + 1) j v h
        have e : o + (j + 1) = o + 1 + j := by omega
        rw [e]
        simp only [List.map_cons, lv_args, hx]
        exact List.mem_cons_of_mem _ this
  refine ⟨V.1, V.2.1, ?_⟩
  rintro ⟨i, w⟩ hq
  obtain ⟨v, hv, rfl⟩ := mPr_mem.mp hq
  have hav : av[i]? = some v := by
    rw [List.getElem?_append] at hv
    split at hv
    · rw [List.getElem?_map] at hv
      cases ha : av[i]? with
      | none => rw [ha] at hv; cases hv
      | some u =>
        rw [ha] at hv
        cases hv
        rfl
    · rw [List.getElem?_replicate] at hv
      split at hv <;> cases hv
  have := key av hc 0 i v hav
  rw [Nat.zero_add] at this
  exact V.2.2 _ this
