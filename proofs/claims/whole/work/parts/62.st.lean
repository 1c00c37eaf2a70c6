/-! what both sides hold between calls -/
abbrev mS3 : Type := (Nat → Nat) × (Nat → Nat) × (Nat → Nat)
/-- a deed taken back -/
def uS (ds : Nat → Nat) (i : Nat) (s : mS3) : mS3 := if ds (i * 4) = 0 then (s.1, s.2.1, mUp s.2.2 (ds (i * 4 + 1)) (ds (i * 4 + 2))) else if ds (i * 4) = 1 then (s.1, swp s.2.1 (ds (i * 4 + 1)) (ds (i * 4 + 2)), s.2.2) else (mUp s.1 (ds (i * 4 + 1)) (ds (i * 4 + 2)), s.2.1, s.2.2)
/-- the desk as it stands; places of no cube -/
def sdQ (cu : Nat) (nw : Nat → Nat) (wk : Nat) (nf ca fr : Nat → Nat) : Prop := sdR cu nw wk nf ca fr ∧ ∀ p, p < 4 → nw (24 + p) < 4
/-- deeds of the one side, rows of the other -/
def HR (cu b c : Nat) (ds bf : Nat → Nat) : Nat → mS3 → Prop
  | 0, _ => True
  | d + 1, s => sdQ cu (fun j => bf (33 * (d + c) + j)) (ds ((d + b) * 4 + 3)) (uS ds (d + b) s).1 (uS ds (d + b) s).2.1 (uS ds (d + b) s).2.2 ∧ HR cu b c ds bf d (uS ds (d + b) s)
theorem sdR_cong {cu wk : Nat} {nw nw' nf ca fr : Nat → Nat} (hcu : cu ≤ 4) (e : ∀ j, j < 33 → nw' j = nw j) (h : sdQ cu nw wk nf ca fr) : sdQ cu nw' wk nf ca fr := ⟨⟨fun j hj => (e j (by omega)).trans (h.1.1 j hj), fun p hp => (e _ (by omega)).trans (h.1.2.1 p hp), fun c hc => (e _ (by omega)).trans (h.1.2.2.1 c hc), (e 32 (by decide)).trans h.1.2.2.2⟩, fun p hp => by rw [e _ (by omega)]; exact h.2 p hp⟩
theorem HR_drop {cu : Nat} {ds bf : Nat → Nat} : ∀ d b c s, HR cu b c ds bf (d + 1) s → HR cu (b + 1) (c + 1) ds bf d s := by
  intro d
  induction d with
  | zero => intro b c s h; exact True.intro
  | succ d ih =>
    intro b c s h
    have e : d + (b + 1) = d + 1 + b := by omega
    have e' : d + (c + 1) = d + 1 + c := by omega
    show sdQ cu (fun j => bf (33 * (d + (c + 1)) + j)) (ds ((d + (b + 1)) * 4 + 3)) (uS ds (d + (b + 1)) s).1 (uS ds (d + (b + 1)) s).2.1 (uS ds (d + (b + 1)) s).2.2 ∧ HR cu (b + 1) (c + 1) ds bf d (uS ds (d + (b + 1)) s)
    rw [e, e']
    exact ⟨h.1, ih b c _ h.2⟩
theorem HR_shift {cu b c b' c' : Nat} {ds ds' bf bf' : Nat → Nat} (hcu : cu ≤ 4) : ∀ d s, (∀ i, i < d → ∀ r, r < 4 → ds' ((i + b') * 4 + r) = ds ((i + b) * 4 + r)) → (∀ i, i < d → ∀ r, r < 33 → bf' (33 * (i + c') + r) = bf (33 * (i + c) + r)) → HR cu b c ds bf d s → HR cu b' c' ds' bf' d s := by
  intro d
  induction d with
  | zero => intro s _ _ _; exact True.intro
  | succ d ih =>
    intro s h1 h2 h
    have g0 : ds' ((d + b') * 4) = ds ((d + b) * 4) := h1 d (Nat.lt_succ_self d) 0 (by decide)
    have g1 := h1 d (Nat.lt_succ_self d) 1 (by decide)
    have g2 := h1 d (Nat.lt_succ_self d) 2 (by decide)
    have g3 := h1 d (Nat.lt_succ_self d) 3 (by decide)
    have u : uS ds' (d + b') s = uS ds (d + b) s := by
      unfold uS
      rw [g0, g1, g2]
    show sdQ cu (fun j => bf' (33 * (d + c') + j)) (ds' ((d + b') * 4 + 3)) (uS ds' (d + b') s).1 (uS ds' (d + b') s).2.1 (uS ds' (d + b') s).2.2 ∧ HR cu b' c' ds' bf' d (uS ds' (d + b') s)
    rw [u, g3]
    exact ⟨sdR_cong hcu (fun j hj => h2 d (Nat.lt_succ_self d) j hj) h.1, ih _ (fun i hi => h1 i (Nat.lt_succ_of_lt hi)) (fun i hi => h2 i (Nat.lt_succ_of_lt hi)) h.2⟩
theorem bfK_old {k i r : Nat} {bf nw : Nat → Nat} (hk : k ≤ 10) (hi : i < dn0 k) (hr : r < 33) : bfK k bf nw (33 * i + r) = bf (33 * (i + sh k) + r) := by
  unfold bfK
  rw [cpF_out (by omega)]
  unfold bfS sh
  by_cases q : k < 10
  · rw [if_pos q, if_pos q]; rfl
  · rw [if_neg q, if_neg q]
    have h9 : dn0 k = 9 := if_neg q
    have := cpF_in (f := bf) (g := bf) (sp := 33) (dp := 0) (n := 297) (j := 33 * i + r) (by omega)
    rw [Nat.zero_add] at this
    rw [this]
    congr 1
    omega
theorem bfK_new {k r : Nat} {bf nw : Nat → Nat} (hr : r < 33) : bfK k bf nw (33 * dn0 k + r) = nw r := by
  unfold bfK
  rw [cpF_in hr, Nat.zero_add]
theorem bfK_hi {k j : Nat} {bf nw : Nat → Nat} (hj : 330 ≤ j) : bfK k bf nw j = bf j := by
  have := dn0_lt k
  unfold bfK
  rw [cpF_out (by omega)]
  unfold bfS
  by_cases q : k < 10
  · rw [if_pos q]
  · rw [if_neg q, cpF_out (by omega)]
/-- one deed more -/
theorem HR_push {cu dn k x y wk : Nat} {ds bf nw : Nat → Nat} {s s1 : mS3} (hcu : cu ≤ 4) (hd : dn ≤ 10) (h : HR cu 0 0 ds bf dn s) (hn : sdQ cu nw wk s.1 s.2.1 s.2.2) (hu : uS (ds1 dn ds k x y wk) (dn0 dn) s1 = s) : HR cu 0 0 (ds1 dn ds k x y wk) (bfK dn bf nw) (dn0 dn + 1) s1 := by
  show sdQ cu (fun j => bfK dn bf nw (33 * (dn0 dn) + j)) (ds1 dn ds k x y wk (dn0 dn * 4 + 3)) (uS (ds1 dn ds k x y wk) (dn0 dn) s1).1 (uS (ds1 dn ds k x y wk) (dn0 dn) s1).2.1 (uS (ds1 dn ds k x y wk) (dn0 dn) s1).2.2 ∧ HR cu 0 0 (ds1 dn ds k x y wk) (bfK dn bf nw) (dn0 dn) (uS (ds1 dn ds k x y wk) (dn0 dn) s1)
  rw [hu, ds1_new.2.2.2]
  refine ⟨sdR_cong hcu (fun j hj => bfK_new hj) hn, ?_⟩
  refine HR_shift (b := sh dn) (c := sh dn) (ds := ds) (bf := bf) hcu (dn0 dn) s (fun i hi r hr => ds1_old hd hi hr) (fun i hi r hr => bfK_old hd hi hr) ?_
  by_cases q : dn < 10
  · have e1 : dn0 dn = dn := if_pos q
    have e2 : sh dn = 0 := if_pos q
    rw [e1, e2]
    exact h
  · have e1 : dn0 dn = 9 := if_neg q
    have e2 : sh dn = 1 := if_neg q
    have e3 : dn = 10 := by omega
    rw [e1, e2]
    rw [e3] at h
    exact HR_drop 9 0 0 s h
/-- an image -/
def IR (cu i : Nat) (kp ik : Nat → Bool) (x : mSd) (kn bf sr : Nat → Nat) : Prop := ik i = kp i ∧ (kp i = true → kn (1 + i) = x.1 ∧ sdQ cu (fun j => sr (33 * i + j)) x.2.1 x.2.2.1 x.2.2.2.1 x.2.2.2.2.1 ∧ HR cu 0 (10 * (1 + i)) x.2.2.2.2.2 bf x.1 (x.2.2.1, x.2.2.2.1, x.2.2.2.2.1))
def SR (cu dc : Nat) (bo : Bool) (td : Nat → Nat) (dn wk : Nat) (nf ca fr ds : Nat → Nat) (x0 x1 : mSd) (kp : Nat → Bool) (cb db bb dg nw kn bf sr : Nat → Nat) (ik : Nat → Bool) (mo : Nat) (od : Nat → Nat) : Prop :=
  cb 0 = cu ∧ db 0 = dc ∧ bb 0 = bo.toNat ∧ (∀ j, j < dc → dg j = td j) ∧ sdQ cu nw wk nf ca fr ∧ kn 0 = dn ∧ HR cu 0 0 ds bf dn (nf, ca, fr) ∧ IR cu 0 kp ik x0 kn bf sr ∧ IR cu 1 kp ik x1 kn bf sr ∧ oAll cu mo od
/-- rows that stand above -/
theorem IR_cong {cu i : Nat} {kp ik : Nat → Bool} {x : mSd} {kn kn' bf bf' sr sr' : Nat → Nat} (hcu : cu ≤ 4) (h : IR cu i kp ik x kn bf sr) (e1 : kn' (1 + i) = kn (1 + i)) (e2 : kp i = true → ∀ j, j < x.1 → ∀ r, r < 33 → bf' (33 * (j + 10 * (1 + i)) + r) = bf (33 * (j + 10 * (1 + i)) + r)) (e3 : ∀ j, j < 33 → sr' (33 * i + j) = sr (33 * i + j)) : IR cu i kp ik x kn' bf' sr' :=
  ⟨h.1, fun q => ⟨e1.trans (h.2 q).1, sdR_cong hcu e3 (h.2 q).2.1, HR_shift hcu _ _ (fun _ _ _ _ => rfl) (e2 q) (h.2 q).2.2⟩⟩
/-- both sides -/
def INV (h : mH) : Prop := ∃ (n : Nat) (tx : Nat → Nat) (cu dc : Nat) (bo : Bool) (td : Nat → Nat) (dn wk : Nat) (nf ca fr ds : Nat → Nat) (x0 x1 : mSd) (kp : Nat → Bool) (sn : Nat) (sf st : Nat → Nat) (tr : Int64) (cb db bb dg nw kn bf sr : Nat → Nat) (ik : Nat → Bool) (mo : Nat) (od : Nat → Nat),
  CI h n tx cu dc bo td dn wk nf ca fr ds x0 x1 kp sn sf st tr ∧ rI h n tx cb db bb dg nw kn bf sr ik mo od sn sf st tr ∧ SR cu dc bo td dn wk nf ca fr ds x0 x1 kp cb db bb dg nw kn bf sr ik mo od
section Par
variable {h h' : mH} {n : Nat} {tx : Nat → Nat} {cu dc : Nat} {bo : Bool} {td : Nat → Nat} {dn wk : Nat} {nf ca fr ds : Nat → Nat} {x0 x1 : mSd} {kp : Nat → Bool} {sn : Nat} {sf st : Nat → Nat} {tr : Int64} {cb db bb dg nw kn bf sr : Nat → Nat} {ik : Nat → Bool} {mo : Nat} {od : Nat → Nat}
theorem CI_cong (H : CI h n tx cu dc bo td dn wk nf ca fr ds x0 x1 kp sn sf st tr) (e : ∀ b, b < 40 → h' b = h b) : CI h' n tx cu dc bo td dn wk nf ca fr ds x0 x1 kp sn sf st tr := by
  unfold CI cRd cTo cDr cNo cI0 cI1 cMi cSe cTe cWk cFa at H ⊢
  simp only [e 0 (by decide), e 1 (by decide), e 2 (by decide), e 3 (by decide), e 4 (by decide), e 5 (by decide), e 6 (by decide), e 7 (by decide), e 8 (by decide), e 9 (by decide), e 10 (by decide), e 11 (by decide), e 12 (by decide), e 13 (by decide), e 14 (by decide), e 15 (by decide), e 16 (by decide), e 17 (by decide), e 18 (by decide), e 19 (by decide), e 20 (by decide), e 21 (by decide), e 22 (by decide), e 23 (by decide), e 24 (by decide), e 25 (by decide), e 26 (by decide), e 27 (by decide), e 28 (by decide), e 29 (by decide), e 30 (by decide), e 31 (by decide), e 32 (by decide), e 33 (by decide), e 34 (by decide), e 35 (by decide), e 36 (by decide), e 37 (by decide), e 38 (by decide), e 39 (by decide)]
  exact H
theorem rI_cong (H : rI h n tx cb db bb dg nw kn bf sr ik mo od sn sf st tr) (e : ∀ b, 40 ≤ b → h' b = h b) : rI h' n tx cb db bb dg nw kn bf sr ik mo od sn sf st tr := by
  unfold rI at H ⊢
  simp only [e 40 (by decide), e 41 (by decide), e 42 (by decide), e 43 (by decide), e 44 (by decide), e 45 (by decide), e 46 (by decide), e 47 (by decide), e 48 (by decide), e 49 (by decide), e 50 (by decide), e 51 (by decide), e 52 (by decide), e 53 (by decide), e 54 (by decide), e 55 (by decide)]
  exact H
theorem pow_cu (hcu : cu ≤ 4) : 10 ^ cu ≤ 10000 := Nat.le_trans (Nat.pow_le_pow_right (by decide) hcu) (by decide)
theorem bo_eq (hb : bb 0 = bo.toNat) : decide (bb 0 = 1) = bo := by
  rw [hb]
  cases bo <;> rfl
theorem rF_of (H : CI h n tx cu dc bo td dn wk nf ca fr ds x0 x1 kp sn sf st tr) (S : SR cu dc bo td dn wk nf ca fr ds x0 x1 kp cb db bb dg nw kn bf sr ik mo od) : rF n tx cb db bb dg nw kn mo od sn sf st := by
  obtain ⟨e0, ⟨t, e1, e2, ht, hn, htx⟩, ⟨it, tf, e3, e4, e5, hcu, hdc, htd⟩, hDr, hNo, hI0, hI1, hMi, ⟨e16, e17, e18, hsn, hsf, hst⟩, hTe, hWk, hFa, ⟨hd, hw, hf, hc4, hcj, hcc, hfr, hds⟩, hK0, hK1⟩ := H
  obtain ⟨s1, s2, s3, s4, ⟨s5, s5b⟩, s6, s7, s8, s9, s10⟩ := S
  have hp := pow_cu hcu
  refine ⟨hn, htx, by omega, by omega, by rw [s3]; cases bo <;> decide, by rw [s1]; exact s10.ok hcu, ?_, ?_, ?_, ?_, by rw [s5.2.2.2]; exact hw, ?_, by omega, hsn, hsf, hst⟩
  · rw [s1]; intro j hj; rw [s5.1 j hj]; exact hf j hj
  · exact s5b
  · rw [s1]; intro j hj; rw [s5.2.1 j hj]; exact hcc j hj
  · intro j hj; rw [s5.2.2.1 j hj]; exact hfr j hj
  · rw [s2]; intro j hj; rw [s4 j hj]; have := htd j hj; omega
end Par
/-- a call of both sides, alike in its answer -/
def mDu (E : mE) (Y1 Y2 : mY) (av : List Value) (h : mH) : Prop := ∃ (d1 d2 : Nat) (Q : Int32 → mH → Prop), d1 ≤ 50 ∧ d2 ≤ 50 ∧ mOk E d1 Y1 (.ref 0 :: av) h (fun r h' => ∃ v, r = some (.int v) ∧ Q v h') ∧ ∀ v h', Q v h' → (∃ fs, h' 40 = mOb 8 fs) ∧ mOk E d2 Y2 (.ref 40 :: av) h' (fun r h'' => r = some (.int v) ∧ INV h'')
theorem du_mk {E : mE} {h : mH} {d1 d2 : Nat} {Y1 Y2 : mY} {av : List Value} {v : Int32} {n : Nat} {tx : Nat → Nat} {cu dc : Nat} {bo : Bool} {td : Nat → Nat} {dn wk : Nat} {nf ca fr ds : Nat → Nat} {x0 x1 : mSd} {kp : Nat → Bool} {sn : Nat} {sf st : Nat → Nat} {tr : Int64} {cb db bb dg nw kn bf sr : Nat → Nat} {ik : Nat → Bool} {mo : Nat} {od : Nat → Nat} {n' : Nat} {tx' cb' db' bb' dg' nw' kn' bf' sr' : Nat → Nat} {ik' : Nat → Bool} {mo' : Nat} {od' : Nat → Nat} {fa' : Nat} {fo' fi' : Nat → Nat} {tr' : Int64}
    (R0 : rI h n' tx' cb' db' bb' dg' nw' kn' bf' sr' ik' mo' od' fa' fo' fi' tr')
    (C : mOk E d1 Y1 (.ref 0 :: av) h (cQ h (.int v) (CI · n tx cu dc bo td dn wk nf ca fr ds x0 x1 kp sn sf st tr)))
    (R : ∀ h', rI h' n' tx' cb' db' bb' dg' nw' kn' bf' sr' ik' mo' od' fa' fo' fi' tr' → mOk E d2 Y2 (.ref 40 :: av) h' (rQ h' (.int v) (rI · n tx cb db bb dg nw kn bf sr ik mo od sn sf st tr)))
    (S : SR cu dc bo td dn wk nf ca fr ds x0 x1 kp cb db bb dg nw kn bf sr ik mo od) (hd1 : d1 ≤ 50 := by decide) (hd2 : d2 ≤ 50 := by decide) : mDu E Y1 Y2 av h := by
  refine ⟨d1, d2, fun w h' => w = v ∧ CI h' n tx cu dc bo td dn wk nf ca fr ds x0 x1 kp sn sf st tr ∧ rI h' n' tx' cb' db' bb' dg' nw' kn' bf' sr' ik' mo' od' fa' fo' fi' tr', hd1, hd2, mOk_imp C (fun r h' q => ⟨v, q.1, rfl, q.2.1, rI_cong R0 q.2.2⟩), ?_⟩
  rintro w h' ⟨rfl, hC, hR⟩
  refine ⟨?_, mOk_imp (R h' hR) (fun r h'' q => ⟨q.1, n, tx, cu, dc, bo, td, dn, wk, nf, ca, fr, ds, x0, x1, kp, sn, sf, st, tr, cb, db, bb, dg, nw, kn, bf, sr, ik, mo, od, CI_cong hC q.2.2, q.2.1, S⟩)⟩
  obtain ⟨t, wr, it, fg, ls, e40, -⟩ := hR
  exact ⟨_, e40⟩
