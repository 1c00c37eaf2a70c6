/-! the class's choosing finds the least -/
theorem chF_s (T : Nat → Nat) (cu la f k p us : Nat) (sp : Int32) (x : mT4) : chF T cu la (f + 1) k p us sp x = if sp < x.2.2.2 then (if p < cu then iterF (fun c y => if us >>> c &&& 1 = 0 then chF T cu la f k (p + 1) (us ||| 1 <<< c) (sp + chM T k p c y) (t4up k p c y) else y) 0 cu x
      else if k < la then chF T cu la f (k + 1) 0 0 (sp + nI (chT x.1 x.2.1 k cu)) x
      else (x.1, x.2.1, x.2.2.1, if sp + nI (chT x.1 x.2.1 k cu) < x.2.2.2 then sp + nI (chT x.1 x.2.1 k cu) else x.2.2.2)) else x := rfl
/-- what a cube's turns have cost, some cubes having a place at number k + 1 -/
def cuV (nf fr : Nat → Nat) (bo : Bool) (wa : Nat → Nat) (cu k p us : Nat) (o g : Nat → Nat) (c : Nat) : Nat := if us.testBit c = true then vlC nf fr bo wa c (k + 1) (pthO cu o c k * 4 + plF g c p + 1) else vlC nf fr bo wa c k (pthO cu o c k)
def spO (nf fr : Nat → Nat) (bo : Bool) (wa : Nat → Nat) (cu k p us : Nat) (o g : Nat → Nat) : Nat := cgT cu o k + smG (cuV nf fr bo wa cu k p us o g) cu
/-- what goes on from there -/
def coP (nf fr : Nat → Nat) (bo : Bool) (wa : Nat → Nat) (cu la k p : Nat) (o g : Nat → Nat) (w : Nat) : Prop := ∃ o' : Nat → Nat, (∀ j, j ≤ k → o' j = o j) ∧ (∀ j, k + 1 ≤ j → j ≤ la → PO cu (o' j)) ∧ (∀ q, q < p → cIn (o' (k + 1)) q = g q) ∧ w = tcO nf fr bo wa cu la o'
/-- what lies in the rows -/
def ciX (cu k p : Nat) (o g : Nat → Nat) (x : mT4) : Prop := (∀ j q, j ≤ k → q < cu → x.1 (j * 4 + q) = cIn (o j) q) ∧ (∀ j c, 1 ≤ j → j ≤ k → c < cu → x.2.1 (j * 4 + c) = plF (cIn (o j)) c cu) ∧ (∀ j c, j ≤ k → c < cu → x.2.2.1 (j * 4 + c) = pthO cu o c j) ∧ ∀ q, q < p → x.1 ((k + 1) * 4 + q) = g q ∧ x.2.1 ((k + 1) * 4 + g q) = q ∧ x.2.2.1 ((k + 1) * 4 + g q) = pthO cu o (g q) k * 4 + q + 1
theorem plF_cong {g g' : Nat → Nat} {c : Nat} : ∀ n, (∀ i, i < n → g i = g' i) → plF g c n = plF g' c n := by
  intro n
  induction n with
  | zero => intro _; rfl
  | succ n ih =>
    intro h
    unfold plF
    rw [h n (by omega), ih (fun i hi => h i (by omega))]
theorem coP_ge {nf fr : Nat → Nat} {bo : Bool} {wa : Nat → Nat} {cu la k p us : Nat} {o g : Nat → Nat} {w : Nat} (hcu : cu ≤ 4) (hk : k + 1 ≤ la) (hp : p ≤ cu) (hus : us < 16) (hck : chk g p us = true) (hg : ∀ q, q < p → g q < cu) (h : coP nf fr bo wa cu la k p o g w) : spO nf fr bo wa cu k p us o g ≤ w := by
  obtain ⟨o', h1, h2, h3, rfl⟩ := h
  have hPO := h2 (k + 1) (Nat.le_refl _) hk
  obtain ⟨j, rfl⟩ : ∃ j, la = k + 1 + j := ⟨la - (k + 1), by omega⟩
  unfold spO tcO
  refine Nat.add_le_add ?_ (smG_mo cu (fun c hc => ?_))
  · rw [cgT_cong k (fun i hi => (h1 i hi).symm), show k + 1 + j = k + (1 + j) by omega]
    exact cgT_mono _
  · have m1 := vl_mono (nf := nf) (fr := fr) (bo := bo) (wa := wa) (k := k + 1) (o := o') hcu hc j
    have m0 := vl_mono (nf := nf) (fr := fr) (bo := bo) (wa := wa) (k := k) (o := o') hcu hc 1
    unfold cuV
    split
    · rename_i hb
      obtain ⟨q, hq, rfl⟩ := chk_of p us hus (fun q hq => by have := hg q hq; omega) hck c (by omega) hb
      have e1 : plF g (g q) p = q := plF_eq p hq rfl (fun i hi e => PO_inj hcu hPO (by omega) (by omega) (by rw [h3 i hi, h3 q hq, e]))
      have e2 : plF (cIn (o' (k + 1))) (g q) cu = q := by rw [← h3 q hq]; exact PO_pl hcu hPO (by omega)
      have e3 : pthO cu o' (g q) (k + 1) = pthO cu o (g q) k * 4 + q + 1 := by
        show pthO cu o' (g q) k * 4 + plF (cIn (o' (k + 1))) (g q) cu + 1 = _
        rw [e2, pthO_cong k h1]
      rw [e1, ← e3]
      exact m1
    · rw [← pthO_cong (c := c) k h1]
      exact Nat.le_trans m0 m1
theorem nI_adj {S L C : Nat} (h : C ≤ S) : nI S + (nI L - nI C) = nI (S - C + L) := by
  rw [← nI_add, ← pk_sub h, Int32.sub_eq_add_neg, Int32.sub_eq_add_neg, Int32.add_assoc, Int32.add_comm (nI L)]
theorem tOK_at {nf fr : Nat → Nat} {bo : Bool} {cu la : Nat} {wa T : Nat → Nat} {c : Nat} (hcu : cu ≤ 4) (hfr : fr c < 6) (h : tOK nf fr bo cu la wa T c) {k b : Nat} (hk : k ≤ la) (hb : exP cu 0 k b) (hv : vlC nf fr bo wa c k b < 1000) : T (c * 85 + b) = vlC nf fr bo wa c k b := by
  cases k with
  | zero =>
    have e : b = 0 := hb
    rw [e, h.1, vlC_0 hfr]
  | succ k =>
    obtain ⟨b', p, h1, h2, rfl⟩ := hb
    exact h.2 k b' p (by omega) h1 h2 (Nat.lt_of_le_of_lt (vlC_mono (by omega)) hv)
theorem ciX_less {cu k p c : Nat} {o g : Nat → Nat} {x : mT4} (h : ciX cu k (p + 1) o (mUp g p c) x) : ciX cu k p o g x := by
  refine ⟨h.1, h.2.1, h.2.2.1, fun q hq => ?_⟩
  have := h.2.2.2 q (by omega)
  rw [mUp_ne _ _ (by omega)] at this
  exact this
theorem ciX_up {cu k p c us : Nat} {o g : Nat → Nat} {x : mT4} (hcu : cu ≤ 4) (hp : p < cu) (hc : c < cu) (hus : us < 16) (hck : chk g p us = true) (hg : ∀ q, q < p → g q < cu) (hb : us.testBit c = false) (h : ciX cu k p o g x) : ciX cu k (p + 1) o (mUp g p c) (t4up (k + 1) p c x) := by
  refine ⟨fun j q hj hq => ?_, fun j d h1 hj hd => ?_, fun j d hj hd => ?_, fun q hq => ?_⟩
  · show mUp x.1 ((k + 1) * 4 + p) c (j * 4 + q) = _
    rw [mUp_ne _ _ (by omega)]; exact h.1 j q hj hq
  · show mUp x.2.1 ((k + 1) * 4 + c) p (j * 4 + d) = _
    rw [mUp_ne _ _ (by omega)]; exact h.2.1 j d h1 hj hd
  · show mUp x.2.2.1 ((k + 1) * 4 + c) _ (j * 4 + d) = _
    rw [mUp_ne _ _ (by omega)]; exact h.2.2.1 j d hj hd
  · show mUp x.1 ((k + 1) * 4 + p) c ((k + 1) * 4 + q) = mUp g p c q ∧ mUp x.2.1 ((k + 1) * 4 + c) p ((k + 1) * 4 + mUp g p c q) = q ∧ mUp x.2.2.1 ((k + 1) * 4 + c) (x.2.2.1 (k * 4 + c) * 4 + p + 1) ((k + 1) * 4 + mUp g p c q) = pthO cu o (mUp g p c q) k * 4 + q + 1
    by_cases e : q = p
    · subst e
      rw [mUp_eq, mUp_eq, mUp_eq, mUp_eq, h.2.2.1 k c (Nat.le_refl _) hc]
      exact ⟨rfl, rfl, rfl⟩
    · have hq' : q < p := by omega
      have hne : g q ≠ c := by
        intro e2
        have := chk_in p us hus (fun q hq => by have := hg q hq; omega) hck q hq'
        rw [e2, hb] at this
        exact Bool.noConfusion this
      rw [mUp_ne g _ e, mUp_ne _ _ (by omega), mUp_ne _ _ (by omega), mUp_ne _ _ (by omega)]
      exact h.2.2.2 q hq'
theorem coP_step {nf fr : Nat → Nat} {bo : Bool} {wa : Nat → Nat} {cu la k p us : Nat} {o g : Nat → Nat} {w : Nat} (hcu : cu ≤ 4) (hk : k + 1 ≤ la) (hp : p < cu) (hus : us < 16) (hck : chk g p us = true) (hg : ∀ q, q < p → g q < cu) : coP nf fr bo wa cu la k p o g w ↔ ∃ c, 0 ≤ c ∧ c < 0 + cu ∧ us.testBit c = false ∧ coP nf fr bo wa cu la k (p + 1) o (mUp g p c) w := by
  constructor
  · rintro ⟨o', h1, h2, h3, h4⟩
    have hPO := h2 (k + 1) (Nat.le_refl _) hk
    refine ⟨cIn (o' (k + 1)) p, Nat.zero_le _, by rw [Nat.zero_add]; exact (PO_lt hcu hPO).2 p hp, ?_, o', h1, h2, fun q hq => ?_, h4⟩
    · cases hb : us.testBit (cIn (o' (k + 1)) p)
      · rfl
      · obtain ⟨q, hq, e⟩ := chk_of p us hus (fun q hq => by have := hg q hq; omega) hck _ (cIn_lt _ _) hb
        rw [← h3 q hq] at e
        have := PO_inj hcu hPO (by omega) hp e
        omega
    · by_cases e : q = p
      · rw [e, mUp_eq]
      · rw [mUp_ne _ _ e]; exact h3 q (by omega)
  · rintro ⟨c, _, _, _, o', h1, h2, h3, h4⟩
    refine ⟨o', h1, h2, fun q hq => ?_, h4⟩
    have := h3 q (by omega)
    rw [mUp_ne _ _ (by omega)] at this
    exact this
theorem spO_step {nf fr : Nat → Nat} {bo : Bool} {wa : Nat → Nat} {cu k p us c : Nat} {o g : Nat → Nat} (hcu : cu ≤ 4) (hc : c < cu) (hus : us < 16) (hb : us.testBit c = false) : spO nf fr bo wa cu k (p + 1) (us ||| 1 <<< c) o (mUp g p c) = spO nf fr bo wa cu k p us o g - vlC nf fr bo wa c k (pthO cu o c k) + vlC nf fr bo wa c (k + 1) (pthO cu o c k * 4 + p + 1) ∧ vlC nf fr bo wa c k (pthO cu o c k) ≤ spO nf fr bo wa cu k p us o g := by
  have e1 : cuV nf fr bo wa cu k p us o g c = vlC nf fr bo wa c k (pthO cu o c k) := if_neg (by rw [hb]; exact Bool.noConfusion)
  have e2 : cuV nf fr bo wa cu k (p + 1) (us ||| 1 <<< c) o (mUp g p c) c = vlC nf fr bo wa c (k + 1) (pthO cu o c k * 4 + p + 1) := by
    unfold cuV
    have e3 : plF (mUp g p c) c (p + 1) = p := by unfold plF; rw [mUp_eq, if_pos rfl]
    rw [(bs1 hus (show c < 4 by omega) (show c < 4 by omega)).2.2.1, hb, if_pos (by simp), e3]
  have h := smG_ch (f := cuV nf fr bo wa cu k p us o g) (f' := cuV nf fr bo wa cu k (p + 1) (us ||| 1 <<< c) o (mUp g p c)) cu c hc (fun j hj hne => by
    unfold cuV
    have e3 : plF (mUp g p c) j (p + 1) = plF g j p := by
      show (if mUp g p c p = j then p else plF (mUp g p c) j p) = _
      rw [mUp_eq, if_neg (by omega)]
      exact plF_cong p (fun i hi => mUp_ne _ _ (by omega))
    rw [(bs1 hus (show c < 4 by omega) (show j < 4 by omega)).2.2.1, decide_eq_false hne, Bool.or_false, e3])
  have h2 := smG_at (f := cuV nf fr bo wa cu k p us o g) cu c hc
  rw [e1, e2] at h
  rw [e1] at h2
  unfold spO
  omega
theorem spO_le {nf fr : Nat → Nat} {bo : Bool} {wa : Nat → Nat} {cu la k p us : Nat} {o g : Nat → Nat} (hcu : cu ≤ 4) (hk : k + 1 ≤ la) (hla : la ≤ 3) : spO nf fr bo wa cu k p us o g ≤ 5000 := by
  have h1 := cgT_le (cu := cu) (o := o) k
  have h2 : smG (cuV nf fr bo wa cu k p us o g) cu ≤ cu * 1000 := smG_le cu (fun c _ => by unfold cuV; split <;> exact vlC_le)
  have h3 : k * cu ≤ 2 * 4 := Nat.mul_le_mul (by omega) hcu
  unfold spO
  omega
set_option maxHeartbeats 1000000 in
theorem chF_sp {nf fr : Nat → Nat} {bo : Bool} {wa T : Nat → Nat} {cu la : Nat} (hcu : cu ≤ 4) (hla : la ≤ 3) (hT : ∀ c, c < cu → tOK nf fr bo cu la wa T c) (hfr : ∀ c, c < cu → fr c < 6) : ∀ (f k p us : Nat) (o g : Nat → Nat) (x : mT4) (B : Nat), k + 1 ≤ la → p ≤ cu → us < 16 → chk g p us = true → (∀ q, q < p → g q < cu) → (∀ j, j ≤ k → PO cu (o j)) → ciX cu k p o g x → x.2.2.2 = nI B → B ≤ 1000 → (la - (k + 1)) * (cu + 2) + (cu - p) < f →
    ∃ B', (chF T cu la f (k + 1) p us (nI (spO nf fr bo wa cu k p us o g)) x).2.2.2 = nI B' ∧ mF B (coP nf fr bo wa cu la k p o g) B' ∧ ciX cu k p o g (chF T cu la f (k + 1) p us (nI (spO nf fr bo wa cu k p us o g)) x) := by
  intro f
  induction f with
  | zero => intro k p us o g x B _ _ _ _ _ _ _ _ _ h; exact absurd h (Nat.not_lt_zero _)
  | succ f ih =>
    intro k p us o g x B hk hp hus hck hg hpo hx hB hBl hf
    have hS : spO nf fr bo wa cu k p us o g ≤ 5000 := spO_le hcu hk hla
    rw [chF_s, hB]
    by_cases hlt : spO nf fr bo wa cu k p us o g < B
    · rw [if_pos ((nI_ltI (by omega) (by omega)).mpr hlt)]
      by_cases hpc : p < cu
      · rw [if_pos hpc]
        have loop : ∀ n i (y : mT4) Bi, i + n = cu → ciX cu k p o g y → y.2.2.2 = nI Bi → Bi ≤ 1000 → ∃ B', (iterF (fun c y => if us >>> c &&& 1 = 0 then chF T cu la f (k + 1) (p + 1) (us ||| 1 <<< c) (nI (spO nf fr bo wa cu k p us o g) + chM T (k + 1) p c y) (t4up (k + 1) p c y) else y) i n y).2.2.2 = nI B' ∧ mF Bi (fun w => ∃ c, i ≤ c ∧ c < i + n ∧ us.testBit c = false ∧ coP nf fr bo wa cu la k (p + 1) o (mUp g p c) w) B' ∧ ciX cu k p o g (iterF (fun c y => if us >>> c &&& 1 = 0 then chF T cu la f (k + 1) (p + 1) (us ||| 1 <<< c) (nI (spO nf fr bo wa cu k p us o g) + chM T (k + 1) p c y) (t4up (k + 1) p c y) else y) i n y) := by
          intro n
          induction n with
          | zero => intro i y Bi _ hy hyB _; exact ⟨Bi, hyB, mF.no (fun w ⟨c, h1, h2, _⟩ => absurd h1 (by omega)), hy⟩
          | succ n ihn =>
            intro i y Bi hin hy hyB hBi
            rw [iterF_s]
            cases hb : us.testBit i with
            | true =>
              rw [if_neg (fun z => by rw [bit0, hb] at z; exact Bool.noConfusion z)]
              obtain ⟨B', g1, g2, g3⟩ := ihn (i + 1) y Bi (by omega) hy hyB hBi
              refine ⟨B', g1, g2.iff (fun w => ?_), g3⟩
              constructor
              · rintro ⟨c, h1, h2, h3, h4⟩
                by_cases e : c = i
                · rw [e, hb] at h3; exact Bool.noConfusion h3
                · exact ⟨c, by omega, by omega, h3, h4⟩
              · rintro ⟨c, h1, h2, h3⟩
                exact ⟨c, by omega, by omega, h3⟩
            | false =>
              rw [if_pos (bit0.mpr hb)]
              have hi : i < cu := by omega
              have hst := spO_step (nf := nf) (fr := fr) (bo := bo) (wa := wa) (k := k) (p := p) (o := o) (g := g) hcu hi hus hb
              have hex := pthO_ex (cu := cu) (c := i) (o := o) (by omega) k
              have hv1 : vlC nf fr bo wa i k (pthO cu o i k) < 1000 := by omega
              have hT1 := tOK_at hcu (hfr i hi) (hT i hi) (show k ≤ la by omega) hex hv1
              have hT2 := (hT i hi).2 k (pthO cu o i k) p (by omega) hex hpc hv1
              have hM : nI (spO nf fr bo wa cu k p us o g) + chM T (k + 1) p i y = nI (spO nf fr bo wa cu k (p + 1) (us ||| 1 <<< i) o (mUp g p i)) := by
                unfold chM
                rw [show k + 1 - 1 = k by omega, hy.2.2.1 k i (Nat.le_refl _) hi, hT1, hT2, nI_adj hst.2, hst.1]
              rw [hM]
              obtain ⟨B1, g1, g2, g3⟩ := ih k (p + 1) (us ||| 1 <<< i) o (mUp g p i) (t4up (k + 1) p i y) Bi hk (by omega) (or_bit_lt hus (by omega)) (chk_add hus (by omega) hck hb) (fun q hq => by
                by_cases e : q = p
                · rw [e, mUp_eq]; exact hi
                · rw [mUp_ne _ _ e]; exact hg q (by omega)) hpo (ciX_up hcu hpc hi hus hck hg hb hy) hyB hBi (by omega)
              obtain ⟨B', g4, g5, g6⟩ := ihn (i + 1) _ B1 (by omega) (ciX_less g3) g1 (Nat.le_trans g2.1 hBi)
              refine ⟨B', g4, (g2.or g5).iff (fun w => ?_), g6⟩
              constructor
              · rintro ⟨c, h1, h2, h3, h4⟩
                by_cases e : c = i
                · rw [e] at h4; exact Or.inl h4
                · exact Or.inr ⟨c, by omega, by omega, h3, h4⟩
              · rintro (h | ⟨c, h1, h2, h3⟩)
                · exact ⟨i, Nat.le_refl _, by omega, hb, h⟩
                · exact ⟨c, by omega, by omega, h3⟩
        obtain ⟨B', g1, g2, g3⟩ := loop cu 0 x B (Nat.zero_add _) hx hB hBl
        exact ⟨B', g1, g2.iff (fun w => coP_step hcu hk hpc hus hck hg), g3⟩
      · rw [if_neg hpc]
        have ep : p = cu := by omega
        subst ep
        obtain ⟨hO, hOc, hOb⟩ := ord_on hcu hus hg hck
        -- the orders so far, with this one
        have e1 : ∀ j, j ≤ k → mUp o (k + 1) (onF g p) j = o j := fun j hj => mUp_ne _ _ (by omega)
        have ePl : ∀ c, plF (cIn (onF g p)) c p = plF g c p := fun c => plF_cong p hOc
        have ePt : ∀ c, pthO p (mUp o (k + 1) (onF g p)) c (k + 1) = pthO p o c k * 4 + plF g c p + 1 := by
          intro c
          show pthO p (mUp o (k + 1) (onF g p)) c k * 4 + plF (cIn (mUp o (k + 1) (onF g p) (k + 1))) c p + 1 = _
          rw [mUp_eq, ePl, pthO_cong k e1]
        have eCg : cgT p (mUp o (k + 1) (onF g p)) (k + 1) = cgT p o k + cgF p (o k) (onF g p) := by
          show cgT p (mUp o (k + 1) (onF g p)) k + cgF p (mUp o (k + 1) (onF g p) k) (mUp o (k + 1) (onF g p) (k + 1)) = _
          rw [mUp_eq, e1 k (Nat.le_refl _), cgT_cong k e1]
        have eSm : smG (cuV nf fr bo wa p k p us o g) p = smG (fun c => vlC nf fr bo wa c (k + 1) (pthO p (mUp o (k + 1) (onF g p)) c (k + 1))) p := smG_cong p (fun c hc => by
          unfold cuV
          rw [if_pos (hOb c hc), ePt])
        have hcg := cgF_le p (o k) (onF g p)
        have eT : chT x.1 x.2.1 (k + 1) p = cgF p (o k) (onF g p) := by
          rw [← ch_cg hcu (hpo k (Nat.le_refl _)) hO]
          refine chT_U (fun q hq => ?_)
          have hcq := (PO_lt hcu (hpo k (Nat.le_refl _))).2 q hq
          refine ⟨?_, plF_cu (by omega)⟩
          rw [show k + 1 - 1 = k by omega, hx.1 k q (Nat.le_refl _) hq]
          -- the place of that cube
          obtain ⟨q2, hq2, e2⟩ := chk_of p us hus (fun q hq => by have := hg q hq; omega) hck (cIn (o k) q) (cIn_lt _ _) (hOb _ hcq)
          rw [← e2, (hx.2.2.2 q2 hq2).2.1, ← hOc q2 hq2]
          exact (PO_pl hcu hO hq2).symm
        rw [eT, nI_add]
        -- who goes on has just this order
        have hun : ∀ o' : Nat → Nat, (∀ j, k + 1 ≤ j → j ≤ la → PO p (o' j)) → (∀ q, q < p → cIn (o' (k + 1)) q = g q) → o' (k + 1) = onF g p := fun o' h2 h3 => PO_eq hcu (h2 (k + 1) (Nat.le_refl _) hk) hO (fun q hq => by rw [h3 q hq, hOc q hq])
        by_cases hkl : k + 1 < la
        · rw [if_pos hkl]
          have eS : spO nf fr bo wa p k p us o g + cgF p (o k) (onF g p) = spO nf fr bo wa p (k + 1) 0 0 (mUp o (k + 1) (onF g p)) g := by
            unfold spO
            rw [eCg, eSm]
            have : smG (cuV nf fr bo wa p (k + 1) 0 0 (mUp o (k + 1) (onF g p)) g) p = smG (fun c => vlC nf fr bo wa c (k + 1) (pthO p (mUp o (k + 1) (onF g p)) c (k + 1))) p := smG_cong p (fun c hc => by
              unfold cuV
              rw [if_neg (by rw [Nat.zero_testBit]; exact Bool.noConfusion)])
            omega
          rw [eS]
          have hx1 : ciX p (k + 1) 0 (mUp o (k + 1) (onF g p)) g x := by
            refine ⟨fun j q hj hq => ?_, fun j c h1 hj hc => ?_, fun j c hj hc => ?_, fun q hq => absurd hq (Nat.not_lt_zero _)⟩
            · by_cases e : j = k + 1
              · rw [e, mUp_eq, hOc q hq]; exact (hx.2.2.2 q hq).1
              · rw [e1 j (by omega)]; exact hx.1 j q (by omega) hq
            · by_cases e : j = k + 1
              · obtain ⟨q2, hq2, e2⟩ := chk_of p us hus (fun q hq => by have := hg q hq; omega) hck c (by omega) (hOb _ hc)
                rw [e, mUp_eq, ← e2, (hx.2.2.2 q2 hq2).2.1, ← hOc q2 hq2]
                exact (PO_pl hcu hO hq2).symm
              · rw [e1 j (by omega)]; exact hx.2.1 j c h1 (by omega) hc
            · by_cases e : j = k + 1
              · obtain ⟨q2, hq2, e2⟩ := chk_of p us hus (fun q hq => by have := hg q hq; omega) hck c (by omega) (hOb _ hc)
                have e3 : plF g c p = q2 := by rw [← ePl, ← e2, ← hOc q2 hq2]; exact PO_pl hcu hO hq2
                rw [e, ePt, e3, ← e2]
                exact (hx.2.2.2 q2 hq2).2.2
              · rw [pthO_cong j (fun i hi => e1 i (by omega))]; exact hx.2.2.1 j c (by omega) hc
          have hml : (la - (k + 1)) * (p + 2) = (la - (k + 1 + 1)) * (p + 2) + (p + 2) := mul_step hkl
          obtain ⟨B', g1, g2, g3⟩ := ih (k + 1) 0 0 (mUp o (k + 1) (onF g p)) g x B (by omega) (Nat.zero_le _) (by decide) rfl (fun q hq => absurd hq (Nat.not_lt_zero _)) (fun j hj => by
            by_cases e : j = k + 1
            · rw [e, mUp_eq]; exact hO
            · rw [e1 j (by omega)]; exact hpo j (by omega)) hx1 hB hBl (by omega)
          refine ⟨B', g1, g2.iff (fun w => ?_), ?_⟩
          · constructor
            · rintro ⟨o', h1, h2, h3, h4⟩
              refine ⟨o', fun j hj => ?_, fun j h5 h6 => h2 j (by omega) h6, fun q hq => absurd hq (Nat.not_lt_zero _), h4⟩
              by_cases e : j = k + 1
              · rw [e, mUp_eq]; exact hun o' h2 h3
              · rw [e1 j (by omega)]; exact h1 j (by omega)
            · rintro ⟨o', h1, h2, _, h4⟩
              have e5 : o' (k + 1) = onF g p := by rw [h1 (k + 1) (Nat.le_refl _), mUp_eq]
              refine ⟨o', fun j hj => by rw [h1 j (by omega), e1 j hj], fun j h5 h6 => ?_, fun q hq => by rw [e5, hOc q hq], h4⟩
              by_cases e : j = k + 1
              · rw [e, e5]; exact hO
              · exact h2 j (by omega) h6
          · refine ⟨fun j q hj hq => ?_, fun j c h1 hj hc => ?_, fun j c hj hc => ?_, fun q hq => ?_⟩
            · rw [g3.1 j q (by omega) hq, e1 j hj]
            · rw [g3.2.1 j c h1 (by omega) hc, e1 j hj]
            · rw [g3.2.2.1 j c (by omega) hc, pthO_cong j (fun i hi => e1 i (by omega))]
            · have e6 : plF g (g q) p = q := by rw [← ePl, ← hOc q hq]; exact PO_pl hcu hO hq
              refine ⟨?_, ?_, ?_⟩
              · rw [g3.1 (k + 1) q (Nat.le_refl _) hq, mUp_eq, hOc q hq]
              · rw [g3.2.1 (k + 1) (g q) (by omega) (Nat.le_refl _) (hg q hq), mUp_eq, ePl, e6]
              · rw [g3.2.2.1 (k + 1) (g q) (Nat.le_refl _) (hg q hq), ePt, e6]
        · rw [if_neg hkl]
          have el : la = k + 1 := by omega
          have eW : spO nf fr bo wa p k p us o g + cgF p (o k) (onF g p) = tcO nf fr bo wa p la (mUp o (k + 1) (onF g p)) := by
            rw [el]
            unfold spO tcO
            rw [eCg, eSm]
            omega
          refine ⟨min B (spO nf fr bo wa p k p us o g + cgF p (o k) (onF g p)), ?_, (mF.one B _).iff (fun w => ?_), hx⟩
          · show (if nI (spO nf fr bo wa p k p us o g + cgF p (o k) (onF g p)) < nI B then nI (spO nf fr bo wa p k p us o g + cgF p (o k) (onF g p)) else nI B) = _
            by_cases q : spO nf fr bo wa p k p us o g + cgF p (o k) (onF g p) < B
            · rw [if_pos ((nI_ltI (by omega) (by omega)).mpr q), Nat.min_eq_right (by omega)]
            · rw [if_neg (fun z => q ((nI_ltI (by omega) (by omega)).mp z)), Nat.min_eq_left (by omega)]
          · rw [eW]
            constructor
            · rintro ⟨o', h1, h2, h3, h4⟩
              have e7 : ∀ j, j ≤ la → o' j = mUp o (k + 1) (onF g p) j := by
                intro j hj
                by_cases e : j = k + 1
                · rw [e, mUp_eq]; exact hun o' h2 h3
                · rw [e1 j (by omega)]; exact h1 j (by omega)
              rw [h4]
              unfold tcO
              rw [cgT_cong la e7, smG_cong p (fun c hc => by rw [pthO_cong la e7])]
            · intro h
              refine ⟨mUp o (k + 1) (onF g p), e1, fun j h1 h2 => ?_, fun q hq => by rw [mUp_eq, hOc q hq], h⟩
              rw [show j = k + 1 by omega, mUp_eq]; exact hO
    · rw [if_neg (fun z => hlt ((nI_ltI (by omega) (by omega)).mp z))]
      exact ⟨B, hB, mF.no (fun w hw => Nat.le_trans (by omega) (coP_ge hcu hk hp hus hck hg hw)), hx⟩
