/-! what is done to both sides -/
theorem mUp_bk2 (g : Nat → Nat) (i x : Nat) : mUp (mUp g i x) i (g i) = g := by
  funext j
  unfold mUp
  by_cases q : j = i
  · rw [if_pos q, q]
  · rw [if_neg q, if_neg q]
theorem swp_back (g : Nat → Nat) (p q : Nat) : swp (swp g p q) p q = g := by
  funext j
  rw [swp_at]
  by_cases a : j = q
  · rw [if_pos a, swp_at]
    by_cases b : p = q
    · rw [if_pos b, a, b]
    · rw [if_neg b, if_pos rfl, a]
  · rw [if_neg a]
    by_cases b : j = p
    · rw [if_pos b, swp_at, if_pos rfl, b]
    · rw [if_neg b, swp_at, if_neg a, if_neg b]
theorem rng0 {m : Int32} {b : Nat} (hb : b + 1 < 2 ^ 31) : (∃ k, k ≤ b ∧ m = nI k) ∨ m < 0 ∨ nI b < m := by
  cases q : isIx m (b + 1) with
  | true =>
    obtain ⟨k, hk, e⟩ := (isIx_iff hb).mp q
    exact Or.inl ⟨k, by omega, e⟩
  | false =>
    rcases ix_no hb q with z | z
    · exact Or.inr (Or.inl z)
    · exact Or.inr (Or.inr ((gt_ge hb).mpr z))
theorem lt0_lt1 {m : Int32} (h : m < 0) : m < nI 1 := by
  have h1 := Int32.lt_iff_toInt_lt.mp h
  have h2 : (nI 1).toInt = 1 := nI_toInt (by decide)
  apply Int32.lt_iff_toInt_lt.mpr
  rw [h2]
  have : (0 : Int32).toInt = 0 := by decide
  omega
theorem ca_sur {cu : Nat} {ca : Nat → Nat} (hcu : cu ≤ 4) (h1 : ∀ j, j < cu → ca j < cu) (h2 : ∀ i j, i < cu → j < cu → ca i = ca j → i = j) : ∀ c, c < cu → ∃ p, p < cu ∧ ca p = c := by
  intro c hc
  obtain ⟨P, e⟩ := ca_ord hcu h1 h2
  have ck := of_ord hcu P
  have hl : 2 ^ cu - 1 < 16 := by
    have : 2 ^ cu ≤ 2 ^ 4 := Nat.pow_le_pow_right (by decide) hcu
    omega
  obtain ⟨q, hq, eq⟩ := chk_of (g := fun i => cIn (onF ca cu) (cu - 1 - i)) cu (2 ^ cu - 1) hl (fun q hq => by
    have := (PO_lt hcu P).2 (cu - 1 - q) (by omega)
    show cIn (onF ca cu) (cu - 1 - q) < 4
    omega) ck c (by omega) (by rw [Nat.testBit_two_pow_sub_one]; exact decide_eq_true hc)
  exact ⟨cu - 1 - q, by omega, by rw [← e (cu - 1 - q) (by omega)]; exact eq⟩
section Par
variable {n : Nat} {tx : Nat → Nat} {cu dc : Nat} {bo : Bool} {td : Nat → Nat} {dn wk : Nat} {nf ca fr ds : Nat → Nat} {x0 x1 : mSd} {kp : Nat → Bool} {cb db bb dg nw kn bf sr : Nat → Nat} {ik : Nat → Bool} {mo : Nat} {od : Nat → Nat}
theorem SR_push {k x y wk' : Nat} {nf' ca' fr' nw' : Nat → Nat} (hcu : cu ≤ 4) (hd : dn ≤ 10) (S : SR cu dc bo td dn wk nf ca fr ds x0 x1 kp cb db bb dg nw kn bf sr ik mo od) (hn : sdQ cu nw' wk' nf' ca' fr') (hu : uS (ds1 dn ds k x y wk) (dn0 dn) (nf', ca', fr') = (nf, ca, fr)) : SR cu dc bo td (dn0 dn + 1) wk' nf' ca' fr' (ds1 dn ds k x y wk) x0 x1 kp cb db bb dg nw' (mUp kn 0 (dn0 dn + 1)) (bfK dn bf nw) sr ik mo od := by
  obtain ⟨s1, s2, s3, s4, s5, s6, s7, s8, s9, s10⟩ := S
  exact ⟨s1, s2, s3, s4, hn, mUp_eq _ _ _, HR_push (s := (nf, ca, fr)) hcu hd s7 s5 hu, IR_cong hcu s8 (mUp_ne _ _ (by decide)) (fun _ j hj r hr => bfK_hi (by omega)) (fun _ _ => rfl), IR_cong hcu s9 (mUp_ne _ _ (by decide)) (fun _ j hj r hr => bfK_hi (by omega)) (fun _ _ => rfl), s10⟩
theorem SR_undo (hcu : cu ≤ 4) (h0 : ¬ dn = 0) (S : SR cu dc bo td dn wk nf ca fr ds x0 x1 kp cb db bb dg nw kn bf sr ik mo od) : SR cu dc bo td (dn - 1) (ds ((dn - 1) * 4 + 3)) (uS ds (dn - 1) (nf, ca, fr)).1 (uS ds (dn - 1) (nf, ca, fr)).2.1 (uS ds (dn - 1) (nf, ca, fr)).2.2 ds x0 x1 kp cb db bb dg (cpF bf nw (33 * (dn - 1)) 0 33) (mUp kn 0 (dn - 1)) bf sr ik mo od := by
  obtain ⟨s1, s2, s3, s4, s5, s6, s7, s8, s9, s10⟩ := S
  obtain ⟨d, rfl⟩ : ∃ d, dn = d + 1 := ⟨dn - 1, by omega⟩
  rw [show d + 1 - 1 = d from rfl]
  refine ⟨s1, s2, s3, s4, sdR_cong hcu (fun j hj => ?_) s7.1, mUp_eq _ _ _, s7.2, IR_cong hcu s8 (mUp_ne _ _ (by decide)) (fun _ _ _ _ _ => rfl) (fun _ _ => rfl), IR_cong hcu s9 (mUp_ne _ _ (by decide)) (fun _ _ _ _ _ => rfl) (fun _ _ => rfl), s10⟩
  have := cpF_in (f := bf) (g := nw) (sp := 33 * d) (dp := 0) (n := 33) hj
  rw [Nat.zero_add] at this
  exact this
theorem SR_turn {j k : Nat} (hcu : cu ≤ 4) (hd : dn ≤ 10) (hj : j < cu) (S : SR cu dc bo td dn wk nf ca fr ds x0 x1 kp cb db bb dg nw kn bf sr ik mo od) {wk' : Nat} : SR cu dc bo td (dn0 dn + 1) wk' nf ca (mUp fr j k) (ds1 dn ds 0 j (fr j) wk) x0 x1 kp cb db bb dg (mUp (mUp nw (28 + j) k) 32 wk') (mUp kn 0 (dn0 dn + 1)) (bfK dn bf nw) sr ik mo od := by
  obtain ⟨s5, s5b⟩ := S.2.2.2.2.1
  refine SR_push hcu hd S ⟨⟨fun i hi => ?_, fun p hp => ?_, fun c hc => ?_, mUp_eq _ _ _⟩, fun p hp => ?_⟩ ?_
  · rw [mUp_ne _ _ (by omega), mUp_ne _ _ (by omega)]; exact s5.1 i hi
  · rw [mUp_ne _ _ (by omega), mUp_ne _ _ (by omega)]; exact s5.2.1 p hp
  · rw [mUp_ne _ _ (by omega)]
    by_cases q : c = j
    · rw [q, mUp_eq, mUp_eq]
    · rw [mUp_ne _ _ (by omega), mUp_ne _ _ q]; exact s5.2.2.1 c hc
  · rw [mUp_ne _ _ (by omega), mUp_ne _ _ (by omega)]; exact s5b p hp
  · obtain ⟨n0, n1, n2, n3⟩ := ds1_new (dn := dn) (ds := ds) (k := 0) (x := j) (y := fr j) (wk := wk)
    unfold uS
    rw [n0, if_pos rfl, n1, n2]
    show (nf, ca, mUp (mUp fr j k) j (fr j)) = (nf, ca, fr)
    rw [mUp_bk2]
theorem SR_changes {j k : Nat} (hcu : cu ≤ 4) (hd : dn ≤ 10) (hj : j < cu) (hk : k < cu) (S : SR cu dc bo td dn wk nf ca fr ds x0 x1 kp cb db bb dg nw kn bf sr ik mo od) {wk' : Nat} : SR cu dc bo td (dn0 dn + 1) wk' nf (swp ca j k) fr (ds1 dn ds 1 j k wk) x0 x1 kp cb db bb dg (mUp (mUp (mUp nw (24 + j) (ca k)) (24 + k) (ca j)) 32 wk') (mUp kn 0 (dn0 dn + 1)) (bfK dn bf nw) sr ik mo od := by
  obtain ⟨s5, s5b⟩ := S.2.2.2.2.1
  refine SR_push hcu hd S ⟨⟨fun i hi => ?_, fun p hp => ?_, fun c hc => ?_, mUp_eq _ _ _⟩, fun p hp => ?_⟩ ?_
  · rw [mUp_ne _ _ (by omega), mUp_ne _ _ (by omega), mUp_ne _ _ (by omega)]; exact s5.1 i hi
  · rw [mUp_ne _ _ (by omega), swp_at]
    by_cases q : p = k
    · rw [q, mUp_eq, if_pos rfl]
    · rw [mUp_ne _ _ (by omega), if_neg q]
      by_cases r : p = j
      · rw [r, mUp_eq, if_pos rfl]
      · rw [mUp_ne _ _ (by omega), if_neg r]; exact s5.2.1 p hp
  · rw [mUp_ne _ _ (by omega), mUp_ne _ _ (by omega), mUp_ne _ _ (by omega)]; exact s5.2.2.1 c hc
  · rw [mUp_ne _ _ (by omega)]
    by_cases q : p = k
    · rw [q, mUp_eq, ← s5.2.1 j hj]; exact s5b j (by omega)
    · rw [mUp_ne _ _ (by omega)]
      by_cases r : p = j
      · rw [r, mUp_eq, ← s5.2.1 k hk]; exact s5b k (by omega)
      · rw [mUp_ne _ _ (by omega)]; exact s5b p hp
  · obtain ⟨n0, n1, n2, n3⟩ := ds1_new (dn := dn) (ds := ds) (k := 1) (x := j) (y := k) (wk := wk)
    unfold uS
    rw [n0, if_neg (by decide), if_pos rfl, n1, n2]
    show (nf, swp (swp ca j k) j k, fr) = (nf, ca, fr)
    rw [swp_back]
theorem SR_pastes {i f : Nat} (hcu : cu ≤ 4) (hd : dn ≤ 10) (hi : i < cu * 6) (S : SR cu dc bo td dn wk nf ca fr ds x0 x1 kp cb db bb dg nw kn bf sr ik mo od) : SR cu dc bo td (dn0 dn + 1) wk (mUp nf i f) ca fr (ds1 dn ds 2 i (nf i) wk) x0 x1 kp cb db bb dg (mUp nw i f) (mUp kn 0 (dn0 dn + 1)) (bfK dn bf nw) sr ik mo od := by
  obtain ⟨s5, s5b⟩ := S.2.2.2.2.1
  refine SR_push hcu hd S ⟨⟨fun j hj => ?_, fun p hp => ?_, fun c hc => ?_, ?_⟩, fun p hp => ?_⟩ ?_
  · by_cases q : j = i
    · rw [q, mUp_eq, mUp_eq]
    · rw [mUp_ne _ _ q, mUp_ne _ _ q]; exact s5.1 j hj
  · rw [mUp_ne _ _ (by omega)]; exact s5.2.1 p hp
  · rw [mUp_ne _ _ (by omega)]; exact s5.2.2.1 c hc
  · rw [mUp_ne _ _ (by omega)]; exact s5.2.2.2
  · rw [mUp_ne _ _ (by omega)]; exact s5b p hp
  · obtain ⟨n0, n1, n2, n3⟩ := ds1_new (dn := dn) (ds := ds) (k := 2) (x := i) (y := nf i) (wk := wk)
    unfold uS
    rw [n0, if_neg (by decide), if_neg (by decide), n1, n2]
    show (mUp (mUp nf i f) i (nf i), ca, fr) = (nf, ca, fr)
    rw [mUp_bk2]
theorem cp_in {f g : Nat → Nat} {sp dp m j i : Nat} (e : i = dp + j) (h : j < m) : cpF f g sp dp m i = f (sp + j) := by rw [e]; exact cpF_in h
theorem SR_keep0 (hcu : cu ≤ 4) (hd : dn ≤ 10) (hx1 : kp 1 = true → x1.1 ≤ 10) (S : SR cu dc bo td dn wk nf ca fr ds x0 x1 kp cb db bb dg nw kn bf sr ik mo od) : SR cu dc bo td dn wk nf ca fr ds (dn, wk, nf, ca, fr, ds) x1 (mUb kp 0 true) cb db bb dg nw (mUp kn 1 (kn 0)) (cpF bf bf 0 330 330) (cpF nw sr 0 0 33) (mUb ik 0 true) mo od := by
  obtain ⟨s1, s2, s3, s4, s5, s6, s7, s8, s9, s10⟩ := S
  refine ⟨s1, s2, s3, s4, s5, s6, HR_shift hcu _ _ (fun _ _ _ _ => rfl) (fun i hi r hr => cpF_out (by omega)) s7, ⟨rfl, fun _ => ⟨s6, ?_, ?_⟩⟩, ?_, s10⟩
  · exact sdR_cong hcu (fun j hj => (cp_in (j := j) (by omega) hj).trans (by rw [Nat.zero_add])) s5
  · exact HR_shift hcu _ _ (fun _ _ _ _ => rfl) (fun i hi r hr => (cp_in (j := 33 * i + r) (by omega) (by omega)).trans (by rw [Nat.zero_add]; rfl)) s7
  · have h9 : IR cu 1 kp ik x1 (mUp kn 1 (kn 0)) (cpF bf bf 0 330 330) (cpF nw sr 0 0 33) := IR_cong hcu s9 (mUp_ne _ _ (by decide)) (fun q j hj r hr => cpF_out (by omega)) (fun j hj => cpF_out (by omega))
    exact h9
theorem SR_keep1 (hcu : cu ≤ 4) (hd : dn ≤ 10) (hx0 : kp 0 = true → x0.1 ≤ 10) (S : SR cu dc bo td dn wk nf ca fr ds x0 x1 kp cb db bb dg nw kn bf sr ik mo od) : SR cu dc bo td dn wk nf ca fr ds x0 (dn, wk, nf, ca, fr, ds) (mUb kp 1 true) cb db bb dg nw (mUp kn 2 (kn 0)) (cpF bf bf 0 660 330) (cpF nw sr 0 33 33) (mUb ik 1 true) mo od := by
  obtain ⟨s1, s2, s3, s4, s5, s6, s7, s8, s9, s10⟩ := S
  refine ⟨s1, s2, s3, s4, s5, s6, HR_shift hcu _ _ (fun _ _ _ _ => rfl) (fun i hi r hr => cpF_out (by omega)) s7, ?_, ⟨rfl, fun _ => ⟨s6, ?_, ?_⟩⟩, s10⟩
  · have h8 : IR cu 0 kp ik x0 (mUp kn 2 (kn 0)) (cpF bf bf 0 660 330) (cpF nw sr 0 33 33) := IR_cong hcu s8 (mUp_ne _ _ (by decide)) (fun q j hj r hr => cpF_out (by have := hx0 q; omega)) (fun j hj => cpF_out (by omega))
    exact h8
  · exact sdR_cong hcu (fun j hj => (cp_in (j := j) (by omega) hj).trans (by rw [Nat.zero_add])) s5
  · exact HR_shift hcu _ _ (fun _ _ _ _ => rfl) (fun i hi r hr => (cp_in (j := 33 * i + r) (by omega) (by omega)).trans (by rw [Nat.zero_add]; rfl)) s7
theorem SR_back0 (hcu : cu ≤ 4) (hk : kp 0 = true) (hx0 : x0.1 ≤ 10) (S : SR cu dc bo td dn wk nf ca fr ds x0 x1 kp cb db bb dg nw kn bf sr ik mo od) : SR cu dc bo td x0.1 x0.2.1 x0.2.2.1 x0.2.2.2.1 x0.2.2.2.2.1 x0.2.2.2.2.2 x0 x1 kp cb db bb dg (cpF sr nw 0 0 33) (mUp kn 0 (kn 1)) (cpF bf bf 330 0 330) sr ik mo od := by
  obtain ⟨s1, s2, s3, s4, s5, s6, s7, s8, s9, s10⟩ := S
  obtain ⟨q1, q2, q3⟩ := s8.2 hk
  refine ⟨s1, s2, s3, s4, sdR_cong hcu (fun j hj => ?_) q2, (mUp_eq _ _ _).trans q1, HR_shift hcu _ _ (fun _ _ _ _ => rfl) (fun i hi r hr => (cp_in (j := 33 * i + r) (by omega) (by omega)).trans (by congr 1; omega)) q3, IR_cong hcu s8 (mUp_ne _ _ (by decide)) (fun q j hj r hr => cpF_out (by omega)) (fun _ _ => rfl), IR_cong hcu s9 (mUp_ne _ _ (by decide)) (fun q j hj r hr => cpF_out (by omega)) (fun _ _ => rfl), s10⟩
  exact (cp_in (j := j) (by omega) hj).trans rfl
theorem SR_back1 (hcu : cu ≤ 4) (hk : kp 1 = true) (hx1 : x1.1 ≤ 10) (S : SR cu dc bo td dn wk nf ca fr ds x0 x1 kp cb db bb dg nw kn bf sr ik mo od) : SR cu dc bo td x1.1 x1.2.1 x1.2.2.1 x1.2.2.2.1 x1.2.2.2.2.1 x1.2.2.2.2.2 x0 x1 kp cb db bb dg (cpF sr nw 33 0 33) (mUp kn 0 (kn 2)) (cpF bf bf 660 0 330) sr ik mo od := by
  obtain ⟨s1, s2, s3, s4, s5, s6, s7, s8, s9, s10⟩ := S
  obtain ⟨q1, q2, q3⟩ := s9.2 hk
  refine ⟨s1, s2, s3, s4, sdR_cong hcu (fun j hj => ?_) q2, (mUp_eq _ _ _).trans q1, HR_shift hcu _ _ (fun _ _ _ _ => rfl) (fun i hi r hr => (cp_in (j := 33 * i + r) (by omega) (by omega)).trans (by congr 1; omega)) q3, IR_cong hcu s8 (mUp_ne _ _ (by decide)) (fun q j hj r hr => cpF_out (by omega)) (fun _ _ => rfl), IR_cong hcu s9 (mUp_ne _ _ (by decide)) (fun q j hj r hr => cpF_out (by omega)) (fun _ _ => rfl), s10⟩
  exact (cp_in (j := j) (by omega) hj).trans rfl
end Par
