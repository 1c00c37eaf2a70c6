/-! pairs of calls -/
theorem du_mkw {E : mE} {h : mH} {d1 d2 : Nat} {Y1 Y2 : mY} {av : List Value} {la fm : Nat} {n : Nat} {tx : Nat → Nat} {cu dc : Nat} {bo : Bool} {td : Nat → Nat} {dn wk : Nat} {nf ca fr ds : Nat → Nat} {x0 x1 : mSd} {kp : Nat → Bool} {sn : Nat} {sf st : Nat → Nat} {tr : Int64} {cb db bb dg nw kn bf sr : Nat → Nat} {ik : Nat → Bool} {mo : Nat} {od : Nat → Nat}
    (R0 : rI h n tx cb db bb dg nw kn bf sr ik mo od sn sf st tr)
    (C : mOk E d1 Y1 (.ref 0 :: av) h (cQw h nf fr ca bo cu la fm (CI · n tx cu dc bo td dn wk nf ca fr ds x0 x1 kp sn sf st tr)))
    (R : ∀ h', rI h' n tx cb db bb dg nw kn bf sr ik mo od sn sf st tr → mOk E d2 Y2 (.ref 40 :: av) h' (rQw h' nw bo cu mo la fm od (rI · n tx cb db bb dg nw kn bf sr ik mo od sn sf st tr)))
    (e : ∀ w pl y ls, lwA nf fr ca bo cu la fm w pl y = wkR nw bo cu mo la fm od ls)
    (S : SR cu dc bo td dn wk nf ca fr ds x0 x1 kp cb db bb dg nw kn bf sr ik mo od) (hd1 : d1 ≤ 50 := by decide) (hd2 : d2 ≤ 50 := by decide) : mDu E Y1 Y2 av h := by
  refine ⟨d1, d2, fun w h' => (∀ ls, w = wkR nw bo cu mo la fm od ls) ∧ CI h' n tx cu dc bo td dn wk nf ca fr ds x0 x1 kp sn sf st tr ∧ rI h' n tx cb db bb dg nw kn bf sr ik mo od sn sf st tr, hd1, hd2, mOk_imp C (fun r h' q => ?_), ?_⟩
  · obtain ⟨⟨w, pl, y, -, -, hr⟩, q2, q3⟩ := q
    exact ⟨_, hr, fun ls => e w pl y ls, q2, rI_cong R0 q3⟩
  · rintro w h' ⟨hw, hC, hR⟩
    refine ⟨?_, mOk_imp (R h' hR) (fun r h'' q => ?_)⟩
    · obtain ⟨t, wr, it, fg, ls, e40, -⟩ := hR
      exact ⟨_, e40⟩
    · obtain ⟨⟨ls, hr⟩, q2, q3⟩ := q
      exact ⟨by rw [hr, ← hw ls], n, tx, cu, dc, bo, td, dn, wk, nf, ca, fr, ds, x0, x1, kp, sn, sf, st, tr, cb, db, bb, dg, nw, kn, bf, sr, ik, mo, od, CI_cong hC q3, q2, S⟩
set_option maxRecDepth 100000 in
set_option maxHeartbeats 4000000 in
theorem du_type {E : mE} {h : mH} (I : INV h) (c : Int32) : mDu E zX7_type zX8_type [.int c] h := by
  obtain ⟨n, tx, cu, dc, bo, td, dn, wk, nf, ca, fr, ds, x0, x1, kp, sn, sf, st, tr, cb, db, bb, dg, nw, kn, bf, sr, ik, mo, od, H, R, S⟩ := I
  have F := rF_of H S
  obtain ⟨s1, s2, s3, s4, ⟨s5, s5b⟩, s6, s7, s8, s9, s10⟩ := id S
  subst s1
  subst s2
  subst s6
  have hB := bo_eq s3
  obtain ⟨e0, ⟨t, e1, e2, ht, hn, htx⟩, ⟨it, tf, e3, e4, e5, hcu, hdc, htd⟩, hDr, hNo, hI0, hI1, hMi, ⟨e16, e17, e18, hsn, hsf, hst⟩, hTe, hWk, hFa, ⟨hd, hw, hf, hc4, hcj, hcc, hfr, hds⟩, hK0, hK1⟩ := id H
  have hp := pow_cu hcu
  cases q_c : isIx c 256 with
  | false =>
    exact du_mk R (pc_type_bad H q_c) (fun h1 R1 => rp_type_bad R1 F q_c) (S)
  | true =>
    obtain ⟨j, hj, rfl⟩ := (isIx_iff (by decide)).mp q_c
    by_cases f : n < 100
    · exact du_mk R (pc_type_ok H hj f) (fun h1 R1 => rp_type_ok R1 F hj f) (S)
    · exact du_mk R (pc_type_full H hj (by omega)) (fun h1 R1 => rp_type_full R1 F hj (by omega)) (S)
set_option maxRecDepth 100000 in
set_option maxHeartbeats 4000000 in
theorem du_clear {E : mE} {h : mH} (I : INV h) : mDu E zX7_clear zX8_clear [] h := by
  obtain ⟨n, tx, cu, dc, bo, td, dn, wk, nf, ca, fr, ds, x0, x1, kp, sn, sf, st, tr, cb, db, bb, dg, nw, kn, bf, sr, ik, mo, od, H, R, S⟩ := I
  have F := rF_of H S
  obtain ⟨s1, s2, s3, s4, ⟨s5, s5b⟩, s6, s7, s8, s9, s10⟩ := id S
  subst s1
  subst s2
  subst s6
  have hB := bo_eq s3
  obtain ⟨e0, ⟨t, e1, e2, ht, hn, htx⟩, ⟨it, tf, e3, e4, e5, hcu, hdc, htd⟩, hDr, hNo, hI0, hI1, hMi, ⟨e16, e17, e18, hsn, hsf, hst⟩, hTe, hWk, hFa, ⟨hd, hw, hf, hc4, hcj, hcc, hfr, hds⟩, hK0, hK1⟩ := id H
  have hp := pow_cu hcu
  exact du_mk R (pc_clear H) (fun h1 R1 => rp_clear R1 F) (S)
set_option maxRecDepth 100000 in
set_option maxHeartbeats 4000000 in
theorem du_side {E : mE} {h : mH} (I : INV h) (c : Int32) (s : Int32) : mDu E zX7_side zX8_side [.int c, .int s] h := by
  obtain ⟨n, tx, cu, dc, bo, td, dn, wk, nf, ca, fr, ds, x0, x1, kp, sn, sf, st, tr, cb, db, bb, dg, nw, kn, bf, sr, ik, mo, od, H, R, S⟩ := I
  have F := rF_of H S
  obtain ⟨s1, s2, s3, s4, ⟨s5, s5b⟩, s6, s7, s8, s9, s10⟩ := id S
  subst s1
  subst s2
  subst s6
  have hB := bo_eq s3
  obtain ⟨e0, ⟨t, e1, e2, ht, hn, htx⟩, ⟨it, tf, e3, e4, e5, hcu, hdc, htd⟩, hDr, hNo, hI0, hI1, hMi, ⟨e16, e17, e18, hsn, hsf, hst⟩, hTe, hWk, hFa, ⟨hd, hw, hf, hc4, hcj, hcc, hfr, hds⟩, hK0, hK1⟩ := id H
  have hp := pow_cu hcu
  cases q_c : isIx c (cb 0) with
  | false =>
    exact du_mk R (pc_side_bad H (by rw [q_c]; rfl)) (fun h1 R1 => rp_side_bad R1 F (by rw [q_c]; rfl)) (S)
  | true =>
    obtain ⟨j, hj, rfl⟩ := (isIx_iff (by omega)).mp q_c
    cases q_s : isIx s 6 with
    | false =>
      exact du_mk R (pc_side_bad H (by rw [q_s, Bool.and_false])) (fun h1 R1 => rp_side_bad R1 F (by rw [q_s, Bool.and_false])) (S)
    | true =>
      obtain ⟨k, hk, rfl⟩ := (isIx_iff (by decide)).mp q_s
      exact du_mk R (pc_side_ok H hj hk) (fun h1 R1 => by
        have q1 := rp_side_ok (E := E) R1 F hj hk
        rw [s5.1 (j * 6 + k) (by omega)] at q1
        exact q1) (S)
set_option maxRecDepth 100000 in
set_option maxHeartbeats 4000000 in
theorem du_cube {E : mE} {h : mH} (I : INV h) (c : Int32) (w : Int32) : mDu E zX7_cube zX8_cube [.int c, .int w] h := by
  obtain ⟨n, tx, cu, dc, bo, td, dn, wk, nf, ca, fr, ds, x0, x1, kp, sn, sf, st, tr, cb, db, bb, dg, nw, kn, bf, sr, ik, mo, od, H, R, S⟩ := I
  have F := rF_of H S
  obtain ⟨s1, s2, s3, s4, ⟨s5, s5b⟩, s6, s7, s8, s9, s10⟩ := id S
  subst s1
  subst s2
  subst s6
  have hB := bo_eq s3
  obtain ⟨e0, ⟨t, e1, e2, ht, hn, htx⟩, ⟨it, tf, e3, e4, e5, hcu, hdc, htd⟩, hDr, hNo, hI0, hI1, hMi, ⟨e16, e17, e18, hsn, hsf, hst⟩, hTe, hWk, hFa, ⟨hd, hw, hf, hc4, hcj, hcc, hfr, hds⟩, hK0, hK1⟩ := id H
  have hp := pow_cu hcu
  cases q_c : isIx c (cb 0) with
  | false =>
    exact du_mk R (pc_cube_bad H q_c) (fun h1 R1 => rp_cube_bad R1 F q_c) (S)
  | true =>
    obtain ⟨j, hj, rfl⟩ := (isIx_iff (by omega)).mp q_c
    cases q_w : isIx w 4 with
    | false =>
      exact du_mk R (pc_cube_no H hj q_w) (fun h1 R1 => rp_cube_no R1 F hj q_w) (S)
    | true =>
      obtain ⟨k, hk, rfl⟩ := (isIx_iff (by decide)).mp q_w
      rcases (show k = 0 ∨ k = 1 ∨ k = 2 ∨ k = 3 by omega) with rfl | rfl | rfl | rfl
      · obtain ⟨p, hp1, hp2⟩ := ca_sur hcu hcc hcj j hj
        have eP : plF (fun p => nw (24 + p)) j (cb 0) = p := plF_eq (cb 0) hp1 ((s5.2.1 p hp1).trans hp2) (fun i hi e => hcj i p hi hp1 ((s5.2.1 i hi).symm.trans (e.trans hp2.symm)))
        exact du_mk R (pc_cube_0 H hj hp1 hp2) (fun h1 R1 => by
          have q1 := rp_cube_0 (E := E) R1 F hj
          rw [eP] at q1
          exact q1) (S)
      · exact du_mk R (pc_cube_1 H hj) (fun h1 R1 => by
          have q1 := rp_cube_1 (E := E) R1 F hj
          rw [s5.2.2.1 j (by omega)] at q1
          exact q1) (S)
      · exact du_mk R (pc_cube_2 H hj) (fun h1 R1 => by
          have q1 := rp_cube_2 (E := E) R1 F hj
          rw [fgs_cong 6 (fun i hi => s5.1 (j * 6 + i) (by omega))] at q1
          exact q1) (S)
      · exact du_mk R (pc_cube_3 H hj) (fun h1 R1 => by
          have q1 := rp_cube_3 (E := E) R1 F hj
          rw [hB, sn_eq hcu s5.1 s10 hj s4 6 (Nat.le_refl _)] at q1
          exact q1) (S)
set_option maxRecDepth 100000 in
set_option maxHeartbeats 4000000 in
theorem du_place {E : mE} {h : mH} (I : INV h) (c : Int32) : mDu E zX7_place zX8_place [.int c] h := by
  obtain ⟨n, tx, cu, dc, bo, td, dn, wk, nf, ca, fr, ds, x0, x1, kp, sn, sf, st, tr, cb, db, bb, dg, nw, kn, bf, sr, ik, mo, od, H, R, S⟩ := I
  have F := rF_of H S
  obtain ⟨s1, s2, s3, s4, ⟨s5, s5b⟩, s6, s7, s8, s9, s10⟩ := id S
  subst s1
  subst s2
  subst s6
  have hB := bo_eq s3
  obtain ⟨e0, ⟨t, e1, e2, ht, hn, htx⟩, ⟨it, tf, e3, e4, e5, hcu, hdc, htd⟩, hDr, hNo, hI0, hI1, hMi, ⟨e16, e17, e18, hsn, hsf, hst⟩, hTe, hWk, hFa, ⟨hd, hw, hf, hc4, hcj, hcc, hfr, hds⟩, hK0, hK1⟩ := id H
  have hp := pow_cu hcu
  cases q_c : isIx c (cb 0) with
  | false =>
    exact du_mk R (pc_place_bad H q_c) (fun h1 R1 => rp_place_bad R1 F q_c) (S)
  | true =>
    obtain ⟨j, hj, rfl⟩ := (isIx_iff (by omega)).mp q_c
    exact du_mk R (pc_place_ok H hj) (fun h1 R1 => by
      have q1 := rp_place_ok (E := E) R1 F hj
      rw [s5.2.1 j (by omega)] at q1
      exact q1) (S)
set_option maxRecDepth 100000 in
set_option maxHeartbeats 4000000 in
theorem du_day {E : mE} {h : mH} (I : INV h) (c : Int32) : mDu E zX7_day zX8_day [.int c] h := by
  obtain ⟨n, tx, cu, dc, bo, td, dn, wk, nf, ca, fr, ds, x0, x1, kp, sn, sf, st, tr, cb, db, bb, dg, nw, kn, bf, sr, ik, mo, od, H, R, S⟩ := I
  have F := rF_of H S
  obtain ⟨s1, s2, s3, s4, ⟨s5, s5b⟩, s6, s7, s8, s9, s10⟩ := id S
  subst s1
  subst s2
  subst s6
  have hB := bo_eq s3
  obtain ⟨e0, ⟨t, e1, e2, ht, hn, htx⟩, ⟨it, tf, e3, e4, e5, hcu, hdc, htd⟩, hDr, hNo, hI0, hI1, hMi, ⟨e16, e17, e18, hsn, hsf, hst⟩, hTe, hWk, hFa, ⟨hd, hw, hf, hc4, hcj, hcc, hfr, hds⟩, hK0, hK1⟩ := id H
  have hp := pow_cu hcu
  cases q_c : isIx c (db 0) with
  | false =>
    exact du_mk R (pc_day_bad H q_c) (fun h1 R1 => rp_day_bad R1 F q_c) (S)
  | true =>
    obtain ⟨j, hj, rfl⟩ := (isIx_iff (by omega)).mp q_c
    exact du_mk R (pc_day_ok H hj) (fun h1 R1 => by
      have q1 := rp_day_ok (E := E) R1 F hj
      rw [s4 j hj] at q1
      exact q1) (S)
set_option maxRecDepth 100000 in
set_option maxHeartbeats 4000000 in
theorem du_turn {E : mE} {h : mH} (I : INV h) (c : Int32) (s : Int32) : mDu E zX7_turn zX8_turn [.int c, .int s] h := by
  obtain ⟨n, tx, cu, dc, bo, td, dn, wk, nf, ca, fr, ds, x0, x1, kp, sn, sf, st, tr, cb, db, bb, dg, nw, kn, bf, sr, ik, mo, od, H, R, S⟩ := I
  have F := rF_of H S
  obtain ⟨s1, s2, s3, s4, ⟨s5, s5b⟩, s6, s7, s8, s9, s10⟩ := id S
  subst s1
  subst s2
  subst s6
  have hB := bo_eq s3
  obtain ⟨e0, ⟨t, e1, e2, ht, hn, htx⟩, ⟨it, tf, e3, e4, e5, hcu, hdc, htd⟩, hDr, hNo, hI0, hI1, hMi, ⟨e16, e17, e18, hsn, hsf, hst⟩, hTe, hWk, hFa, ⟨hd, hw, hf, hc4, hcj, hcc, hfr, hds⟩, hK0, hK1⟩ := id H
  have hp := pow_cu hcu
  cases q_c : isIx c (cb 0) with
  | false =>
    exact du_mk R (pc_turn_bad H (by rw [q_c]; rfl)) (fun h1 R1 => rp_turn_bad R1 F (by rw [q_c]; rfl)) (S)
  | true =>
    obtain ⟨j, hj, rfl⟩ := (isIx_iff (by omega)).mp q_c
    cases q_s : isIx s 6 with
    | false =>
      exact du_mk R (pc_turn_bad H (by rw [q_s, Bool.and_false])) (fun h1 R1 => rp_turn_bad R1 F (by rw [q_s, Bool.and_false])) (S)
    | true =>
      obtain ⟨k, hk, rfl⟩ := (isIx_iff (by decide)).mp q_s
      by_cases z : fr j = k
      · exact du_mk R (pc_turn_same H hj hk z) (fun h1 R1 => rp_turn_same R1 F hj hk ((s5.2.2.1 j (by omega)).trans z)) (S)
      · exact du_mk R (pc_turn_ok H hj hk z) (fun h1 R1 => by
          have q1 := rp_turn_ok (E := E) R1 F hj hk (by rw [s5.2.2.1 j (by omega)]; exact z)
          rw [s5.2.2.1 j (by omega), s5.2.2.2] at q1
          exact q1) (SR_turn hcu hd hj S)
set_option maxRecDepth 100000 in
set_option maxHeartbeats 4000000 in
theorem du_changes {E : mE} {h : mH} (I : INV h) (c : Int32) (s : Int32) : mDu E zX7_changes zX8_changes [.int c, .int s] h := by
  obtain ⟨n, tx, cu, dc, bo, td, dn, wk, nf, ca, fr, ds, x0, x1, kp, sn, sf, st, tr, cb, db, bb, dg, nw, kn, bf, sr, ik, mo, od, H, R, S⟩ := I
  have F := rF_of H S
  obtain ⟨s1, s2, s3, s4, ⟨s5, s5b⟩, s6, s7, s8, s9, s10⟩ := id S
  subst s1
  subst s2
  subst s6
  have hB := bo_eq s3
  obtain ⟨e0, ⟨t, e1, e2, ht, hn, htx⟩, ⟨it, tf, e3, e4, e5, hcu, hdc, htd⟩, hDr, hNo, hI0, hI1, hMi, ⟨e16, e17, e18, hsn, hsf, hst⟩, hTe, hWk, hFa, ⟨hd, hw, hf, hc4, hcj, hcc, hfr, hds⟩, hK0, hK1⟩ := id H
  have hp := pow_cu hcu
  cases q_c : isIx c (cb 0) with
  | false =>
    exact du_mk R (pc_changes_bad H (Or.inl q_c)) (fun h1 R1 => rp_changes_bad R1 F (Or.inl q_c)) (S)
  | true =>
    obtain ⟨j, hj, rfl⟩ := (isIx_iff (by omega)).mp q_c
    cases q_s : isIx s (cb 0) with
    | false =>
      exact du_mk R (pc_changes_bad H (Or.inr (Or.inl q_s))) (fun h1 R1 => rp_changes_bad R1 F (Or.inr (Or.inl q_s))) (S)
    | true =>
      obtain ⟨k, hk, rfl⟩ := (isIx_iff (by omega)).mp q_s
      by_cases z : j = k
      · exact du_mk R (pc_changes_bad H (Or.inr (Or.inr (by rw [z])))) (fun h1 R1 => rp_changes_bad R1 F (Or.inr (Or.inr (by rw [z])))) (S)
      · exact du_mk R (pc_changes_ok H hj hk z) (fun h1 R1 => by
          have q1 := rp_changes_ok (E := E) R1 F hj hk z
          rw [s5.2.1 j (by omega), s5.2.1 k (by omega), s5.2.2.2] at q1
          exact q1) (SR_changes hcu hd hj hk S)
set_option maxRecDepth 100000 in
set_option maxHeartbeats 4000000 in
theorem du_pastes {E : mE} {h : mH} (I : INV h) (c : Int32) (s : Int32) (v : Int32) : mDu E zX7_pastes zX8_pastes [.int c, .int s, .int v] h := by
  obtain ⟨n, tx, cu, dc, bo, td, dn, wk, nf, ca, fr, ds, x0, x1, kp, sn, sf, st, tr, cb, db, bb, dg, nw, kn, bf, sr, ik, mo, od, H, R, S⟩ := I
  have F := rF_of H S
  obtain ⟨s1, s2, s3, s4, ⟨s5, s5b⟩, s6, s7, s8, s9, s10⟩ := id S
  subst s1
  subst s2
  subst s6
  have hB := bo_eq s3
  obtain ⟨e0, ⟨t, e1, e2, ht, hn, htx⟩, ⟨it, tf, e3, e4, e5, hcu, hdc, htd⟩, hDr, hNo, hI0, hI1, hMi, ⟨e16, e17, e18, hsn, hsf, hst⟩, hTe, hWk, hFa, ⟨hd, hw, hf, hc4, hcj, hcc, hfr, hds⟩, hK0, hK1⟩ := id H
  have hp := pow_cu hcu
  cases q_c : isIx c (cb 0) with
  | false =>
    exact du_mk R (pc_pastes_bad H (by rw [q_c]; rfl)) (fun h1 R1 => rp_pastes_bad R1 F (by rw [q_c]; rfl)) (S)
  | true =>
    obtain ⟨j, hj, rfl⟩ := (isIx_iff (by omega)).mp q_c
    cases q_s : isIx s 6 with
    | false =>
      exact du_mk R (pc_pastes_bad H (by rw [q_s, Bool.false_and, Bool.and_false])) (fun h1 R1 => rp_pastes_bad R1 F (by rw [q_s, Bool.false_and, Bool.and_false])) (S)
    | true =>
      obtain ⟨k, hk, rfl⟩ := (isIx_iff (by decide)).mp q_s
      cases q_v : isIx v 10 with
      | false =>
        exact du_mk R (pc_pastes_bad H (by rw [q_v, Bool.and_false, Bool.and_false])) (fun h1 R1 => rp_pastes_bad R1 F (by rw [q_v, Bool.and_false, Bool.and_false])) (S)
      | true =>
        obtain ⟨f, hf1, rfl⟩ := (isIx_iff (by decide)).mp q_v
        have eI : 6 * j + k = j * 6 + k := by omega
        have eN : nw (j * 6 + k) = nf (j * 6 + k) := s5.1 (j * 6 + k) (by omega)
        by_cases z : nf (j * 6 + k) = f
        · exact du_mk R (pc_pastes_same H hj hk hf1 z) (fun h1 R1 => rp_pastes_same R1 F hj hk hf1 (by rw [eI, eN]; exact z)) (S)
        · exact du_mk R (pc_pastes_ok H hj hk hf1 z) (fun h1 R1 => by
            have q1 := rp_pastes_ok (E := E) R1 F hj hk hf1 (by rw [eI, eN]; exact z)
            rw [eI, eN] at q1
            exact q1) (SR_pastes hcu hd (by omega) S)
set_option maxRecDepth 100000 in
set_option maxHeartbeats 4000000 in
theorem du_undo {E : mE} {h : mH} (I : INV h) : mDu E zX7_undo zX8_undo [] h := by
  obtain ⟨n, tx, cu, dc, bo, td, dn, wk, nf, ca, fr, ds, x0, x1, kp, sn, sf, st, tr, cb, db, bb, dg, nw, kn, bf, sr, ik, mo, od, H, R, S⟩ := I
  have F := rF_of H S
  obtain ⟨s1, s2, s3, s4, ⟨s5, s5b⟩, s6, s7, s8, s9, s10⟩ := id S
  subst s1
  subst s2
  subst s6
  have hB := bo_eq s3
  obtain ⟨e0, ⟨t, e1, e2, ht, hn, htx⟩, ⟨it, tf, e3, e4, e5, hcu, hdc, htd⟩, hDr, hNo, hI0, hI1, hMi, ⟨e16, e17, e18, hsn, hsf, hst⟩, hTe, hWk, hFa, ⟨hd, hw, hf, hc4, hcj, hcc, hfr, hds⟩, hK0, hK1⟩ := id H
  have hp := pow_cu hcu
  by_cases z : kn 0 = 0
  · exact du_mk R (pc_undo_none H z) (fun h1 R1 => rp_undo_none R1 F z) (S)
  · have hU := SR_undo hcu z S
    rcases (hds (kn 0 - 1) (by omega)).1 with y | y | y
    · have eU : uS ds (kn 0 - 1) (nf, ca, fr) = (nf, ca, mUp fr (ds ((kn 0 - 1) * 4 + 1)) (ds ((kn 0 - 1) * 4 + 2))) := if_pos y.1
      rw [eU] at hU
      exact du_mk R (pc_undo_0 H z y.1) (fun h1 R1 => rp_undo_ok R1 F z) (hU)
    · have eU : uS ds (kn 0 - 1) (nf, ca, fr) = (nf, swp ca (ds ((kn 0 - 1) * 4 + 1)) (ds ((kn 0 - 1) * 4 + 2)), fr) := (if_neg (by rw [y.1]; decide)).trans (if_pos y.1)
      rw [eU] at hU
      exact du_mk R (pc_undo_1 H z y.1) (fun h1 R1 => rp_undo_ok R1 F z) (hU)
    · have eU : uS ds (kn 0 - 1) (nf, ca, fr) = (mUp nf (ds ((kn 0 - 1) * 4 + 1)) (ds ((kn 0 - 1) * 4 + 2)), ca, fr) := (if_neg (by rw [y.1]; decide)).trans (if_neg (by rw [y.1]; decide))
      rw [eU] at hU
      exact du_mk R (pc_undo_2 H z y.1) (fun h1 R1 => rp_undo_ok R1 F z) (hU)
set_option maxRecDepth 100000 in
set_option maxHeartbeats 4000000 in
theorem du_now {E : mE} {h : mH} (I : INV h) (w : Int32) : mDu E zX7_now zX8_now [.int w] h := by
  obtain ⟨n, tx, cu, dc, bo, td, dn, wk, nf, ca, fr, ds, x0, x1, kp, sn, sf, st, tr, cb, db, bb, dg, nw, kn, bf, sr, ik, mo, od, H, R, S⟩ := I
  have F := rF_of H S
  obtain ⟨s1, s2, s3, s4, ⟨s5, s5b⟩, s6, s7, s8, s9, s10⟩ := id S
  subst s1
  subst s2
  subst s6
  have hB := bo_eq s3
  obtain ⟨e0, ⟨t, e1, e2, ht, hn, htx⟩, ⟨it, tf, e3, e4, e5, hcu, hdc, htd⟩, hDr, hNo, hI0, hI1, hMi, ⟨e16, e17, e18, hsn, hsf, hst⟩, hTe, hWk, hFa, ⟨hd, hw, hf, hc4, hcj, hcc, hfr, hds⟩, hK0, hK1⟩ := id H
  have hp := pow_cu hcu
  cases q_w : isIx w 5 with
  | false =>
    exact du_mk R (pc_now_no H q_w) (fun h1 R1 => rp_now_no R1 F q_w) (S)
  | true =>
    obtain ⟨k, hk, rfl⟩ := (isIx_iff (by decide)).mp q_w
    have eC : ∀ v, canR nw bo (cb 0) mo od v 0 6 = canT (cwT nf bo (-1) (cb 0)) (cb 0) v := fun v => can_eq hcu s5.1 s10 (bl_no hcu)
    rcases (show k = 0 ∨ k = 1 ∨ k = 2 ∨ k = 3 ∨ k = 4 by omega) with rfl | rfl | rfl | rfl | rfl
    · exact du_mk R (pc_now_0 H) (fun h1 R1 => by
        have q1 := rp_now_0 (E := E) R1 F
        rw [s5.2.2.2] at q1
        exact q1) (S)
    · exact du_mk R (pc_now_1 H) (fun h1 R1 => by
        have q1 := rp_now_1 (E := E) R1 F
        rw [nif_eq s5 hcu hcc hfr (cb 0) (Nat.le_refl _)] at q1
        exact q1) (S)
    · exact du_mk R (pc_now_2 H) (fun h1 R1 => by
        have q1 := rp_now_2 (E := E) R1 F
        rw [hB] at q1
        simp only [eC] at q1
        rw [mn_eq hcu] at q1
        exact q1) (S)
    · exact du_mk R (pc_now_3 H) (fun h1 R1 => by
        have q1 := rp_now_3 (E := E) R1 F
        rw [hB, lu_eq (10 ^ cb 0) 0 (fun j _ _ => eC j)] at q1
        exact q1) (S)
    · exact du_mk R (pc_now_4 H) (fun h1 R1 => by
        have q1 := rp_now_4 (E := E) R1 F
        rw [hB, dd_eq (db 0) (fun j hj => by rw [eC, s4 j hj])] at q1
        exact q1) (S)
set_option maxRecDepth 100000 in
set_option maxHeartbeats 4000000 in
theorem du_number {E : mE} {h : mH} (I : INV h) (c : Int32) (w : Int32) : mDu E zX7_number zX8_number [.int c, .int w] h := by
  obtain ⟨n, tx, cu, dc, bo, td, dn, wk, nf, ca, fr, ds, x0, x1, kp, sn, sf, st, tr, cb, db, bb, dg, nw, kn, bf, sr, ik, mo, od, H, R, S⟩ := I
  have F := rF_of H S
  obtain ⟨s1, s2, s3, s4, ⟨s5, s5b⟩, s6, s7, s8, s9, s10⟩ := id S
  subst s1
  subst s2
  subst s6
  have hB := bo_eq s3
  obtain ⟨e0, ⟨t, e1, e2, ht, hn, htx⟩, ⟨it, tf, e3, e4, e5, hcu, hdc, htd⟩, hDr, hNo, hI0, hI1, hMi, ⟨e16, e17, e18, hsn, hsf, hst⟩, hTe, hWk, hFa, ⟨hd, hw, hf, hc4, hcj, hcc, hfr, hds⟩, hK0, hK1⟩ := id H
  have hp := pow_cu hcu
  cases q_c : isIx c (10 ^ cb 0) with
  | false =>
    exact du_mk R (pc_number_bad H q_c) (fun h1 R1 => rp_number_bad R1 F q_c) (S)
  | true =>
    obtain ⟨j, hj, rfl⟩ := (isIx_iff (by omega)).mp q_c
    cases q_w : isIx w 4 with
    | false =>
      exact du_mk R (pc_number_no H hj q_w) (fun h1 R1 => rp_number_no R1 F hj q_w) (S)
    | true =>
      obtain ⟨k, hk, rfl⟩ := (isIx_iff (by decide)).mp q_w
      have eC : ∀ v, canR nw bo (cb 0) mo od v 0 6 = canT (cwT nf bo (-1) (cb 0)) (cb 0) v := fun v => can_eq hcu s5.1 s10 (bl_no hcu)
      rcases (show k = 0 ∨ k = 1 ∨ k = 2 ∨ k = 3 by omega) with rfl | rfl | rfl | rfl
      · exact du_mk R (pc_number_0 H hj) (fun h1 R1 => by
          have q1 := rp_number_0 (E := E) R1 F hj
          rw [hB, itF_eq s5 hcu hcc hfr] at q1
          exact q1) (S)
      · exact du_mk R (pc_number_1 H hj) (fun h1 R1 => by
          have q1 := rp_number_1 (E := E) R1 F hj
          rw [hB, eC] at q1
          exact q1) (S)
      · exact du_mkw R (pc_number_2 H hj) (fun h1 R1 => by
          have q1 := rp_number_2 (E := E) R1 F hj
          rw [hB] at q1
          exact q1) (fun w pl y ls => lw_eq hcu (by decide) (by decide) s5 hfr hcc hcj s10) S
      · exact du_mk R (pc_number_3 H hj) (fun h1 R1 => by
          have q1 := rp_number_3 (E := E) R1 F hj
          rw [hB] at q1
          rw [pt_eq hcu s5.1 s10]
          exact q1) (S)
set_option maxRecDepth 100000 in
set_option maxHeartbeats 4000000 in
theorem du_through {E : mE} {h : mH} (I : INV h) (c : Int32) (w : Int32) : mDu E zX7_through zX8_through [.int c, .int w] h := by
  obtain ⟨n, tx, cu, dc, bo, td, dn, wk, nf, ca, fr, ds, x0, x1, kp, sn, sf, st, tr, cb, db, bb, dg, nw, kn, bf, sr, ik, mo, od, H, R, S⟩ := I
  have F := rF_of H S
  obtain ⟨s1, s2, s3, s4, ⟨s5, s5b⟩, s6, s7, s8, s9, s10⟩ := id S
  subst s1
  subst s2
  subst s6
  have hB := bo_eq s3
  obtain ⟨e0, ⟨t, e1, e2, ht, hn, htx⟩, ⟨it, tf, e3, e4, e5, hcu, hdc, htd⟩, hDr, hNo, hI0, hI1, hMi, ⟨e16, e17, e18, hsn, hsf, hst⟩, hTe, hWk, hFa, ⟨hd, hw, hf, hc4, hcj, hcc, hfr, hds⟩, hK0, hK1⟩ := id H
  have hp := pow_cu hcu
  cases q_c : isIx c (10 ^ cb 0) with
  | false =>
    exact du_mk R (pc_through_bad H (Or.inl q_c)) (fun h1 R1 => rp_through_bad R1 F (Or.inl q_c)) (S)
  | true =>
    obtain ⟨j, hj, rfl⟩ := (isIx_iff (by omega)).mp q_c
    rcases rng0 (m := w) (b := 3) (by decide) with ⟨k, hk, rfl⟩ | z | z
    · by_cases k0 : k = 0
      · exact du_mk R (pc_through_bad H (Or.inr (Or.inl (by rw [k0]; decide)))) (fun h1 R1 => rp_through_bad R1 F (Or.inr (Or.inl (by rw [k0]; decide)))) (S)
      · by_cases z : j + k - 1 < 10 ^ cb 0
        · exact du_mkw R (pc_through_ok H hj (by omega) hk z) (fun h1 R1 => by
            have q1 := rp_through_ok (E := E) R1 F hj (by omega) hk z
            rw [hB] at q1
            exact q1) (fun w pl y ls => lw_eq hcu (by omega) hk s5 hfr hcc hcj s10) S
        · exact du_mk R (pc_through_none H hj (by omega) hk z) (fun h1 R1 => rp_through_none R1 F hj (by omega) hk z) (S)
    · exact du_mk R (pc_through_bad H (Or.inr (Or.inl (lt0_lt1 z)))) (fun h1 R1 => rp_through_bad R1 F (Or.inr (Or.inl (lt0_lt1 z)))) (S)
    · exact du_mk R (pc_through_bad H (Or.inr (Or.inr z))) (fun h1 R1 => rp_through_bad R1 F (Or.inr (Or.inr z))) (S)
set_option maxRecDepth 100000 in
set_option maxHeartbeats 4000000 in
theorem du_odds {E : mE} {h : mH} (I : INV h) (c : Int32) (w : Int32) : mDu E zX7_odds zX8_odds [.int c, .int w] h := by
  obtain ⟨n, tx, cu, dc, bo, td, dn, wk, nf, ca, fr, ds, x0, x1, kp, sn, sf, st, tr, cb, db, bb, dg, nw, kn, bf, sr, ik, mo, od, H, R, S⟩ := I
  have F := rF_of H S
  obtain ⟨s1, s2, s3, s4, ⟨s5, s5b⟩, s6, s7, s8, s9, s10⟩ := id S
  subst s1
  subst s2
  subst s6
  have hB := bo_eq s3
  obtain ⟨e0, ⟨t, e1, e2, ht, hn, htx⟩, ⟨it, tf, e3, e4, e5, hcu, hdc, htd⟩, hDr, hNo, hI0, hI1, hMi, ⟨e16, e17, e18, hsn, hsf, hst⟩, hTe, hWk, hFa, ⟨hd, hw, hf, hc4, hcj, hcc, hfr, hds⟩, hK0, hK1⟩ := id H
  have hp := pow_cu hcu
  cases q_c : isIx c (10 ^ cb 0) with
  | false =>
    exact du_mk R (pc_odds_bad H (Or.inl q_c)) (fun h1 R1 => rp_odds_bad R1 F (Or.inl q_c)) (S)
  | true =>
    obtain ⟨j, hj, rfl⟩ := (isIx_iff (by omega)).mp q_c
    rcases rng0 (m := w) (b := 1) (by decide) with ⟨k, hk, rfl⟩ | z | z
    · have eO := od_eq (n := j) (bo := bo) hcu s5.1 s10
      rcases (show k = 0 ∨ k = 1 by omega) with rfl | rfl
      · exact du_mk R (pc_odds_0 H hj) (fun h1 R1 => by
          have q1 := rp_odds_0 (E := E) R1 F hj
          rw [hB] at q1
          rw [← congrArg Prod.fst eO]
          exact q1) (S)
      · exact du_mk R (pc_odds_1 H hj) (fun h1 R1 => by
          have q1 := rp_odds_1 (E := E) R1 F hj
          rw [hB] at q1
          rw [← congrArg Prod.snd eO]
          exact q1) (S)
    · exact du_mk R (pc_odds_bad H (Or.inr (Or.inl z))) (fun h1 R1 => rp_odds_bad R1 F (Or.inr (Or.inl z))) (S)
    · exact du_mk R (pc_odds_bad H (Or.inr (Or.inr z))) (fun h1 R1 => rp_odds_bad R1 F (Or.inr (Or.inr z))) (S)
set_option maxRecDepth 100000 in
set_option maxHeartbeats 4000000 in
theorem du_sees {E : mE} {h : mH} (I : INV h) (c : Int32) (w : Int32) : mDu E zX7_sees zX8_sees [.int c, .int w] h := by
  obtain ⟨n, tx, cu, dc, bo, td, dn, wk, nf, ca, fr, ds, x0, x1, kp, sn, sf, st, tr, cb, db, bb, dg, nw, kn, bf, sr, ik, mo, od, H, R, S⟩ := I
  have F := rF_of H S
  obtain ⟨s1, s2, s3, s4, ⟨s5, s5b⟩, s6, s7, s8, s9, s10⟩ := id S
  subst s1
  subst s2
  subst s6
  have hB := bo_eq s3
  obtain ⟨e0, ⟨t, e1, e2, ht, hn, htx⟩, ⟨it, tf, e3, e4, e5, hcu, hdc, htd⟩, hDr, hNo, hI0, hI1, hMi, ⟨e16, e17, e18, hsn, hsf, hst⟩, hTe, hWk, hFa, ⟨hd, hw, hf, hc4, hcj, hcc, hfr, hds⟩, hK0, hK1⟩ := id H
  have hp := pow_cu hcu
  cases q_c : isIx c 10 with
  | false =>
    exact du_mk R (pc_sees_bad H (Or.inl q_c)) (fun h1 R1 => rp_sees_bad R1 F (Or.inl q_c)) (S)
  | true =>
    obtain ⟨j, hj, rfl⟩ := (isIx_iff (by decide)).mp q_c
    rcases rng0 (m := w) (b := 1) (by decide) with ⟨k, hk, rfl⟩ | z | z
    · by_cases f : sn < 6
      · exact du_mk R (pc_sees_ok H hj (by omega) f) (fun h1 R1 => rp_sees_ok R1 F hj (by omega) f) (S)
      · exact du_mk R (pc_sees_full H hj (by omega) (by omega)) (fun h1 R1 => rp_sees_full R1 F hj (by omega) (by omega)) (S)
    · exact du_mk R (pc_sees_bad H (Or.inr (Or.inl z))) (fun h1 R1 => rp_sees_bad R1 F (Or.inr (Or.inl z))) (S)
    · exact du_mk R (pc_sees_bad H (Or.inr (Or.inr z))) (fun h1 R1 => rp_sees_bad R1 F (Or.inr (Or.inr z))) (S)
set_option maxRecDepth 100000 in
set_option maxHeartbeats 4000000 in
theorem du_forget {E : mE} {h : mH} (I : INV h) : mDu E zX7_forget zX8_forget [] h := by
  obtain ⟨n, tx, cu, dc, bo, td, dn, wk, nf, ca, fr, ds, x0, x1, kp, sn, sf, st, tr, cb, db, bb, dg, nw, kn, bf, sr, ik, mo, od, H, R, S⟩ := I
  have F := rF_of H S
  obtain ⟨s1, s2, s3, s4, ⟨s5, s5b⟩, s6, s7, s8, s9, s10⟩ := id S
  subst s1
  subst s2
  subst s6
  have hB := bo_eq s3
  obtain ⟨e0, ⟨t, e1, e2, ht, hn, htx⟩, ⟨it, tf, e3, e4, e5, hcu, hdc, htd⟩, hDr, hNo, hI0, hI1, hMi, ⟨e16, e17, e18, hsn, hsf, hst⟩, hTe, hWk, hFa, ⟨hd, hw, hf, hc4, hcj, hcc, hfr, hds⟩, hK0, hK1⟩ := id H
  have hp := pow_cu hcu
  exact du_mk R (pc_forget H) (fun h1 R1 => rp_forget R1 F) (S)
set_option maxRecDepth 100000 in
set_option maxHeartbeats 4000000 in
theorem du_which {E : mE} {h : mH} (I : INV h) : mDu E zX7_which zX8_which [] h := by
  obtain ⟨n, tx, cu, dc, bo, td, dn, wk, nf, ca, fr, ds, x0, x1, kp, sn, sf, st, tr, cb, db, bb, dg, nw, kn, bf, sr, ik, mo, od, H, R, S⟩ := I
  have F := rF_of H S
  obtain ⟨s1, s2, s3, s4, ⟨s5, s5b⟩, s6, s7, s8, s9, s10⟩ := id S
  subst s1
  subst s2
  subst s6
  have hB := bo_eq s3
  obtain ⟨e0, ⟨t, e1, e2, ht, hn, htx⟩, ⟨it, tf, e3, e4, e5, hcu, hdc, htd⟩, hDr, hNo, hI0, hI1, hMi, ⟨e16, e17, e18, hsn, hsf, hst⟩, hTe, hWk, hFa, ⟨hd, hw, hf, hc4, hcj, hcc, hfr, hds⟩, hK0, hK1⟩ := id H
  have hp := pow_cu hcu
  exact du_mk R (pc_which H) (fun h1 R1 => by
    have q1 := rp_which (E := E) R1 F
    rw [wch_eq s5.1 (cb 0) (Nat.le_refl _)] at q1
    exact q1) (S)
set_option maxRecDepth 100000 in
set_option maxHeartbeats 4000000 in
theorem du_look {E : mE} {h : mH} (I : INV h) : mDu E zX7_look zX8_look [] h := by
  obtain ⟨n, tx, cu, dc, bo, td, dn, wk, nf, ca, fr, ds, x0, x1, kp, sn, sf, st, tr, cb, db, bb, dg, nw, kn, bf, sr, ik, mo, od, H, R, S⟩ := I
  have F := rF_of H S
  obtain ⟨s1, s2, s3, s4, ⟨s5, s5b⟩, s6, s7, s8, s9, s10⟩ := id S
  subst s1
  subst s2
  subst s6
  have hB := bo_eq s3
  obtain ⟨e0, ⟨t, e1, e2, ht, hn, htx⟩, ⟨it, tf, e3, e4, e5, hcu, hdc, htd⟩, hDr, hNo, hI0, hI1, hMi, ⟨e16, e17, e18, hsn, hsf, hst⟩, hTe, hWk, hFa, ⟨hd, hw, hf, hc4, hcj, hcc, hfr, hds⟩, hK0, hK1⟩ := id H
  have hp := pow_cu hcu
  exact du_mk R (pc_look H) (fun h1 R1 => by
    have q1 := rp_look (E := E) R1 F
    rw [look_eq s5.1] at q1
    exact q1) (S)
set_option maxRecDepth 100000 in
set_option maxHeartbeats 4000000 in
theorem du_mark {E : mE} {h : mH} (I : INV h) (w : Int32) (c : Int32) : mDu E zX7_mark zX8_mark [.int w, .int c] h := by
  obtain ⟨n, tx, cu, dc, bo, td, dn, wk, nf, ca, fr, ds, x0, x1, kp, sn, sf, st, tr, cb, db, bb, dg, nw, kn, bf, sr, ik, mo, od, H, R, S⟩ := I
  have F := rF_of H S
  obtain ⟨s1, s2, s3, s4, ⟨s5, s5b⟩, s6, s7, s8, s9, s10⟩ := id S
  subst s1
  subst s2
  subst s6
  have hB := bo_eq s3
  obtain ⟨e0, ⟨t, e1, e2, ht, hn, htx⟩, ⟨it, tf, e3, e4, e5, hcu, hdc, htd⟩, hDr, hNo, hI0, hI1, hMi, ⟨e16, e17, e18, hsn, hsf, hst⟩, hTe, hWk, hFa, ⟨hd, hw, hf, hc4, hcj, hcc, hfr, hds⟩, hK0, hK1⟩ := id H
  have hp := pow_cu hcu
  cases q_c : isIx c (cb 0) with
  | false =>
    exact du_mk R (pc_mark_bad H (Or.inr (Or.inr q_c))) (fun h1 R1 => rp_mark_bad R1 F (Or.inr (Or.inr q_c))) (S)
  | true =>
    obtain ⟨j, hj, rfl⟩ := (isIx_iff (by omega)).mp q_c
    rcases rng0 (m := w) (b := 5) (by decide) with ⟨k, hk, rfl⟩ | z | z
    · obtain ⟨p, hp1, hp2⟩ := ca_sur hcu hcc hcj j hj
      have eP : plF (fun p => nw (24 + p)) j (cb 0) = p := plF_eq (cb 0) hp1 ((s5.2.1 p hp1).trans hp2) (fun i hi e => hcj i p hi hp1 ((s5.2.1 i hi).symm.trans (e.trans hp2.symm)))
      have eF : nw (6 * j + nw (28 + j)) = nf (j * 6 + fr j) := by
        have h6 := hfr j (by omega)
        rw [s5.2.2.1 j (by omega), show 6 * j + fr j = j * 6 + fr j from by omega]
        exact s5.1 _ (by omega)
      have eG : fgs nw j 6 = fgs nf j 6 := fgs_cong 6 (fun i hi => s5.1 (j * 6 + i) (by omega))
      obtain ⟨t0, t1, t2, t3, t4, t5⟩ := tr_eq tr
      rcases (show k = 0 ∨ k = 1 ∨ k = 2 ∨ k = 3 ∨ k = 4 ∨ k = 5 by omega) with rfl | rfl | rfl | rfl | rfl | rfl
      · exact du_mk R (pc_mark_0 H hj hp1 hp2) (fun h1 R1 => by
          have q1 := rp_mark_0 (E := E) R1 F hj
          rw [eF, t0] at q1
          exact q1) (S)
      · exact du_mk R (pc_mark_1 H hj hp1 hp2) (fun h1 R1 => by
          have q1 := rp_mark_1 (E := E) R1 F hj
          rw [eF, eP, t1] at q1
          exact q1) (S)
      · exact du_mk R (pc_mark_2 H hj hp1 hp2) (fun h1 R1 => by
          have q1 := rp_mark_2 (E := E) R1 F hj
          rw [eF, eG, t2] at q1
          exact q1) (S)
      · exact du_mk R (pc_mark_3 H hj hp1 hp2) (fun h1 R1 => by
          have q1 := rp_mark_3 (E := E) R1 F hj
          rw [eF, eP, t3] at q1
          exact q1) (S)
      · exact du_mk R (pc_mark_4 H hj hp1 hp2) (fun h1 R1 => by
          have q1 := rp_mark_4 (E := E) R1 F hj
          rw [eF, eG, t4] at q1
          exact q1) (S)
      · exact du_mk R (pc_mark_5 H hj hp1 hp2) (fun h1 R1 => by
          have q1 := rp_mark_5 (E := E) R1 F hj
          rw [eF, s5.2.2.2, t5] at q1
          exact q1) (S)
    · exact du_mk R (pc_mark_bad H (Or.inl z)) (fun h1 R1 => rp_mark_bad R1 F (Or.inl z)) (S)
    · exact du_mk R (pc_mark_bad H (Or.inr (Or.inl z))) (fun h1 R1 => rp_mark_bad R1 F (Or.inr (Or.inl z))) (S)
set_option maxRecDepth 100000 in
set_option maxHeartbeats 4000000 in
theorem du_keep {E : mE} {h : mH} (I : INV h) (c : Int32) : mDu E zX7_keep zX8_keep [.int c] h := by
  obtain ⟨n, tx, cu, dc, bo, td, dn, wk, nf, ca, fr, ds, x0, x1, kp, sn, sf, st, tr, cb, db, bb, dg, nw, kn, bf, sr, ik, mo, od, H, R, S⟩ := I
  have F := rF_of H S
  obtain ⟨s1, s2, s3, s4, ⟨s5, s5b⟩, s6, s7, s8, s9, s10⟩ := id S
  subst s1
  subst s2
  subst s6
  have hB := bo_eq s3
  obtain ⟨e0, ⟨t, e1, e2, ht, hn, htx⟩, ⟨it, tf, e3, e4, e5, hcu, hdc, htd⟩, hDr, hNo, hI0, hI1, hMi, ⟨e16, e17, e18, hsn, hsf, hst⟩, hTe, hWk, hFa, ⟨hd, hw, hf, hc4, hcj, hcc, hfr, hds⟩, hK0, hK1⟩ := id H
  have hp := pow_cu hcu
  cases q_c : isIx c 2 with
  | false =>
    exact du_mk R (pc_keep_bad H (q_c)) (fun h1 R1 => rp_keep_bad R1 F (q_c)) (S)
  | true =>
    obtain ⟨j, hj, rfl⟩ := (isIx_iff (by decide)).mp q_c
    rcases (show j = 0 ∨ j = 1 by omega) with rfl | rfl
    · exact du_mk R (pc_keep_0 H) (fun h1 R1 => by
        have q1 := rp_keep_0 (E := E) R1 F
        rw [s5.2.2.2] at q1
        exact q1) (SR_keep0 hcu hd (fun q => (hK1 q).1) S)
    · exact du_mk R (pc_keep_1 H) (fun h1 R1 => by
        have q1 := rp_keep_1 (E := E) R1 F
        rw [s5.2.2.2] at q1
        exact q1) (SR_keep1 hcu hd (fun q => (hK0 q).1) S)
set_option maxRecDepth 100000 in
set_option maxHeartbeats 4000000 in
theorem du_back {E : mE} {h : mH} (I : INV h) (c : Int32) : mDu E zX7_back zX8_back [.int c] h := by
  obtain ⟨n, tx, cu, dc, bo, td, dn, wk, nf, ca, fr, ds, x0, x1, kp, sn, sf, st, tr, cb, db, bb, dg, nw, kn, bf, sr, ik, mo, od, H, R, S⟩ := I
  have F := rF_of H S
  obtain ⟨s1, s2, s3, s4, ⟨s5, s5b⟩, s6, s7, s8, s9, s10⟩ := id S
  subst s1
  subst s2
  subst s6
  have hB := bo_eq s3
  obtain ⟨e0, ⟨t, e1, e2, ht, hn, htx⟩, ⟨it, tf, e3, e4, e5, hcu, hdc, htd⟩, hDr, hNo, hI0, hI1, hMi, ⟨e16, e17, e18, hsn, hsf, hst⟩, hTe, hWk, hFa, ⟨hd, hw, hf, hc4, hcj, hcc, hfr, hds⟩, hK0, hK1⟩ := id H
  have hp := pow_cu hcu
  cases q_c : isIx c 2 with
  | false =>
    exact du_mk R (pc_back_bad H (q_c)) (fun h1 R1 => rp_back_bad R1 F (q_c)) (S)
  | true =>
    obtain ⟨j, hj, rfl⟩ := (isIx_iff (by decide)).mp q_c
    rcases (show j = 0 ∨ j = 1 by omega) with rfl | rfl
    · cases q : kp 0 with
      | false =>
        exact du_mk R (pc_back_none_0 H q) (fun h1 R1 => rp_back_none_0 R1 F (s8.1.trans q)) (S)
      | true =>
        have eW : sr (0 + 32) = x0.2.1 := (s8.2 q).2.1.1.2.2.2
        exact du_mk R (pc_back_0 H q) (fun h1 R1 => by
          have q1 := rp_back_0 (E := E) R1 F (s8.1.trans q)
          rw [eW] at q1
          exact q1) (SR_back0 hcu q (hK0 q).1 S)
    · cases q : kp 1 with
      | false =>
        exact du_mk R (pc_back_none_1 H q) (fun h1 R1 => rp_back_none_1 R1 F (s9.1.trans q)) (S)
      | true =>
        have eW : sr (33 + 32) = x1.2.1 := (s9.2 q).2.1.1.2.2.2
        exact du_mk R (pc_back_1 H q) (fun h1 R1 => by
          have q1 := rp_back_1 (E := E) R1 F (s9.1.trans q)
          rw [eW] at q1
          exact q1) (SR_back1 hcu q (hK1 q).1 S)
set_option maxRecDepth 100000 in
set_option maxHeartbeats 4000000 in
theorem du_count {E : mE} {h : mH} (I : INV h) (c : Int32) : mDu E zX7_count zX8_count [.int c] h := by
  obtain ⟨n, tx, cu, dc, bo, td, dn, wk, nf, ca, fr, ds, x0, x1, kp, sn, sf, st, tr, cb, db, bb, dg, nw, kn, bf, sr, ik, mo, od, H, R, S⟩ := I
  have F := rF_of H S
  obtain ⟨s1, s2, s3, s4, ⟨s5, s5b⟩, s6, s7, s8, s9, s10⟩ := id S
  subst s1
  subst s2
  subst s6
  have hB := bo_eq s3
  obtain ⟨e0, ⟨t, e1, e2, ht, hn, htx⟩, ⟨it, tf, e3, e4, e5, hcu, hdc, htd⟩, hDr, hNo, hI0, hI1, hMi, ⟨e16, e17, e18, hsn, hsf, hst⟩, hTe, hWk, hFa, ⟨hd, hw, hf, hc4, hcj, hcc, hfr, hds⟩, hK0, hK1⟩ := id H
  have hp := pow_cu hcu
  cases q_c : isIx c 6 with
  | false =>
    exact du_mk R (pc_count_no H q_c) (fun h1 R1 => rp_count_no R1 F q_c) (S)
  | true =>
    obtain ⟨j, hj, rfl⟩ := (isIx_iff (by decide)).mp q_c
    rcases (show j = 0 ∨ j = 1 ∨ j = 2 ∨ j = 3 ∨ j = 4 ∨ j = 5 by omega) with rfl | rfl | rfl | rfl | rfl | rfl
    · exact du_mk R (pc_count_0 H) (fun h1 R1 => rp_count_0 R1 F) (S)
    · exact du_mk R (pc_count_1 H) (fun h1 R1 => rp_count_1 R1 F) (S)
    · exact du_mk R (pc_count_2 H) (fun h1 R1 => by
        have q1 := rp_count_2 (E := E) R1 F
        rw [s3] at q1
        exact q1) (S)
    · exact du_mk R (pc_count_3 H) (fun h1 R1 => rp_count_3 R1 F) (S)
    · exact du_mk R (pc_count_4 H) (fun h1 R1 => rp_count_4 R1 F) (S)
    · exact du_mk R (pc_count_5 H) (fun h1 R1 => rp_count_5 R1 F) (S)
/-- trace answers a long -/
def mDj (E : mE) (Y1 Y2 : mY) (av : List Value) (h : mH) : Prop := ∃ (d1 d2 : Nat) (Q : Int64 → mH → Prop), d1 ≤ 50 ∧ d2 ≤ 50 ∧ mOk E d1 Y1 (.ref 0 :: av) h (fun r h' => ∃ v, r = some (.long v) ∧ Q v h') ∧ ∀ v h', Q v h' → (∃ fs, h' 40 = mOb 8 fs) ∧ mOk E d2 Y2 (.ref 40 :: av) h' (fun r h'' => r = some (.long v) ∧ INV h'')
theorem du_trace {E : mE} {h : mH} (I : INV h) : mDj E zX7_trace zX8_trace [] h := by
  obtain ⟨n, tx, cu, dc, bo, td, dn, wk, nf, ca, fr, ds, x0, x1, kp, sn, sf, st, tr, cb, db, bb, dg, nw, kn, bf, sr, ik, mo, od, H, R, S⟩ := I
  have F := rF_of H S
  obtain ⟨s1, s2, s3, s4, ⟨s5, s5b⟩, s6, s7, s8, s9, s10⟩ := id S
  subst s1
  subst s2
  subst s6
  have hB := bo_eq s3
  obtain ⟨e0, ⟨t, e1, e2, ht, hn, htx⟩, ⟨it, tf, e3, e4, e5, hcu, hdc, htd⟩, hDr, hNo, hI0, hI1, hMi, ⟨e16, e17, e18, hsn, hsf, hst⟩, hTe, hWk, hFa, ⟨hd, hw, hf, hc4, hcj, hcc, hfr, hds⟩, hK0, hK1⟩ := id H
  have hp := pow_cu hcu
  refine ⟨1, 1, fun w h' => w = tr ∧ CI h' n tx (cb 0) (db 0) bo td (kn 0) wk nf ca fr ds x0 x1 kp sn sf st tr ∧ rI h' n tx cb db bb dg nw kn bf sr ik mo od sn sf st tr, by decide, by decide, mOk_imp (pc_trace H) (fun r h' q => ⟨tr, q.1, rfl, q.2.1, rI_cong R q.2.2⟩), ?_⟩
  rintro w h' ⟨rfl, hC, hR⟩
  refine ⟨?_, mOk_imp (rp_trace hR F) (fun r h'' q => ⟨q.1, n, tx, cb 0, db 0, bo, td, kn 0, wk, nf, ca, fr, ds, x0, x1, kp, sn, sf, st, w, cb, db, bb, dg, nw, kn, bf, sr, ik, mo, od, CI_cong hC q.2.2, q.2.1, S⟩)⟩
  obtain ⟨t, wr, it, fg, ls, e40, -⟩ := hR
  exact ⟨_, e40⟩
