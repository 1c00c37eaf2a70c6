/-! desk: both sides -/
theorem rI_rl {h : mH} {n : Nat} {tx cb db bb dg nw kn bf sr : Nat → Nat} {ik : Nat → Bool} {mo : Nat} {od : Nat → Nat} {sn : Nat} {sf st : Nat → Nat} {tr : Int64} (H : rI h n tx cb db bb dg nw kn bf sr ik mo od sn sf st tr) : rI (rl h) n tx cb db bb dg nw kn bf sr ik mo od sn sf st tr := by
  obtain ⟨t, wr, it, fg, ls, e40, e41, e42, e43, e44, e45, e46, e47, e48, e49, e50, e51, e52, e53, e54, e55⟩ := H
  exact ⟨t, wr, it, fg, ls, congrArg rlC e40, congrArg rlC e41, congrArg rlC e42, congrArg rlC e43, congrArg rlC e44, congrArg rlC e45, congrArg rlC e46, congrArg rlC e47, congrArg rlC e48, congrArg rlC e49, congrArg rlC e50, congrArg rlC e51, congrArg rlC e52, congrArg rlC e53, congrArg rlC e54, congrArg rlC e55⟩
theorem nI_mn {s : Nat} (hs : s ≤ 100) : ¬ nI s = -1 := by
  intro e
  have h1 : (nI s).toInt = (s : Int) := nI_toInt (by omega)
  rw [e] at h1
  have h2 : (-1 : Int32).toInt = -1 := by decide
  omega
/-- desk, if the text is fine: told and draft have changed places -/
def mDd (E : mE) (h : mH) : Prop := ∃ (d1 d2 : Nat) (Q : Int32 → mH → Prop), d1 ≤ 50 ∧ d2 ≤ 50 ∧ mOk E d1 zX7_desk [.ref 0] h (fun r h' => ∃ v, r = some (.int v) ∧ Q v (rl h')) ∧ ∀ v h', Q v h' → (∃ fs, h' 40 = mOb 8 fs) ∧ mOk (flipE E) d2 zX8_desk [.ref 40] h' (fun r h'' => r = some (.int v) ∧ INV h'')
theorem bgF_ok {cu : Nat} {f df nw : Nat → Nat} (hcu : cu ≤ 4) (hf : ∀ j, j < cu * 6 → f (24 + j) = df j) : sdQ cu (bgF (cpF f f 24 0 24) nw) 0 df (fun j => j) (fun _ => 0) := by
  unfold bgF
  refine ⟨⟨fun j hj => ?_, fun p hp => ?_, fun c hc => ?_, mUp_eq _ _ _⟩, fun p hp => ?_⟩
  · rw [mUp_ne _ _ (by omega)]
    unfold atF
    rw [if_neg (by omega), if_neg (by omega), cp_in (j := j) (by omega) (by omega), Nat.zero_add, cp_in (j := j) (by omega) (by omega)]
    exact hf j hj
  · rw [mUp_ne _ _ (by omega)]
    unfold atF
    rw [if_pos (by omega)]
    show 24 + p - 24 = p
    omega
  · rw [mUp_ne _ _ (by omega)]
    unfold atF
    rw [if_neg (by omega), if_pos (by omega)]
  · rw [mUp_ne _ _ (by omega)]
    unfold atF
    rw [if_pos (by omega)]
    omega
set_option maxRecDepth 100000 in
set_option maxHeartbeats 4000000 in
theorem du_desk {E : mE} {h : mH} (I : INV h) : mDu E zX7_desk zX8_desk [] h ∨ mDd E h := by
  obtain ⟨n, tx, cu, dc, bo, td, dn, wk, nf, ca, fr, ds, x0, x1, kp, sn, sf, st, tr, cb, db, bb, dg, nw, kn, bf, sr, ik, mo, od, H, R, S⟩ := I
  have F := rF_of H S
  obtain ⟨s1, s2, s3, s4, ⟨s5, s5b⟩, s6, s7, s8, s9, s10⟩ := id S
  obtain ⟨e0, ⟨t, e1, e2, ht, hn, htx⟩, ⟨it, tf, e3, e4, e5, hcu, hdc, htd⟩, ⟨cu6, dc6, it6, bo6, df, dy, e6, e7, e8⟩, hNo, hI0, hI1, hMi, ⟨e16, e17, e18, hsn, hsf, hst⟩, hTe, hWk, hFa, ⟨hd, hw, hf, hc4, hcj, hcc, hfr, hds⟩, hK0, hK1⟩ := id H
  have hp := pow_cu hcu
  by_cases z : (rdZ tx n t df dy).1 = -1
  · right
    have hv := rdZ_dv (tx := tx) (n := n) (t := t) (df := df) (dy := dy)
    refine ⟨7, 7, fun w h1 => w = nI (rdZ tx n t df dy).2.2.1 ∧ CI h1 0 tx (rdZ tx n t df dy).2.2.2.1.1 (rdZ tx n t df dy).2.2.2.1.2.1 (rdZ tx n t df dy).2.2.2.1.2.2 (rdZ tx n t df dy).2.2.2.2.2 0 0 (rdZ tx n t df dy).2.2.2.2.1 (fun j => j) (fun _ => 0) ds x0 x1 (fun _ => false) 0 sf st tr ∧ rI h1 n tx cb db bb dg nw kn bf sr ik mo od sn sf st tr, by decide, by decide, mOk_imp (pc_desk_ok H e1 e2 e6 e7 e8 ht hn htx z hv.1 hv.2) (fun r h1 q => ⟨_, q.1, rfl, q.2.1, rI_rl (rI_cong R q.2.2)⟩), ?_⟩
    rintro w h1 ⟨rfl, hC, hR⟩
    obtain ⟨t', wr', it', fg, ls, e40, e41, e42, e43, e44, e45, e46, e47, e48, e49, e50, e51, e52, e53, e54, e55⟩ := id hR
    refine ⟨⟨_, e40⟩, ?_⟩
    rcases rz_eq (cb := cb) (db := db) (bb := bb) (fg := fg) (dg := dg) (df := df) (dy := dy) (t := t) hn htx ht with ⟨-, y2, y3, y4⟩ | ⟨y1, y2, y3⟩
    · rw [y3]
      refine mOk_imp (rp_desk_ok e40 e41 e42 e43 e44 e45 e46 e47 e48 e49 e50 e51 e52 e53 e54 e55 F y2) (fun r h2 q => ⟨q.1, ?_⟩)
      have hC2 := CI_cong hC q.2.2
      have q2 := q.2.1
      generalize rdZ tx n t df dy = Z at y4 hC2
      generalize rrZ tx n cb db bb fg dg = Y at y4 q2
      obtain ⟨-, -, ⟨it2, tf2, -, -, -, hcu2, hdc2, htd2⟩, -⟩ := id hC2
      obtain ⟨d1, d2, d3, d4, d5⟩ := y4
      exact ⟨_, _, _, _, _, _, _, _, _, _, _, _, _, _, _, _, _, _, _, _, _, _, _, _, _, _, _, _, _, _, hC2, q2, (mUp_eq Y.2.2.1 0 (Y.2.2.1 1)).trans d1, (mUp_eq Y.2.2.2.1 0 (Y.2.2.2.1 1)).trans d2, (mUp_eq Y.2.2.2.2.1 0 (Y.2.2.2.2.1 1)).trans d3, fun j hj => (cp_in (j := j) (by omega) (by omega)).trans (d5 j hj), bgF_ok hcu2 d4, mUp_eq kn 0 0, True.intro, ⟨rfl, fun w => Bool.noConfusion w⟩, ⟨rfl, fun w => Bool.noConfusion w⟩, by rw [d1]; exact toR_all hcu2 od⟩
    · rw [y2] at z
      exact absurd z (nI_mn y3)
  · left
    refine ⟨7, 7, fun w h1 => w = (-10) - (rdZ tx n t df dy).1 ∧ CI h1 n tx cu dc bo td dn wk nf ca fr ds x0 x1 kp sn sf st tr ∧ rI h1 n tx cb db bb dg nw kn bf sr ik mo od sn sf st tr, by decide, by decide, mOk_imp (pc_desk_fault H e1 e2 e6 e7 e8 ht hn htx z) (fun r h1 q => ⟨_, q.1, rfl, q.2.1, rI_cong R q.2.2⟩), ?_⟩
    rintro w h1 ⟨rfl, hC, hR⟩
    obtain ⟨t', wr', it', fg, ls, e40, e41, e42, e43, e44, e45, e46, e47, e48, e49, e50, e51, e52, e53, e54, e55⟩ := id hR
    refine ⟨⟨_, e40⟩, ?_⟩
    rcases rz_eq (cb := cb) (db := db) (bb := bb) (fg := fg) (dg := dg) (df := df) (dy := dy) (t := t) hn htx ht with ⟨y1, -⟩ | ⟨y1, y2, y3⟩
    · exact absurd y1 z
    · rw [y2]
      obtain ⟨k1, k2, k3, k4, -⟩ := rrZ_rK (tx := tx) (n := n) (cb := cb) (db := db) (bb := bb) (fg := fg) (dg := dg)
      refine mOk_imp (rp_desk_fault e40 e41 e42 e43 e44 e45 e46 e47 e48 e49 e50 e51 e52 e53 e54 e55 F y1) (fun r h2 q => ⟨q.1, n, tx, cu, dc, bo, td, dn, wk, nf, ca, fr, ds, x0, x1, kp, sn, sf, st, tr, _, _, _, _, nw, kn, bf, sr, ik, mo, od, CI_cong hC q.2.2, q.2.1, k1.trans s1, k2.trans s2, k3.trans s3, fun j hj => (k4 j (by omega)).trans (s4 j hj), ⟨s5, s5b⟩, s6, s7, s8, s9, s10⟩)
