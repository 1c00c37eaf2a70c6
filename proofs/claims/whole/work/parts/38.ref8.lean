-- needs: 33 34 35 36 37
/-! the reference: the least work; orders -/
def w3S (ls : Nat → Nat) (cu my : Nat) (od : Nat → Nat) (i j two k best : Nat) : Nat := if two < best then min best ((if 2 < my then two + cgF cu (od j) (od k) else two) + wbR ls cu (od i) (od j) (od k)) else best
def w2S (ls : Nat → Nat) (cu mo my : Nat) (od : Nat → Nat) (i one j best : Nat) : Nat := iterF (w3S ls cu my od i j (if 1 < my then one + cgF cu (od i) (od j) else one)) 0 (if 2 < my then mo else 1) best
def w1S (ls : Nat → Nat) (cu mo my st : Nat) (od : Nat → Nat) (i best : Nat) : Nat := iterF (w2S ls cu mo my od i (cgF cu st (od i))) 0 (if 1 < my then mo else 1) best
def w0R (ls : Nat → Nat) (cu mo my st : Nat) (od : Nat → Nat) : Nat := iterF (w1S ls cu mo my st od) 0 mo 100000
def wfR (ls : Nat → Nat) (cu mo my st : Nat) (od : Nat → Nat) : Int32 := if w0R ls cu mo my st od < 100000 then nI (w0R ls cu mo my st od) else -9
theorem w3S_le {ls : Nat → Nat} {cu my : Nat} {od : Nat → Nat} {i j two : Nat} (k best : Nat) : w3S ls cu my od i j two k best ≤ best := by unfold w3S; split <;> omega
theorem w2S_le {ls : Nat → Nat} {cu mo my : Nat} {od : Nat → Nat} {i one : Nat} (j best : Nat) : w2S ls cu mo my od i one j best ≤ best := iterF_le w3S_le _ _ _ (Nat.le_refl _)
theorem w1S_le {ls : Nat → Nat} {cu mo my st : Nat} {od : Nat → Nat} (i best : Nat) : w1S ls cu mo my st od i best ≤ best := iterF_le w2S_le _ _ _ (Nat.le_refl _)
theorem w3S_no {ls : Nat → Nat} {cu my : Nat} {od : Nat → Nat} {i j two best : Nat} (h : best ≤ two) : ∀ k a, iterF (w3S ls cu my od i j two) a k best = best := by
  intro k
  induction k with
  | zero => intro a; rfl
  | succ k ih =>
    intro a
    rw [iterF_s, w3S, if_neg (by omega)]
    exact ih _
theorem cgF_le (cu fm to : Nat) : cgF cu fm to ≤ cu := by
  have h := iterF_ix (f := cgS cu to) (P := fun i x => x.2 ≤ i) cu 0 (fm, 0) (Nat.le_refl _) (by
    intro j y _ _ h
    unfold cgS
    split
    · exact Nat.le_trans h (Nat.le_succ _)
    · exact Nat.succ_le_succ h)
  rw [Nat.zero_add] at h
  exact h
def lsOK (cu : Nat) (ls : Nat → Nat) : Prop := ∀ c p q r, c < cu → p < cu → q < cu → r < cu → ls (64 * c + 16 * p + 4 * q + r) ≤ 100000
theorem wbR_le {ls : Nat → Nat} {cu a b c : Nat} (hcu : cu ≤ 4) (h : lsOK cu ls) : wbR ls cu a b c ≤ 400000 := by
  have := smG_le (f := wbF ls cu a b c) (m := 100000) cu (fun o ho => h o _ _ _ ho (plF_n (by omega)) (plF_n (by omega)) (plF_n (by omega)))
  unfold wbR
  omega
set_option maxRecDepth 100000 in
set_option maxHeartbeats 4000000 in
theorem lp_X8_w3 {E : mE} {h : mH} {K : mKt} {ty a sd so va it mo fa : Nat} {wr : Bool} {tr : Int64} {i1 one j1 two B R : Nat} {fm my st : Nat} {cb ls od : Nat → Nat} (e40 : h 40 = oMo ty a sd so va wr it mo fa tr) (e42 : h 42 = mAr 2 cb) (hcb : cb 0 ≤ 4) (e52 : h 52 = mAr 256 ls) (e53 : h 53 = mAr 24 od) (ho : oOK (cb 0) mo od) (hls : lsOK (cb 0) ls) (hmy : my < 4) (hst : st < 256) (hi : i1 < mo) (hj : j1 < mo) (h2 : two ≤ 1000) (hB : B = if 2 < my then mo else 1) (hK : ∀ x y z, mG E (mR 4, zX8_workFor) K 205 [some (.ref 40), some (vN fm), some (vN my), some (vN R), some (vN st), some (vN i1), some (vN one), some (vN j1), some (vN two), x, y, z] [] (mN, 0, 0) h) : ∀ (k i best : Nat) (y z : Option Value), i + k = B → best ≤ 100000 → R = iterF (w3S ls (cb 0) my od i1 j1 two) i k best → mG E (mR 4, zX8_workFor) K 99 [some (.ref 40), some (vN fm), some (vN my), some (vN best), some (vN st), some (vN i1), some (vN one), some (vN j1), some (vN two), some (vN i), y, z] [] (mN, 0, 0) h := by
  intro k
  induction k with
  | zero =>
    intro i best y z hk hbe hR
    refine mG_iload dX8_workFor_99 rfl ?_
    refine mG_iload_n dX8_workFor_101 rfl ?_
    refine mG_iconst (v := nI 2) dX8_workFor_102 (by decide) ?_
    have hmo := ho.1
    have hBl : B ≤ 24 := by rw [hB]; split <;> omega
    refine mG_icmp_leN dX8_workFor_103 (by omega) (by omega) (fun c103 => ?_) (fun c103 => ?_)
    · refine mG_iconst (v := nI 1) dX8_workFor_113 (by decide) ?_
      refine mG_icmp_geN dX8_workFor_114 (by omega) (by omega) (fun c114 => ?_) (fun c114 => absurd c114 (by first | (rw [if_pos c103] at hB; omega) | (rw [if_neg (Nat.not_lt.mpr c103)] at hB; omega)))
      subst hR
      exact hK _ _ _
    · refine mG_aload_n dX8_workFor_106 rfl ?_
      refine mG_get fX8_130 dX8_workFor_107 e40 (Nat.le_of_ble_eq_true rfl) rfl ?_
      refine mG_goto dX8_workFor_110 ?_
      refine mG_icmp_geN dX8_workFor_114 (by omega) (by omega) (fun c114 => ?_) (fun c114 => absurd c114 (by first | (rw [if_pos c103] at hB; omega) | (rw [if_neg (Nat.not_lt.mpr c103)] at hB; omega)))
      subst hR
      exact hK _ _ _
  | succ k ih =>
    intro i best y z hk hbe hR
    refine mG_iload dX8_workFor_99 rfl ?_
    refine mG_iload_n dX8_workFor_101 rfl ?_
    refine mG_iconst (v := nI 2) dX8_workFor_102 (by decide) ?_
    have hmo := ho.1
    have hBl : B ≤ 24 := by rw [hB]; split <;> omega
    refine mG_icmp_leN dX8_workFor_103 (by omega) (by omega) (fun c103 => ?_) (fun c103 => ?_)
    · refine mG_iconst (v := nI 1) dX8_workFor_113 (by decide) ?_
      refine mG_icmp_geN dX8_workFor_114 (by omega) (by omega) (fun c114 => absurd c114 (by first | (rw [if_pos c103] at hB; omega) | (rw [if_neg (Nat.not_lt.mpr c103)] at hB; omega))) (fun c114 => ?_)
      refine mG_iload dX8_workFor_117 rfl ?_
      refine mG_iload_n dX8_workFor_119 rfl ?_
      refine mG_icmp_geN dX8_workFor_120 (by omega) (by omega) (fun c120 => ?_) (fun c120 => ?_)
      · rw [w3S_no c120] at hR
        subst hR
        exact hK _ _ _
      · have him : i < mo := by first | (rw [if_pos c103] at hB; omega) | (rw [if_neg (Nat.not_lt.mpr c103)] at hB; omega)
        have o1 := ho.2.1 i1 hi
        have o2 := ho.2.1 j1 hj
        have o3 := ho.2.1 i him
        have hcg := cgF_le (cb 0) (od j1) (od i)
        have hwb := wbR_le (a := od i1) (b := od j1) (c := od i) hcb hls
        rw [iterF_s, w3S, if_pos c120] at hR
        refine mG_iload_n dX8_workFor_123 rfl ?_
        refine mG_iconst (v := nI 2) dX8_workFor_124 (by decide) ?_
        refine mG_icmp_leN dX8_workFor_125 (by omega) (by omega) (fun c125 => ?_) (fun c125 => ?_)
        · refine mG_iload dX8_workFor_152 rfl ?_
          refine mG_istore dX8_workFor_154 (Nat.le_of_ble_eq_true rfl) rfl rfl ?_
          refine mG_iload dX8_workFor_156 rfl ?_
          refine mG_aload_n dX8_workFor_158 rfl ?_
          refine mG_aload_n dX8_workFor_159 rfl ?_
          refine mG_get fX8_48 dX8_workFor_160 e40 (Nat.le_of_ble_eq_true rfl) rfl ?_
          refine mG_iload dX8_workFor_163 rfl ?_
          refine mG_ialdA dX8_workFor_165 e53 (Nat.le_of_ble_eq_true rfl) (by decide) (Nat.lt_of_lt_of_le hi ho.1) ?_
          refine mG_aload_n dX8_workFor_166 rfl ?_
          refine mG_get fX8_48 dX8_workFor_167 e40 (Nat.le_of_ble_eq_true rfl) rfl ?_
          refine mG_iload dX8_workFor_170 rfl ?_
          refine mG_ialdA dX8_workFor_172 e53 (Nat.le_of_ble_eq_true rfl) (by decide) (Nat.lt_of_lt_of_le hj ho.1) ?_
          refine mG_aload_n dX8_workFor_173 rfl ?_
          refine mG_get fX8_48 dX8_workFor_174 e40 (Nat.le_of_ble_eq_true rfl) rfl ?_
          refine mG_iload dX8_workFor_177 rfl ?_
          refine mG_ialdA dX8_workFor_179 e53 (Nat.le_of_ble_eq_true rfl) (by decide) (Nat.lt_of_lt_of_le him ho.1) ?_
          refine mG_cv3 vX8_199 dX8_workFor_180 (mLe_of rfl) (Nat.le_of_ble_eq_true rfl) e40 (Nat.le_of_ble_eq_true rfl) (ok_X8_workBy e40 e42 hcb e52 o1 o2 o3) ?_
          refine mG_iaddN dX8_workFor_183 ?_
          refine mG_istore dX8_workFor_184 (Nat.le_of_ble_eq_true rfl) rfl rfl ?_
          refine mG_iload dX8_workFor_186 rfl ?_
          refine mG_iload_n dX8_workFor_188 rfl ?_
          refine mG_icmp_geN dX8_workFor_189 (by omega) (by omega) (fun c189 => ?_) (fun c189 => ?_)
          · refine mG_iload_n dX8_workFor_197 rfl ?_
            refine mG_istore_n dX8_workFor_198 (Nat.le_of_ble_eq_true rfl) rfl rfl ?_
            refine mG_iincN dX8_workFor_199 rfl (Nat.le_of_ble_eq_true rfl) rfl rfl ?_
            refine mG_goto dX8_workFor_202 ?_
            first
              | rw [if_pos c125] at hR
              | rw [if_neg (Nat.not_lt.mpr c125)] at hR
            first
              | (rw [Nat.min_eq_left c189] at hR; exact ih (i + 1) _ _ _ (by omega) hbe hR)
              | (rw [Nat.min_eq_right (Nat.le_of_lt c189)] at hR; exact ih (i + 1) _ _ _ (by omega) (by omega) hR)
          · refine mG_iload dX8_workFor_192 rfl ?_
            refine mG_goto dX8_workFor_194 ?_
            refine mG_istore_n dX8_workFor_198 (Nat.le_of_ble_eq_true rfl) rfl rfl ?_
            refine mG_iincN dX8_workFor_199 rfl (Nat.le_of_ble_eq_true rfl) rfl rfl ?_
            refine mG_goto dX8_workFor_202 ?_
            first
              | rw [if_pos c125] at hR
              | rw [if_neg (Nat.not_lt.mpr c125)] at hR
            first
              | (rw [Nat.min_eq_left c189] at hR; exact ih (i + 1) _ _ _ (by omega) hbe hR)
              | (rw [Nat.min_eq_right (Nat.le_of_lt c189)] at hR; exact ih (i + 1) _ _ _ (by omega) (by omega) hR)
        · refine mG_iload dX8_workFor_128 rfl ?_
          refine mG_aload_n dX8_workFor_130 rfl ?_
          refine mG_aload_n dX8_workFor_131 rfl ?_
          refine mG_get fX8_48 dX8_workFor_132 e40 (Nat.le_of_ble_eq_true rfl) rfl ?_
          refine mG_iload dX8_workFor_135 rfl ?_
          refine mG_ialdA dX8_workFor_137 e53 (Nat.le_of_ble_eq_true rfl) (by decide) (Nat.lt_of_lt_of_le hj ho.1) ?_
          refine mG_aload_n dX8_workFor_138 rfl ?_
          refine mG_get fX8_48 dX8_workFor_139 e40 (Nat.le_of_ble_eq_true rfl) rfl ?_
          refine mG_iload dX8_workFor_142 rfl ?_
          refine mG_ialdA dX8_workFor_144 e53 (Nat.le_of_ble_eq_true rfl) (by decide) (Nat.lt_of_lt_of_le him ho.1) ?_
          refine mG_cv2 vX8_196 dX8_workFor_145 (mLe_of rfl) (Nat.le_of_ble_eq_true rfl) e40 (Nat.le_of_ble_eq_true rfl) (ok_X8_changesTo e40 e42 hcb o3 o2) ?_
          refine mG_iaddN dX8_workFor_148 ?_
          refine mG_goto dX8_workFor_149 ?_
          refine mG_istore dX8_workFor_154 (Nat.le_of_ble_eq_true rfl) rfl rfl ?_
          refine mG_iload dX8_workFor_156 rfl ?_
          refine mG_aload_n dX8_workFor_158 rfl ?_
          refine mG_aload_n dX8_workFor_159 rfl ?_
          refine mG_get fX8_48 dX8_workFor_160 e40 (Nat.le_of_ble_eq_true rfl) rfl ?_
          refine mG_iload dX8_workFor_163 rfl ?_
          refine mG_ialdA dX8_workFor_165 e53 (Nat.le_of_ble_eq_true rfl) (by decide) (Nat.lt_of_lt_of_le hi ho.1) ?_
          refine mG_aload_n dX8_workFor_166 rfl ?_
          refine mG_get fX8_48 dX8_workFor_167 e40 (Nat.le_of_ble_eq_true rfl) rfl ?_
          refine mG_iload dX8_workFor_170 rfl ?_
          refine mG_ialdA dX8_workFor_172 e53 (Nat.le_of_ble_eq_true rfl) (by decide) (Nat.lt_of_lt_of_le hj ho.1) ?_
          refine mG_aload_n dX8_workFor_173 rfl ?_
          refine mG_get fX8_48 dX8_workFor_174 e40 (Nat.le_of_ble_eq_true rfl) rfl ?_
          refine mG_iload dX8_workFor_177 rfl ?_
          refine mG_ialdA dX8_workFor_179 e53 (Nat.le_of_ble_eq_true rfl) (by decide) (Nat.lt_of_lt_of_le him ho.1) ?_
          refine mG_cv3 vX8_199 dX8_workFor_180 (mLe_of rfl) (Nat.le_of_ble_eq_true rfl) e40 (Nat.le_of_ble_eq_true rfl) (ok_X8_workBy e40 e42 hcb e52 o1 o2 o3) ?_
          refine mG_iaddN dX8_workFor_183 ?_
          refine mG_istore dX8_workFor_184 (Nat.le_of_ble_eq_true rfl) rfl rfl ?_
          refine mG_iload dX8_workFor_186 rfl ?_
          refine mG_iload_n dX8_workFor_188 rfl ?_
          refine mG_icmp_geN dX8_workFor_189 (by omega) (by omega) (fun c189 => ?_) (fun c189 => ?_)
          · refine mG_iload_n dX8_workFor_197 rfl ?_
            refine mG_istore_n dX8_workFor_198 (Nat.le_of_ble_eq_true rfl) rfl rfl ?_
            refine mG_iincN dX8_workFor_199 rfl (Nat.le_of_ble_eq_true rfl) rfl rfl ?_
            refine mG_goto dX8_workFor_202 ?_
            first
              | rw [if_pos c125] at hR
              | rw [if_neg (Nat.not_lt.mpr c125)] at hR
            first
              | (rw [Nat.min_eq_left c189] at hR; exact ih (i + 1) _ _ _ (by omega) hbe hR)
              | (rw [Nat.min_eq_right (Nat.le_of_lt c189)] at hR; exact ih (i + 1) _ _ _ (by omega) (by omega) hR)
          · refine mG_iload dX8_workFor_192 rfl ?_
            refine mG_goto dX8_workFor_194 ?_
            refine mG_istore_n dX8_workFor_198 (Nat.le_of_ble_eq_true rfl) rfl rfl ?_
            refine mG_iincN dX8_workFor_199 rfl (Nat.le_of_ble_eq_true rfl) rfl rfl ?_
            refine mG_goto dX8_workFor_202 ?_
            first
              | rw [if_pos c125] at hR
              | rw [if_neg (Nat.not_lt.mpr c125)] at hR
            first
              | (rw [Nat.min_eq_left c189] at hR; exact ih (i + 1) _ _ _ (by omega) hbe hR)
              | (rw [Nat.min_eq_right (Nat.le_of_lt c189)] at hR; exact ih (i + 1) _ _ _ (by omega) (by omega) hR)
    · refine mG_aload_n dX8_workFor_106 rfl ?_
      refine mG_get fX8_130 dX8_workFor_107 e40 (Nat.le_of_ble_eq_true rfl) rfl ?_
      refine mG_goto dX8_workFor_110 ?_
      refine mG_icmp_geN dX8_workFor_114 (by omega) (by omega) (fun c114 => absurd c114 (by first | (rw [if_pos c103] at hB; omega) | (rw [if_neg (Nat.not_lt.mpr c103)] at hB; omega))) (fun c114 => ?_)
      refine mG_iload dX8_workFor_117 rfl ?_
      refine mG_iload_n dX8_workFor_119 rfl ?_
      refine mG_icmp_geN dX8_workFor_120 (by omega) (by omega) (fun c120 => ?_) (fun c120 => ?_)
      · rw [w3S_no c120] at hR
        subst hR
        exact hK _ _ _
      · have him : i < mo := by first | (rw [if_pos c103] at hB; omega) | (rw [if_neg (Nat.not_lt.mpr c103)] at hB; omega)
        have o1 := ho.2.1 i1 hi
        have o2 := ho.2.1 j1 hj
        have o3 := ho.2.1 i him
        have hcg := cgF_le (cb 0) (od j1) (od i)
        have hwb := wbR_le (a := od i1) (b := od j1) (c := od i) hcb hls
        rw [iterF_s, w3S, if_pos c120] at hR
        refine mG_iload_n dX8_workFor_123 rfl ?_
        refine mG_iconst (v := nI 2) dX8_workFor_124 (by decide) ?_
        refine mG_icmp_leN dX8_workFor_125 (by omega) (by omega) (fun c125 => ?_) (fun c125 => ?_)
        · refine mG_iload dX8_workFor_152 rfl ?_
          refine mG_istore dX8_workFor_154 (Nat.le_of_ble_eq_true rfl) rfl rfl ?_
          refine mG_iload dX8_workFor_156 rfl ?_
          refine mG_aload_n dX8_workFor_158 rfl ?_
          refine mG_aload_n dX8_workFor_159 rfl ?_
          refine mG_get fX8_48 dX8_workFor_160 e40 (Nat.le_of_ble_eq_true rfl) rfl ?_
          refine mG_iload dX8_workFor_163 rfl ?_
          refine mG_ialdA dX8_workFor_165 e53 (Nat.le_of_ble_eq_true rfl) (by decide) (Nat.lt_of_lt_of_le hi ho.1) ?_
          refine mG_aload_n dX8_workFor_166 rfl ?_
          refine mG_get fX8_48 dX8_workFor_167 e40 (Nat.le_of_ble_eq_true rfl) rfl ?_
          refine mG_iload dX8_workFor_170 rfl ?_
          refine mG_ialdA dX8_workFor_172 e53 (Nat.le_of_ble_eq_true rfl) (by decide) (Nat.lt_of_lt_of_le hj ho.1) ?_
          refine mG_aload_n dX8_workFor_173 rfl ?_
          refine mG_get fX8_48 dX8_workFor_174 e40 (Nat.le_of_ble_eq_true rfl) rfl ?_
          refine mG_iload dX8_workFor_177 rfl ?_
          refine mG_ialdA dX8_workFor_179 e53 (Nat.le_of_ble_eq_true rfl) (by decide) (Nat.lt_of_lt_of_le him ho.1) ?_
          refine mG_cv3 vX8_199 dX8_workFor_180 (mLe_of rfl) (Nat.le_of_ble_eq_true rfl) e40 (Nat.le_of_ble_eq_true rfl) (ok_X8_workBy e40 e42 hcb e52 o1 o2 o3) ?_
          refine mG_iaddN dX8_workFor_183 ?_
          refine mG_istore dX8_workFor_184 (Nat.le_of_ble_eq_true rfl) rfl rfl ?_
          refine mG_iload dX8_workFor_186 rfl ?_
          refine mG_iload_n dX8_workFor_188 rfl ?_
          refine mG_icmp_geN dX8_workFor_189 (by omega) (by omega) (fun c189 => ?_) (fun c189 => ?_)
          · refine mG_iload_n dX8_workFor_197 rfl ?_
            refine mG_istore_n dX8_workFor_198 (Nat.le_of_ble_eq_true rfl) rfl rfl ?_
            refine mG_iincN dX8_workFor_199 rfl (Nat.le_of_ble_eq_true rfl) rfl rfl ?_
            refine mG_goto dX8_workFor_202 ?_
            first
              | rw [if_pos c125] at hR
              | rw [if_neg (Nat.not_lt.mpr c125)] at hR
            first
              | (rw [Nat.min_eq_left c189] at hR; exact ih (i + 1) _ _ _ (by omega) hbe hR)
              | (rw [Nat.min_eq_right (Nat.le_of_lt c189)] at hR; exact ih (i + 1) _ _ _ (by omega) (by omega) hR)
          · refine mG_iload dX8_workFor_192 rfl ?_
            refine mG_goto dX8_workFor_194 ?_
            refine mG_istore_n dX8_workFor_198 (Nat.le_of_ble_eq_true rfl) rfl rfl ?_
            refine mG_iincN dX8_workFor_199 rfl (Nat.le_of_ble_eq_true rfl) rfl rfl ?_
            refine mG_goto dX8_workFor_202 ?_
            first
              | rw [if_pos c125] at hR
              | rw [if_neg (Nat.not_lt.mpr c125)] at hR
            first
              | (rw [Nat.min_eq_left c189] at hR; exact ih (i + 1) _ _ _ (by omega) hbe hR)
              | (rw [Nat.min_eq_right (Nat.le_of_lt c189)] at hR; exact ih (i + 1) _ _ _ (by omega) (by omega) hR)
        · refine mG_iload dX8_workFor_128 rfl ?_
          refine mG_aload_n dX8_workFor_130 rfl ?_
          refine mG_aload_n dX8_workFor_131 rfl ?_
          refine mG_get fX8_48 dX8_workFor_132 e40 (Nat.le_of_ble_eq_true rfl) rfl ?_
          refine mG_iload dX8_workFor_135 rfl ?_
          refine mG_ialdA dX8_workFor_137 e53 (Nat.le_of_ble_eq_true rfl) (by decide) (Nat.lt_of_lt_of_le hj ho.1) ?_
          refine mG_aload_n dX8_workFor_138 rfl ?_
          refine mG_get fX8_48 dX8_workFor_139 e40 (Nat.le_of_ble_eq_true rfl) rfl ?_
          refine mG_iload dX8_workFor_142 rfl ?_
          refine mG_ialdA dX8_workFor_144 e53 (Nat.le_of_ble_eq_true rfl) (by decide) (Nat.lt_of_lt_of_le him ho.1) ?_
          refine mG_cv2 vX8_196 dX8_workFor_145 (mLe_of rfl) (Nat.le_of_ble_eq_true rfl) e40 (Nat.le_of_ble_eq_true rfl) (ok_X8_changesTo e40 e42 hcb o3 o2) ?_
          refine mG_iaddN dX8_workFor_148 ?_
          refine mG_goto dX8_workFor_149 ?_
          refine mG_istore dX8_workFor_154 (Nat.le_of_ble_eq_true rfl) rfl rfl ?_
          refine mG_iload dX8_workFor_156 rfl ?_
          refine mG_aload_n dX8_workFor_158 rfl ?_
          refine mG_aload_n dX8_workFor_159 rfl ?_
          refine mG_get fX8_48 dX8_workFor_160 e40 (Nat.le_of_ble_eq_true rfl) rfl ?_
          refine mG_iload dX8_workFor_163 rfl ?_
          refine mG_ialdA dX8_workFor_165 e53 (Nat.le_of_ble_eq_true rfl) (by decide) (Nat.lt_of_lt_of_le hi ho.1) ?_
          refine mG_aload_n dX8_workFor_166 rfl ?_
          refine mG_get fX8_48 dX8_workFor_167 e40 (Nat.le_of_ble_eq_true rfl) rfl ?_
          refine mG_iload dX8_workFor_170 rfl ?_
          refine mG_ialdA dX8_workFor_172 e53 (Nat.le_of_ble_eq_true rfl) (by decide) (Nat.lt_of_lt_of_le hj ho.1) ?_
          refine mG_aload_n dX8_workFor_173 rfl ?_
          refine mG_get fX8_48 dX8_workFor_174 e40 (Nat.le_of_ble_eq_true rfl) rfl ?_
          refine mG_iload dX8_workFor_177 rfl ?_
          refine mG_ialdA dX8_workFor_179 e53 (Nat.le_of_ble_eq_true rfl) (by decide) (Nat.lt_of_lt_of_le him ho.1) ?_
          refine mG_cv3 vX8_199 dX8_workFor_180 (mLe_of rfl) (Nat.le_of_ble_eq_true rfl) e40 (Nat.le_of_ble_eq_true rfl) (ok_X8_workBy e40 e42 hcb e52 o1 o2 o3) ?_
          refine mG_iaddN dX8_workFor_183 ?_
          refine mG_istore dX8_workFor_184 (Nat.le_of_ble_eq_true rfl) rfl rfl ?_
          refine mG_iload dX8_workFor_186 rfl ?_
          refine mG_iload_n dX8_workFor_188 rfl ?_
          refine mG_icmp_geN dX8_workFor_189 (by omega) (by omega) (fun c189 => ?_) (fun c189 => ?_)
          · refine mG_iload_n dX8_workFor_197 rfl ?_
            refine mG_istore_n dX8_workFor_198 (Nat.le_of_ble_eq_true rfl) rfl rfl ?_
            refine mG_iincN dX8_workFor_199 rfl (Nat.le_of_ble_eq_true rfl) rfl rfl ?_
            refine mG_goto dX8_workFor_202 ?_
            first
              | rw [if_pos c125] at hR
              | rw [if_neg (Nat.not_lt.mpr c125)] at hR
            first
              | (rw [Nat.min_eq_left c189] at hR; exact ih (i + 1) _ _ _ (by omega) hbe hR)
              | (rw [Nat.min_eq_right (Nat.le_of_lt c189)] at hR; exact ih (i + 1) _ _ _ (by omega) (by omega) hR)
          · refine mG_iload dX8_workFor_192 rfl ?_
            refine mG_goto dX8_workFor_194 ?_
            refine mG_istore_n dX8_workFor_198 (Nat.le_of_ble_eq_true rfl) rfl rfl ?_
            refine mG_iincN dX8_workFor_199 rfl (Nat.le_of_ble_eq_true rfl) rfl rfl ?_
            refine mG_goto dX8_workFor_202 ?_
            first
              | rw [if_pos c125] at hR
              | rw [if_neg (Nat.not_lt.mpr c125)] at hR
            first
              | (rw [Nat.min_eq_left c189] at hR; exact ih (i + 1) _ _ _ (by omega) hbe hR)
              | (rw [Nat.min_eq_right (Nat.le_of_lt c189)] at hR; exact ih (i + 1) _ _ _ (by omega) (by omega) hR)
set_option maxRecDepth 100000 in
set_option maxHeartbeats 4000000 in
theorem lp_X8_w2 {E : mE} {h : mH} {K : mKt} {ty a sd so va it mo fa : Nat} {wr : Bool} {tr : Int64} {i1 one B R : Nat} {fm my st : Nat} {cb ls od : Nat → Nat} (e40 : h 40 = oMo ty a sd so va wr it mo fa tr) (e42 : h 42 = mAr 2 cb) (hcb : cb 0 ≤ 4) (e52 : h 52 = mAr 256 ls) (e53 : h 53 = mAr 24 od) (ho : oOK (cb 0) mo od) (hls : lsOK (cb 0) ls) (hmy : my < 4) (hst : st < 256) (hi : i1 < mo) (h1 : one ≤ 100) (hB : B = if 1 < my then mo else 1) (hK : ∀ x y z u v, mG E (mR 4, zX8_workFor) K 211 [some (.ref 40), some (vN fm), some (vN my), some (vN R), some (vN st), some (vN i1), some (vN one), x, y, z, u, v] [] (mN, 0, 0) h) : ∀ (k i best : Nat) (y z u v : Option Value), i + k = B → best ≤ 100000 → R = iterF (w2S ls (cb 0) mo my od i1 one) i k best → mG E (mR 4, zX8_workFor) K 45 [some (.ref 40), some (vN fm), some (vN my), some (vN best), some (vN st), some (vN i1), some (vN one), some (vN i), y, z, u, v] [] (mN, 0, 0) h := by
  intro k
  induction k with
  | zero =>
    intro i best y z u v hk hbe hR
    refine mG_iload dX8_workFor_45 rfl ?_
    refine mG_iload_n dX8_workFor_47 rfl ?_
    refine mG_iconst (v := nI 1) dX8_workFor_48 (by decide) ?_
    have hmo := ho.1
    have hBl : B ≤ 24 := by rw [hB]; split <;> omega
    refine mG_icmp_leN dX8_workFor_49 (by omega) (by omega) (fun c49 => ?_) (fun c49 => ?_)
    · refine mG_iconst (v := nI 1) dX8_workFor_59 (by decide) ?_
      refine mG_icmp_geN dX8_workFor_60 (by omega) (by omega) (fun c60 => ?_) (fun c60 => absurd c60 (by first | (rw [if_pos c49] at hB; omega) | (rw [if_neg (Nat.not_lt.mpr c49)] at hB; omega)))
      subst hR
      exact hK _ _ _ _ _
    · refine mG_aload_n dX8_workFor_52 rfl ?_
      refine mG_get fX8_130 dX8_workFor_53 e40 (Nat.le_of_ble_eq_true rfl) rfl ?_
      refine mG_goto dX8_workFor_56 ?_
      refine mG_icmp_geN dX8_workFor_60 (by omega) (by omega) (fun c60 => ?_) (fun c60 => absurd c60 (by first | (rw [if_pos c49] at hB; omega) | (rw [if_neg (Nat.not_lt.mpr c49)] at hB; omega)))
      subst hR
      exact hK _ _ _ _ _
  | succ k ih =>
    intro i best y z u v hk hbe hR
    refine mG_iload dX8_workFor_45 rfl ?_
    refine mG_iload_n dX8_workFor_47 rfl ?_
    refine mG_iconst (v := nI 1) dX8_workFor_48 (by decide) ?_
    have hmo := ho.1
    have hBl : B ≤ 24 := by rw [hB]; split <;> omega
    refine mG_icmp_leN dX8_workFor_49 (by omega) (by omega) (fun c49 => ?_) (fun c49 => ?_)
    · refine mG_iconst (v := nI 1) dX8_workFor_59 (by decide) ?_
      refine mG_icmp_geN dX8_workFor_60 (by omega) (by omega) (fun c60 => absurd c60 (by first | (rw [if_pos c49] at hB; omega) | (rw [if_neg (Nat.not_lt.mpr c49)] at hB; omega))) (fun c60 => ?_)
      have him : i < mo := by first | (rw [if_pos c49] at hB; omega) | (rw [if_neg (Nat.not_lt.mpr c49)] at hB; omega)
      have o1 := ho.2.1 i1 hi
      have o2 := ho.2.1 i him
      have hcg := cgF_le (cb 0) (od i1) (od i)
      rw [iterF_s, w2S] at hR
      refine mG_iload_n dX8_workFor_63 rfl ?_
      refine mG_iconst (v := nI 1) dX8_workFor_64 (by decide) ?_
      refine mG_icmp_leN dX8_workFor_65 (by omega) (by omega) (fun c65 => ?_) (fun c65 => ?_)
      · refine mG_iload dX8_workFor_92 rfl ?_
        refine mG_istore dX8_workFor_94 (Nat.le_of_ble_eq_true rfl) rfl rfl ?_
        refine mG_iconst (v := nI 0) dX8_workFor_96 (by decide) ?_
        refine mG_istore dX8_workFor_97 (Nat.le_of_ble_eq_true rfl) rfl rfl ?_
        first
          | rw [if_pos c65] at hR
          | rw [if_neg (Nat.not_lt.mpr c65)] at hR
        refine lp_X8_w3 (B := if 2 < my then mo else 1) e40 e42 hcb e52 e53 ho hls hmy hst hi him (by omega) rfl (fun x y z => ?_) (if 2 < my then mo else 1) 0 best _ _ (Nat.zero_add _) hbe rfl
        refine mG_iincN dX8_workFor_205 rfl (Nat.le_of_ble_eq_true rfl) rfl rfl ?_
        refine mG_goto dX8_workFor_208 ?_
        exact ih (i + 1) _ _ _ _ _ (by omega) (iterF_le w3S_le _ _ _ hbe) hR
      · refine mG_iload dX8_workFor_68 rfl ?_
        refine mG_aload_n dX8_workFor_70 rfl ?_
        refine mG_aload_n dX8_workFor_71 rfl ?_
        refine mG_get fX8_48 dX8_workFor_72 e40 (Nat.le_of_ble_eq_true rfl) rfl ?_
        refine mG_iload dX8_workFor_75 rfl ?_
        refine mG_ialdA dX8_workFor_77 e53 (Nat.le_of_ble_eq_true rfl) (by decide) (Nat.lt_of_lt_of_le hi ho.1) ?_
        refine mG_aload_n dX8_workFor_78 rfl ?_
        refine mG_get fX8_48 dX8_workFor_79 e40 (Nat.le_of_ble_eq_true rfl) rfl ?_
        refine mG_iload dX8_workFor_82 rfl ?_
        refine mG_ialdA dX8_workFor_84 e53 (Nat.le_of_ble_eq_true rfl) (by decide) (Nat.lt_of_lt_of_le him ho.1) ?_
        refine mG_cv2 vX8_196 dX8_workFor_85 (mLe_of rfl) (Nat.le_of_ble_eq_true rfl) e40 (Nat.le_of_ble_eq_true rfl) (ok_X8_changesTo e40 e42 hcb o2 o1) ?_
        refine mG_iaddN dX8_workFor_88 ?_
        refine mG_goto dX8_workFor_89 ?_
        refine mG_istore dX8_workFor_94 (Nat.le_of_ble_eq_true rfl) rfl rfl ?_
        refine mG_iconst (v := nI 0) dX8_workFor_96 (by decide) ?_
        refine mG_istore dX8_workFor_97 (Nat.le_of_ble_eq_true rfl) rfl rfl ?_
        first
          | rw [if_pos c65] at hR
          | rw [if_neg (Nat.not_lt.mpr c65)] at hR
        refine lp_X8_w3 (B := if 2 < my then mo else 1) e40 e42 hcb e52 e53 ho hls hmy hst hi him (by omega) rfl (fun x y z => ?_) (if 2 < my then mo else 1) 0 best _ _ (Nat.zero_add _) hbe rfl
        refine mG_iincN dX8_workFor_205 rfl (Nat.le_of_ble_eq_true rfl) rfl rfl ?_
        refine mG_goto dX8_workFor_208 ?_
        exact ih (i + 1) _ _ _ _ _ (by omega) (iterF_le w3S_le _ _ _ hbe) hR
    · refine mG_aload_n dX8_workFor_52 rfl ?_
      refine mG_get fX8_130 dX8_workFor_53 e40 (Nat.le_of_ble_eq_true rfl) rfl ?_
      refine mG_goto dX8_workFor_56 ?_
      refine mG_icmp_geN dX8_workFor_60 (by omega) (by omega) (fun c60 => absurd c60 (by first | (rw [if_pos c49] at hB; omega) | (rw [if_neg (Nat.not_lt.mpr c49)] at hB; omega))) (fun c60 => ?_)
      have him : i < mo := by first | (rw [if_pos c49] at hB; omega) | (rw [if_neg (Nat.not_lt.mpr c49)] at hB; omega)
      have o1 := ho.2.1 i1 hi
      have o2 := ho.2.1 i him
      have hcg := cgF_le (cb 0) (od i1) (od i)
      rw [iterF_s, w2S] at hR
      refine mG_iload_n dX8_workFor_63 rfl ?_
      refine mG_iconst (v := nI 1) dX8_workFor_64 (by decide) ?_
      refine mG_icmp_leN dX8_workFor_65 (by omega) (by omega) (fun c65 => ?_) (fun c65 => ?_)
      · refine mG_iload dX8_workFor_92 rfl ?_
        refine mG_istore dX8_workFor_94 (Nat.le_of_ble_eq_true rfl) rfl rfl ?_
        refine mG_iconst (v := nI 0) dX8_workFor_96 (by decide) ?_
        refine mG_istore dX8_workFor_97 (Nat.le_of_ble_eq_true rfl) rfl rfl ?_
        first
          | rw [if_pos c65] at hR
          | rw [if_neg (Nat.not_lt.mpr c65)] at hR
        refine lp_X8_w3 (B := if 2 < my then mo else 1) e40 e42 hcb e52 e53 ho hls hmy hst hi him (by omega) rfl (fun x y z => ?_) (if 2 < my then mo else 1) 0 best _ _ (Nat.zero_add _) hbe rfl
        refine mG_iincN dX8_workFor_205 rfl (Nat.le_of_ble_eq_true rfl) rfl rfl ?_
        refine mG_goto dX8_workFor_208 ?_
        exact ih (i + 1) _ _ _ _ _ (by omega) (iterF_le w3S_le _ _ _ hbe) hR
      · refine mG_iload dX8_workFor_68 rfl ?_
        refine mG_aload_n dX8_workFor_70 rfl ?_
        refine mG_aload_n dX8_workFor_71 rfl ?_
        refine mG_get fX8_48 dX8_workFor_72 e40 (Nat.le_of_ble_eq_true rfl) rfl ?_
        refine mG_iload dX8_workFor_75 rfl ?_
        refine mG_ialdA dX8_workFor_77 e53 (Nat.le_of_ble_eq_true rfl) (by decide) (Nat.lt_of_lt_of_le hi ho.1) ?_
        refine mG_aload_n dX8_workFor_78 rfl ?_
        refine mG_get fX8_48 dX8_workFor_79 e40 (Nat.le_of_ble_eq_true rfl) rfl ?_
        refine mG_iload dX8_workFor_82 rfl ?_
        refine mG_ialdA dX8_workFor_84 e53 (Nat.le_of_ble_eq_true rfl) (by decide) (Nat.lt_of_lt_of_le him ho.1) ?_
        refine mG_cv2 vX8_196 dX8_workFor_85 (mLe_of rfl) (Nat.le_of_ble_eq_true rfl) e40 (Nat.le_of_ble_eq_true rfl) (ok_X8_changesTo e40 e42 hcb o2 o1) ?_
        refine mG_iaddN dX8_workFor_88 ?_
        refine mG_goto dX8_workFor_89 ?_
        refine mG_istore dX8_workFor_94 (Nat.le_of_ble_eq_true rfl) rfl rfl ?_
        refine mG_iconst (v := nI 0) dX8_workFor_96 (by decide) ?_
        refine mG_istore dX8_workFor_97 (Nat.le_of_ble_eq_true rfl) rfl rfl ?_
        first
          | rw [if_pos c65] at hR
          | rw [if_neg (Nat.not_lt.mpr c65)] at hR
        refine lp_X8_w3 (B := if 2 < my then mo else 1) e40 e42 hcb e52 e53 ho hls hmy hst hi him (by omega) rfl (fun x y z => ?_) (if 2 < my then mo else 1) 0 best _ _ (Nat.zero_add _) hbe rfl
        refine mG_iincN dX8_workFor_205 rfl (Nat.le_of_ble_eq_true rfl) rfl rfl ?_
        refine mG_goto dX8_workFor_208 ?_
        exact ih (i + 1) _ _ _ _ _ (by omega) (iterF_le w3S_le _ _ _ hbe) hR
set_option maxRecDepth 100000 in
set_option maxHeartbeats 4000000 in
theorem lp_X8_w1 {E : mE} {h : mH} {ty a sd so va it mo fa : Nat} {wr : Bool} {tr : Int64} {R : Nat} {fm my st : Nat} {cb ls od : Nat → Nat} (e40 : h 40 = oMo ty a sd so va wr it mo fa tr) (e42 : h 42 = mAr 2 cb) (hcb : cb 0 ≤ 4) (e52 : h 52 = mAr 256 ls) (e53 : h 53 = mAr 24 od) (ho : oOK (cb 0) mo od) (hls : lsOK (cb 0) ls) (hmy : my < 4) (hst : st < 256)  : ∀ (k i best : Nat) (x y z u v w : Option Value), i + k = mo → best ≤ 100000 → R = iterF (w1S ls (cb 0) mo my st od) i k best → mG E (mR 4, zX8_workFor) (mKq E (mR 4) mN (mX (some (.int (if R < 100000 then nI R else -9))) h)) 18 [some (.ref 40), some (vN fm), some (vN my), some (vN best), some (vN st), some (vN i), x, y, z, u, v, w] [] (mN, 0, 0) h := by
  intro k
  induction k with
  | zero =>
    intro i best x y z u v w hk hbe hR
    refine mG_iload dX8_workFor_18 rfl ?_
    refine mG_aload_n dX8_workFor_20 rfl ?_
    refine mG_get fX8_130 dX8_workFor_21 e40 (Nat.le_of_ble_eq_true rfl) rfl ?_
    have hmo := ho.1
    refine mG_icmp_geN dX8_workFor_24 (by omega) (by omega) (fun c24 => ?_) (fun c24 => absurd c24 (by omega))
    have hRb : best = R := hR.symm
    subst hRb
    refine mG_iload_n dX8_workFor_217 rfl ?_
    refine mG_ldc dX8_workFor_218 kX8_175 ?_
    refine mG_icmp_ltN dX8_workFor_220 (by omega) (by decide) (fun c220 => ?_) (fun c220 => ?_)
    · rw [if_pos c220]
      refine mG_iload_n dX8_workFor_228 rfl ?_
      exact mG_iret dX8_workFor_229 rfl (mX_of rfl rfl)
    · rw [if_neg (Nat.not_lt.mpr c220)]
      refine mG_bipush (v := (-9)) dX8_workFor_223 (by decide) ?_
      refine mG_goto dX8_workFor_225 ?_
      exact mG_iret dX8_workFor_229 rfl (mX_of rfl rfl)
  | succ k ih =>
    intro i best x y z u v w hk hbe hR
    refine mG_iload dX8_workFor_18 rfl ?_
    refine mG_aload_n dX8_workFor_20 rfl ?_
    refine mG_get fX8_130 dX8_workFor_21 e40 (Nat.le_of_ble_eq_true rfl) rfl ?_
    have hmo := ho.1
    refine mG_icmp_geN dX8_workFor_24 (by omega) (by omega) (fun c24 => absurd c24 (by omega)) (fun c24 => ?_)
    have o1 := ho.2.1 i c24
    have hcg := cgF_le (cb 0) st (od i)
    rw [iterF_s, w1S] at hR
    refine mG_aload_n dX8_workFor_27 rfl ?_
    refine mG_iload dX8_workFor_28 rfl ?_
    refine mG_aload_n dX8_workFor_30 rfl ?_
    refine mG_get fX8_48 dX8_workFor_31 e40 (Nat.le_of_ble_eq_true rfl) rfl ?_
    refine mG_iload dX8_workFor_34 rfl ?_
    refine mG_ialdA dX8_workFor_36 e53 (Nat.le_of_ble_eq_true rfl) (by decide) (by omega) ?_
    refine mG_cv2 vX8_196 dX8_workFor_37 (mLe_of rfl) (Nat.le_of_ble_eq_true rfl) e40 (Nat.le_of_ble_eq_true rfl) (ok_X8_changesTo e40 e42 hcb o1 hst) ?_
    refine mG_istore dX8_workFor_40 (Nat.le_of_ble_eq_true rfl) rfl rfl ?_
    refine mG_iconst (v := nI 0) dX8_workFor_42 (by decide) ?_
    refine mG_istore dX8_workFor_43 (Nat.le_of_ble_eq_true rfl) rfl rfl ?_
    refine lp_X8_w2 (B := if 1 < my then mo else 1) e40 e42 hcb e52 e53 ho hls hmy hst c24 (by omega) rfl (fun x y z u v => ?_) (if 1 < my then mo else 1) 0 best _ _ _ _ (Nat.zero_add _) hbe rfl
    refine mG_iincN dX8_workFor_211 rfl (Nat.le_of_ble_eq_true rfl) rfl rfl ?_
    refine mG_goto dX8_workFor_214 ?_
    exact ih (i + 1) _ _ _ _ _ _ _ (by omega) (iterF_le w2S_le _ _ _ hbe) hR
theorem onF_lt {g : Nat → Nat} : ∀ n, n ≤ 4 → (∀ j, j < 4 → g j < 4) → onF g n < 256 := by
  intro n
  induction n with
  | zero => intro _ _; exact (by decide : (0 : Nat) < 256)
  | succ n ih =>
    intro hn hg
    exact or_lt (k := 8) (ih (by omega) hg) (shl3 (hg n (by omega)) (by omega))
set_option maxRecDepth 100000 in
set_option maxHeartbeats 4000000 in
theorem ok_X8_workFor {E : mE} {h : mH} {ty a sd so va it mo fa : Nat} {wr : Bool} {tr : Int64} {fm my : Nat} {bb cb ls nw od : Nat → Nat} (e40 : h 40 = oMo ty a sd so va wr it mo fa tr) (e42 : h 42 = mAr 2 cb) (hcb : cb 0 ≤ 4) (e44 : h 44 = mAr 2 bb) (hbb : bb 0 ≤ 1) (e47 : h 47 = mAr 33 nw) (e52 : h 52 = mAr 256 ls) (e53 : h 53 = mAr 24 od) (ho : oOK (cb 0) mo od) (hfm : fm < 100000) (hmy : my < 4) (hnf : ∀ j, j < cb 0 * 6 → nw j < 10) (hca : ∀ j, j < 4 → nw (24 + j) < 4) (hfr : ∀ j, j < 4 → nw (28 + j) < 6) : mOk E 4 zX8_workFor [.ref 40, vN fm, vN my] h (mX (some (.int (wfR (tt0 (ttT nw (decide (bb 0 = 1)) (cb 0) fm my) (cb 0) ls) (cb 0) mo my (onF (fun p => nw (24 + p)) (cb 0)) od))) (mU h 52 (mAr 256 (tt0 (ttT nw (decide (bb 0 = 1)) (cb 0) fm my) (cb 0) ls)))) := by
  refine mOk_w (L := [some (.ref 40), some (vN fm), some (vN my), none, none, none, none, none, none, none, none, none]) pn_X8 rfl (Nat.le_of_ble_eq_true rfl) rfl ?_
  refine mG_aload_n dX8_workFor_0 rfl ?_
  refine mG_iload_n dX8_workFor_1 rfl ?_
  refine mG_iload_n dX8_workFor_2 rfl ?_
  refine mG_cw2 vX8_189 dX8_workFor_3 (mLe_of rfl) (Nat.le_of_ble_eq_true rfl) e40 (Nat.le_of_ble_eq_true rfl) (ok_X8_tellTurns e40 e42 hcb e44 hbb e47 hfm hmy hnf hfr e52) ?_
  refine mG_ldc dX8_workFor_6 kX8_175 ?_
  refine mG_istore_n dX8_workFor_8 (Nat.le_of_ble_eq_true rfl) rfl rfl ?_
  refine mG_aload_n dX8_workFor_9 rfl ?_
  refine mG_cv0 vX8_193 dX8_workFor_10 (mLe_of rfl) (Nat.le_of_ble_eq_true rfl) e40 (Nat.le_of_ble_eq_true rfl) (ok_X8_orderNow e40 e42 hcb e47 hca) ?_
  refine mG_istore dX8_workFor_13 (Nat.le_of_ble_eq_true rfl) rfl rfl ?_
  refine mG_iconst (v := nI 0) dX8_workFor_15 (by decide) ?_
  refine mG_istore dX8_workFor_16 (Nat.le_of_ble_eq_true rfl) rfl rfl ?_
  have hlo : lsOK (cb 0) (tt0 (ttT nw (decide (bb 0 = 1)) (cb 0) fm my) (cb 0) ls) := fun c p q r h1 h2 h3 h4 => by rw [tt0_at _ hcb _ c p q r h1 h2 h3 h4]; exact tfR_le _ _ _ _ _ _ _
  exact lp_X8_w1 (h := mU h 52 (mAr 256 (tt0 (ttT nw (decide (bb 0 = 1)) (cb 0) fm my) (cb 0) ls))) e40 e42 hcb rfl e53 ho hlo hmy (onF_lt (cb 0) hcb hca) mo 0 100000 _ _ _ _ _ _ (Nat.zero_add _) (Nat.le_refl _) rfl
def toS (cu o : Nat) (x : Nat × (Nat → Nat)) : Nat × (Nat → Nat) := if isOrd cu o = true then (x.1 + 1, mUp x.2 x.1 o) else x
def toR (cu : Nat) (od : Nat → Nat) : Nat × (Nat → Nat) := iterF (toS cu) 0 (1 <<< (2 * cu)) (0, od)
def cnO (cu : Nat) : Nat → Nat
  | 0 => 0
  | o + 1 => if isOrd cu o = true then cnO cu o + 1 else cnO cu o
theorem cnO_mono {cu : Nat} : ∀ k o, cnO cu o ≤ cnO cu (o + k) := by
  intro k
  induction k with
  | zero => intro o; exact Nat.le_refl _
  | succ k ih =>
    intro o
    refine Nat.le_trans (ih o) ?_
    show cnO cu (o + k) ≤ if isOrd cu (o + k) = true then cnO cu (o + k) + 1 else cnO cu (o + k)
    split <;> omega
theorem cnO_24 {cu : Nat} (h : cu ≤ 4) : cnO cu (1 <<< (2 * cu)) ≤ 24 := by
  have key : ∀ x : Fin 5, cnO x.val (1 <<< (2 * x.val)) ≤ 24 := by decide +kernel
  exact key ⟨cu, by omega⟩
theorem cnO_s {cu o : Nat} : cnO cu (o + 1) = if isOrd cu o = true then cnO cu o + 1 else cnO cu o := rfl
set_option maxRecDepth 100000 in
set_option maxHeartbeats 4000000 in
theorem lp_X8_tellOrders {E : mE} {h : mH} {ty a sd so va it fa : Nat} {wr : Bool} {tr : Int64} {cb : Nat → Nat} {R : Nat × (Nat → Nat)} (e42 : h 42 = mAr 2 cb) (hcb : cb 0 ≤ 4)  : ∀ (k i : Nat) (x : Nat × (Nat → Nat)), i + k = 1 <<< (2 * cb 0) → x.1 = cnO (cb 0) i → R = iterF (toS (cb 0)) i k x → mG E (mR 3, zX8_tellOrders) (mKq E (mR 3) mN (mX none (mU (mU h 40 (oMo ty a sd so va wr it R.1 fa tr)) 53 (mAr 24 R.2)))) 7 [some (.ref 40), some (vN i)] [] (mN, 0, 0) (mU (mU h 40 (oMo ty a sd so va wr it x.1 fa tr)) 53 (mAr 24 x.2)) := by
  intro k
  induction k with
  | zero =>
    intro i x hk hx hR
    refine mG_iload_n dX8_tellOrders_7 rfl ?_
    refine mG_aload_n dX8_tellOrders_8 rfl ?_
    refine mG_cv0 vX8_180 dX8_tellOrders_9 (mLe_of rfl) (Nat.le_of_ble_eq_true rfl) rfl (Nat.le_of_ble_eq_true rfl) (ok_X8_codes rfl e42 hcb) ?_
    have hs2 := shl2 hcb
    refine mG_icmp_geN dX8_tellOrders_12 (by omega) (by omega) (fun c12 => ?_) (fun c12 => absurd c12 (by omega))
    exact mG_vret dX8_tellOrders_49 rfl (mX_of rfl (by subst hR; rfl))
  | succ k ih =>
    intro i x hk hx hR
    refine mG_iload_n dX8_tellOrders_7 rfl ?_
    refine mG_aload_n dX8_tellOrders_8 rfl ?_
    refine mG_cv0 vX8_180 dX8_tellOrders_9 (mLe_of rfl) (Nat.le_of_ble_eq_true rfl) rfl (Nat.le_of_ble_eq_true rfl) (ok_X8_codes rfl e42 hcb) ?_
    have hs2 := shl2 hcb
    have hm := cnO_mono (cu := cb 0) k (i + 1)
    rw [show i + 1 + k = 1 <<< (2 * cb 0) by omega] at hm
    have h24 := cnO_24 hcb
    refine mG_icmp_geN dX8_tellOrders_12 (by omega) (by omega) (fun c12 => absurd c12 (by omega)) (fun c12 => ?_)
    refine mG_aload_n dX8_tellOrders_15 rfl ?_
    refine mG_iload_n dX8_tellOrders_16 rfl ?_
    refine mG_cv1 vX8_183 dX8_tellOrders_17 (mLe_of rfl) (Nat.le_of_ble_eq_true rfl) rfl (Nat.le_of_ble_eq_true rfl) (ok_X8_isOrder rfl e42 hcb (by omega)) ?_
    refine mG_if_eqB dX8_tellOrders_20 (fun c20 => ?_) (fun c20 => ?_)
    · refine mG_iincN dX8_tellOrders_43 rfl (Nat.le_of_ble_eq_true rfl) rfl rfl ?_
      refine mG_goto dX8_tellOrders_46 ?_
      rw [iterF_s] at hR
      first
        | (rw [toS, if_pos c20] at hR
           refine mG_heap ?_ (ih (i + 1) (x.1 + 1, mUp x.2 x.1 i) (by omega) (by rw [cnO_s, if_pos c20, ← hx]) hR)
           rw [mU_same, mU_comm _ (show (53 : Nat) ≠ 40 by decide), mU_same]
           rfl)
        | (rw [toS, if_neg (by rw [c20]; exact Bool.noConfusion)] at hR
           exact ih (i + 1) x (by omega) (by rw [cnO_s, if_neg (by rw [c20]; exact Bool.noConfusion)]; exact hx) hR)
    · have hlt : x.1 < 24 := by rw [cnO_s, if_pos c20] at hm; omega
      refine mG_aload_n dX8_tellOrders_23 rfl ?_
      refine mG_get fX8_48 dX8_tellOrders_24 rfl (Nat.le_of_ble_eq_true rfl) rfl ?_
      refine mG_aload_n dX8_tellOrders_27 rfl ?_
      refine mG_get fX8_130 dX8_tellOrders_28 rfl (Nat.le_of_ble_eq_true rfl) rfl ?_
      refine mG_iload_n dX8_tellOrders_31 rfl ?_
      refine mG_iastA dX8_tellOrders_32 rfl (Nat.le_of_ble_eq_true rfl) (by decide) hlt ?_
      refine mG_aload_n dX8_tellOrders_33 rfl ?_
      refine mG_dup dX8_tellOrders_34 rfl ?_
      refine mG_get fX8_130 dX8_tellOrders_35 rfl (Nat.le_of_ble_eq_true rfl) rfl ?_
      refine mG_iconst (v := nI 1) dX8_tellOrders_38 (by decide) ?_
      refine mG_iaddN dX8_tellOrders_39 ?_
      refine mG_putI pX8_130 dX8_tellOrders_40 rfl (Nat.le_of_ble_eq_true rfl) (Nat.le_of_ble_eq_true rfl) ?_
      refine mG_iincN dX8_tellOrders_43 rfl (Nat.le_of_ble_eq_true rfl) rfl rfl ?_
      refine mG_goto dX8_tellOrders_46 ?_
      rw [iterF_s] at hR
      first
        | (rw [toS, if_pos c20] at hR
           refine mG_heap ?_ (ih (i + 1) (x.1 + 1, mUp x.2 x.1 i) (by omega) (by rw [cnO_s, if_pos c20, ← hx]) hR)
           rw [mU_same, mU_comm _ (show (53 : Nat) ≠ 40 by decide), mU_same]
           rfl)
        | (rw [toS, if_neg (by rw [c20]; exact Bool.noConfusion)] at hR
           exact ih (i + 1) x (by omega) (by rw [cnO_s, if_neg (by rw [c20]; exact Bool.noConfusion)]; exact hx) hR)
set_option maxRecDepth 100000 in
set_option maxHeartbeats 4000000 in
theorem ok_X8_tellOrders {E : mE} {h : mH} {ty a sd so va it mo fa : Nat} {wr : Bool} {tr : Int64} {cb od : Nat → Nat} (e40 : h 40 = oMo ty a sd so va wr it mo fa tr) (e42 : h 42 = mAr 2 cb) (hcb : cb 0 ≤ 4) (e53 : h 53 = mAr 24 od)  : mOk E 3 zX8_tellOrders [.ref 40] h (mX none (mU (mU h 40 (oMo ty a sd so va wr it (toR (cb 0) od).1 fa tr)) 53 (mAr 24 (toR (cb 0) od).2))) := by
  refine mOk_w (L := [some (.ref 40), none]) pn_X8 rfl (Nat.le_of_ble_eq_true rfl) rfl ?_
  refine mG_aload_n dX8_tellOrders_0 rfl ?_
  refine mG_iconst (v := nI 0) dX8_tellOrders_1 (by decide) ?_
  refine mG_putI pX8_130 dX8_tellOrders_2 e40 (Nat.le_of_ble_eq_true rfl) (Nat.le_of_ble_eq_true rfl) ?_
  refine mG_iconst (v := nI 0) dX8_tellOrders_5 (by decide) ?_
  refine mG_istore_n dX8_tellOrders_6 (Nat.le_of_ble_eq_true rfl) rfl rfl ?_
  have q := lp_X8_tellOrders (E := E) (h := h) (ty := ty) (a := a) (sd := sd) (so := so) (va := va) (it := it) (fa := fa) (wr := wr) (tr := tr) e42 hcb (R := toR (cb 0) od) (1 <<< (2 * cb 0)) 0 (0, od) (Nat.zero_add _) rfl rfl
  rw [mU_self (mU h 40 _) 53 _ (show mU h 40 _ 53 = mAr 24 od from e53)] at q
  exact q
