-- needs: 33 34 35 36
/-! the reference: turns, work -/
def t3S (nw : Nat → Nat) (bo : Bool) (c th w b d best : Nat) : Nat := if fit bo (nw (6 * c + d)) th = true then min best (w + tW b d) else best
def t2B (my best w : Nat) : Nat := if my = 2 then min best w else best
def t2S (nw : Nat → Nat) (bo : Bool) (c se th my v a b best : Nat) : Nat := if fit bo (nw (6 * c + b)) se = true then (if 2 < my then iterF (t3S nw bo c th (v + tW a b) b) 0 6 (t2B my best (v + tW a b)) else t2B my best (v + tW a b)) else best
def t1B (my best w : Nat) : Nat := if my = 1 then min best w else best
def t1S (nw : Nat → Nat) (bo : Bool) (c fi se th my a best : Nat) : Nat := if fit bo (nw (6 * c + a)) fi = true then (if 1 < my then iterF (t2S nw bo c se th my (tW (nw (28 + c)) a) a) 0 6 (t1B my best (tW (nw (28 + c)) a)) else t1B my best (tW (nw (28 + c)) a)) else best
def tfR (nw : Nat → Nat) (bo : Bool) (c fi se th my : Nat) : Nat := iterF (t1S nw bo c fi se th my) 0 6 100000
theorem iterF_s {σ : Type} (f : Nat → σ → σ) (i k : Nat) (x : σ) : iterF f i (k + 1) x = iterF f (i + 1) k (f i x) := rfl
theorem iterF_le {f : Nat → Nat → Nat} {m : Nat} (hf : ∀ i b, f i b ≤ b) : ∀ k i b, b ≤ m → iterF f i k b ≤ m := by
  intro k
  induction k with
  | zero => intro i b h; exact h
  | succ k ih => intro i b h; exact ih _ _ (Nat.le_trans (hf i b) h)
theorem t3S_le {nw : Nat → Nat} {bo : Bool} {c th w b : Nat} (d best : Nat) : t3S nw bo c th w b d best ≤ best := by unfold t3S; split <;> omega
theorem t2S_le {nw : Nat → Nat} {bo : Bool} {c se th my v a : Nat} (b best : Nat) : t2S nw bo c se th my v a b best ≤ best := by
  have h : ∀ w, t2B my best w ≤ best := by intro w; unfold t2B; split <;> omega
  unfold t2S
  split
  · split
    · exact iterF_le t3S_le _ _ _ (h _)
    · exact h _
  · exact Nat.le_refl _
theorem t1S_le {nw : Nat → Nat} {bo : Bool} {c fi se th my : Nat} (a best : Nat) : t1S nw bo c fi se th my a best ≤ best := by
  have h : ∀ w, t1B my best w ≤ best := by intro w; unfold t1B; split <;> omega
  unfold t1S
  split
  · split
    · exact iterF_le t2S_le _ _ _ (h _)
    · exact h _
  · exact Nat.le_refl _
theorem tfR_le (nw : Nat → Nat) (bo : Bool) (c fi se th my : Nat) : tfR nw bo c fi se th my ≤ 100000 := iterF_le t1S_le _ _ _ (Nat.le_refl _)
set_option maxRecDepth 100000 in
set_option maxHeartbeats 4000000 in
theorem lp_X8_t3 {E : mE} {h : mH} {K : mKt} {ty a sd so va it mo fa : Nat} {wr : Bool} {tr : Int64} {c fi se th my : Nat} {bb nw : Nat → Nat} {a1 v b w R : Nat} (e40 : h 40 = oMo ty a sd so va wr it mo fa tr) (e44 : h 44 = mAr 2 bb) (hbb : bb 0 ≤ 1) (e47 : h 47 = mAr 33 nw) (hc : c < 4) (hfi : fi < 10) (hse : se < 10) (hth : th < 10) (hmy : my < 4) (hfr : nw (28 + c) < 6) (hn : ∀ j, j < 6 → nw (6 * c + j) < 10) (h2 : 2 < my) (hb6 : b < 6) (hw : w ≤ 100) (hK : ∀ x y, mG E (mR 2, zX8_turnsFor) K 213 [some (.ref 40), some (vN c), some (vN fi), some (vN se), some (vN th), some (vN my), some (vN R), some (vN a1), some (vN v), some (vN b), some (vN w), x, y] [] (mN, 0, 0) h) : ∀ (k i best : Nat) (y : Option Value), i + k = 6 → best ≤ 100000 → R = iterF (t3S nw (decide (bb 0 = 1)) c th w b) i k best → mG E (mR 2, zX8_turnsFor) K 145 [some (.ref 40), some (vN c), some (vN fi), some (vN se), some (vN th), some (vN my), some (vN best), some (vN a1), some (vN v), some (vN b), some (vN w), some (vN i), y] [] (mN, 0, 0) h := by
  intro k
  induction k with
  | zero =>
    intro i best y hk hbe hR
    refine mG_iload dX8_turnsFor_145 rfl ?_
    refine mG_bipush (v := nI 6) dX8_turnsFor_147 (by decide) ?_
    refine mG_icmp_geN dX8_turnsFor_149 (by omega) (by omega) (fun c149 => ?_) (fun c149 => absurd c149 (by omega))
    subst hR
    exact hK _ _
  | succ k ih =>
    intro i best y hk hbe hR
    refine mG_iload dX8_turnsFor_145 rfl ?_
    refine mG_bipush (v := nI 6) dX8_turnsFor_147 (by decide) ?_
    refine mG_icmp_geN dX8_turnsFor_149 (by omega) (by omega) (fun c149 => absurd c149 (by omega)) (fun c149 => ?_)
    refine mG_iload dX8_turnsFor_152 rfl ?_
    refine mG_iconst (v := nI 2) dX8_turnsFor_154 (by decide) ?_
    refine mG_icmp_leN dX8_turnsFor_155 (by omega) (by omega) (fun c155 => absurd c155 (by omega)) (fun c155 => ?_)
    have hni := hn i (by omega)
    have htw := tW_le b i
    rw [iterF_s] at hR
    refine mG_aload_n dX8_turnsFor_158 rfl ?_
    refine mG_aload_n dX8_turnsFor_159 rfl ?_
    refine mG_get fX8_29 dX8_turnsFor_160 e40 (Nat.le_of_ble_eq_true rfl) rfl ?_
    refine mG_bipush (v := nI 6) dX8_turnsFor_163 (by decide) ?_
    refine mG_iload_n dX8_turnsFor_165 rfl ?_
    refine mG_imulN dX8_turnsFor_166 ?_
    refine mG_iload dX8_turnsFor_167 rfl ?_
    refine mG_iaddN dX8_turnsFor_169 ?_
    refine mG_ialdA dX8_turnsFor_170 e47 (Nat.le_of_ble_eq_true rfl) (by decide) (by omega) ?_
    refine mG_iload dX8_turnsFor_171 rfl ?_
    refine mG_cv2 vX8_123 dX8_turnsFor_173 (mLe_of rfl) (Nat.le_of_ble_eq_true rfl) e40 (Nat.le_of_ble_eq_true rfl) (ok_X8_fits e40 e44 hbb (by omega) (by omega)) ?_
    refine mG_if_eqB dX8_turnsFor_176 (fun c176 => ?_) (fun c176 => ?_)
    · refine mG_iincN dX8_turnsFor_207 rfl (Nat.le_of_ble_eq_true rfl) rfl rfl ?_
      refine mG_goto dX8_turnsFor_210 ?_
      first
        | (rw [t3S, if_pos c176, Nat.min_eq_left c195] at hR; exact ih (i + 1) _ _ (by omega) hbe hR)
        | (rw [t3S, if_pos c176, Nat.min_eq_right (Nat.le_of_lt c195)] at hR; exact ih (i + 1) _ _ (by omega) (by omega) hR)
        | (rw [t3S, if_neg (by rw [c176]; exact Bool.noConfusion)] at hR; exact ih (i + 1) _ _ (by omega) hbe hR)
    · refine mG_iload dX8_turnsFor_179 rfl ?_
      refine mG_iload dX8_turnsFor_181 rfl ?_
      refine mG_iload dX8_turnsFor_183 rfl ?_
      refine mG_cs2 sX8_166 dX8_turnsFor_185 (mLe_of rfl) (Nat.le_of_ble_eq_true rfl) (ok_X8_turnsTo hb6 (by omega)) ?_
      refine mG_iaddN dX8_turnsFor_188 ?_
      refine mG_istore dX8_turnsFor_189 (Nat.le_of_ble_eq_true rfl) rfl rfl ?_
      refine mG_iload dX8_turnsFor_191 rfl ?_
      refine mG_iload dX8_turnsFor_193 rfl ?_
      refine mG_icmp_geN dX8_turnsFor_195 (by omega) (by omega) (fun c195 => ?_) (fun c195 => ?_)
      · refine mG_iload dX8_turnsFor_203 rfl ?_
        refine mG_istore dX8_turnsFor_205 (Nat.le_of_ble_eq_true rfl) rfl rfl ?_
        refine mG_iincN dX8_turnsFor_207 rfl (Nat.le_of_ble_eq_true rfl) rfl rfl ?_
        refine mG_goto dX8_turnsFor_210 ?_
        first
          | (rw [t3S, if_pos c176, Nat.min_eq_left c195] at hR; exact ih (i + 1) _ _ (by omega) hbe hR)
          | (rw [t3S, if_pos c176, Nat.min_eq_right (Nat.le_of_lt c195)] at hR; exact ih (i + 1) _ _ (by omega) (by omega) hR)
          | (rw [t3S, if_neg (by rw [c176]; exact Bool.noConfusion)] at hR; exact ih (i + 1) _ _ (by omega) hbe hR)
      · refine mG_iload dX8_turnsFor_198 rfl ?_
        refine mG_goto dX8_turnsFor_200 ?_
        refine mG_istore dX8_turnsFor_205 (Nat.le_of_ble_eq_true rfl) rfl rfl ?_
        refine mG_iincN dX8_turnsFor_207 rfl (Nat.le_of_ble_eq_true rfl) rfl rfl ?_
        refine mG_goto dX8_turnsFor_210 ?_
        first
          | (rw [t3S, if_pos c176, Nat.min_eq_left c195] at hR; exact ih (i + 1) _ _ (by omega) hbe hR)
          | (rw [t3S, if_pos c176, Nat.min_eq_right (Nat.le_of_lt c195)] at hR; exact ih (i + 1) _ _ (by omega) (by omega) hR)
          | (rw [t3S, if_neg (by rw [c176]; exact Bool.noConfusion)] at hR; exact ih (i + 1) _ _ (by omega) hbe hR)
set_option maxRecDepth 100000 in
set_option maxHeartbeats 4000000 in
theorem le_X8_t2 {E : mE} {h : mH} {K : mKt} {ty a sd so va it mo fa : Nat} {wr : Bool} {tr : Int64} {c fi se th my : Nat} {bb nw : Nat → Nat} {a1 v b w best R : Nat} {u : Option Value} (e40 : h 40 = oMo ty a sd so va wr it mo fa tr) (e44 : h 44 = mAr 2 bb) (hbb : bb 0 ≤ 1) (e47 : h 47 = mAr 33 nw) (hc : c < 4) (hfi : fi < 10) (hse : se < 10) (hth : th < 10) (hmy : my < 4) (hfr : nw (28 + c) < 6) (hn : ∀ j, j < 6 → nw (6 * c + j) < 10) (hb6 : b < 6) (hw : w ≤ 100) (hbe : best ≤ 100000) (hR : R = if 2 < my then iterF (t3S nw (decide (bb 0 = 1)) c th w b) 0 6 best else best) (hK : ∀ x y, mG E (mR 2, zX8_turnsFor) K 213 [some (.ref 40), some (vN c), some (vN fi), some (vN se), some (vN th), some (vN my), some (vN R), some (vN a1), some (vN v), some (vN b), some (vN w), x, y] [] (mN, 0, 0) h) : mG E (mR 2, zX8_turnsFor) K 145 [some (.ref 40), some (vN c), some (vN fi), some (vN se), some (vN th), some (vN my), some (vN best), some (vN a1), some (vN v), some (vN b), some (vN w), some (vN 0), u] [] (mN, 0, 0) h := by
  by_cases h2 : 2 < my
  · rw [if_pos h2] at hR
    exact lp_X8_t3 e40 e44 hbb e47 hc hfi hse hth hmy hfr hn h2 hb6 hw hK 6 0 best _ rfl hbe hR
  · rw [if_neg h2] at hR
    subst hR
    refine mG_iload dX8_turnsFor_145 rfl ?_
    refine mG_bipush (v := nI 6) dX8_turnsFor_147 (by decide) ?_
    refine mG_icmp_geN dX8_turnsFor_149 (by omega) (by omega) (fun c149 => absurd c149 (by omega)) (fun c149 => ?_)
    refine mG_iload dX8_turnsFor_152 rfl ?_
    refine mG_iconst (v := nI 2) dX8_turnsFor_154 (by decide) ?_
    refine mG_icmp_leN dX8_turnsFor_155 (by omega) (by omega) (fun c155 => ?_) (fun c155 => absurd c155 (by omega))
    exact hK _ _
set_option maxRecDepth 100000 in
set_option maxHeartbeats 4000000 in
theorem lp_X8_t2 {E : mE} {h : mH} {K : mKt} {ty a sd so va it mo fa : Nat} {wr : Bool} {tr : Int64} {c fi se th my : Nat} {bb nw : Nat → Nat} {a1 v R : Nat} (e40 : h 40 = oMo ty a sd so va wr it mo fa tr) (e44 : h 44 = mAr 2 bb) (hbb : bb 0 ≤ 1) (e47 : h 47 = mAr 33 nw) (hc : c < 4) (hfi : fi < 10) (hse : se < 10) (hth : th < 10) (hmy : my < 4) (hfr : nw (28 + c) < 6) (hn : ∀ j, j < 6 → nw (6 * c + j) < 10) (h1 : 1 < my) (ha6 : a1 < 6) (hv : v ≤ 10) (hK : ∀ x y z u, mG E (mR 2, zX8_turnsFor) K 219 [some (.ref 40), some (vN c), some (vN fi), some (vN se), some (vN th), some (vN my), some (vN R), some (vN a1), some (vN v), x, y, z, u] [] (mN, 0, 0) h) : ∀ (k i best : Nat) (y z u : Option Value), i + k = 6 → best ≤ 100000 → R = iterF (t2S nw (decide (bb 0 = 1)) c se th my v a1) i k best → mG E (mR 2, zX8_turnsFor) K 75 [some (.ref 40), some (vN c), some (vN fi), some (vN se), some (vN th), some (vN my), some (vN best), some (vN a1), some (vN v), some (vN i), y, z, u] [] (mN, 0, 0) h := by
  intro k
  induction k with
  | zero =>
    intro i best y z u hk hbe hR
    refine mG_iload dX8_turnsFor_75 rfl ?_
    refine mG_bipush (v := nI 6) dX8_turnsFor_77 (by decide) ?_
    refine mG_icmp_geN dX8_turnsFor_79 (by omega) (by omega) (fun c79 => ?_) (fun c79 => absurd c79 (by omega))
    subst hR
    exact hK _ _ _ _
  | succ k ih =>
    intro i best y z u hk hbe hR
    refine mG_iload dX8_turnsFor_75 rfl ?_
    refine mG_bipush (v := nI 6) dX8_turnsFor_77 (by decide) ?_
    refine mG_icmp_geN dX8_turnsFor_79 (by omega) (by omega) (fun c79 => absurd c79 (by omega)) (fun c79 => ?_)
    refine mG_iload dX8_turnsFor_82 rfl ?_
    refine mG_iconst (v := nI 1) dX8_turnsFor_84 (by decide) ?_
    refine mG_icmp_leN dX8_turnsFor_85 (by omega) (by omega) (fun c85 => absurd c85 (by omega)) (fun c85 => ?_)
    have hni := hn i (by omega)
    have htw := tW_le a1 i
    rw [iterF_s] at hR
    refine mG_aload_n dX8_turnsFor_88 rfl ?_
    refine mG_aload_n dX8_turnsFor_89 rfl ?_
    refine mG_get fX8_29 dX8_turnsFor_90 e40 (Nat.le_of_ble_eq_true rfl) rfl ?_
    refine mG_bipush (v := nI 6) dX8_turnsFor_93 (by decide) ?_
    refine mG_iload_n dX8_turnsFor_95 rfl ?_
    refine mG_imulN dX8_turnsFor_96 ?_
    refine mG_iload dX8_turnsFor_97 rfl ?_
    refine mG_iaddN dX8_turnsFor_99 ?_
    refine mG_ialdA dX8_turnsFor_100 e47 (Nat.le_of_ble_eq_true rfl) (by decide) (by omega) ?_
    refine mG_iload_n dX8_turnsFor_101 rfl ?_
    refine mG_cv2 vX8_123 dX8_turnsFor_102 (mLe_of rfl) (Nat.le_of_ble_eq_true rfl) e40 (Nat.le_of_ble_eq_true rfl) (ok_X8_fits e40 e44 hbb (by omega) (by omega)) ?_
    refine mG_if_eqB dX8_turnsFor_105 (fun c105 => ?_) (fun c105 => ?_)
    · refine mG_iincN dX8_turnsFor_213 rfl (Nat.le_of_ble_eq_true rfl) rfl rfl ?_
      refine mG_goto dX8_turnsFor_216 ?_
      rw [t2S, if_neg (by rw [c105]; exact Bool.noConfusion)] at hR
      exact ih (i + 1) _ _ _ _ (by omega) hbe hR
    · refine mG_iload dX8_turnsFor_108 rfl ?_
      refine mG_iload dX8_turnsFor_110 rfl ?_
      refine mG_iload dX8_turnsFor_112 rfl ?_
      refine mG_cs2 sX8_166 dX8_turnsFor_114 (mLe_of rfl) (Nat.le_of_ble_eq_true rfl) (ok_X8_turnsTo ha6 (by omega)) ?_
      refine mG_iaddN dX8_turnsFor_117 ?_
      refine mG_istore dX8_turnsFor_118 (Nat.le_of_ble_eq_true rfl) rfl rfl ?_
      refine mG_iload dX8_turnsFor_120 rfl ?_
      refine mG_iconst (v := nI 2) dX8_turnsFor_122 (by decide) ?_
      refine mG_icmp_neN dX8_turnsFor_123 (by omega) (by omega) (fun c123 => ?_) (fun c123 => ?_)
      · refine mG_iconst (v := nI 0) dX8_turnsFor_142 (by decide) ?_
        refine mG_istore dX8_turnsFor_143 (Nat.le_of_ble_eq_true rfl) rfl rfl ?_
        rw [t2S, if_pos c105] at hR
        first
          | rw [t2B, if_neg c123] at hR
          | rw [t2B, if_pos c123, Nat.min_eq_left c130] at hR
          | rw [t2B, if_pos c123, Nat.min_eq_right (Nat.le_of_lt c130)] at hR
        refine le_X8_t2 e40 e44 hbb e47 hc hfi hse hth hmy hfr hn (by omega) (by omega) (by omega) rfl (fun x y => ?_)
        refine mG_iincN dX8_turnsFor_213 rfl (Nat.le_of_ble_eq_true rfl) rfl rfl ?_
        refine mG_goto dX8_turnsFor_216 ?_
        refine ih (i + 1) _ _ _ _ (by omega) ?_ hR
        split
        · exact iterF_le t3S_le _ _ _ (by omega)
        · omega
      · refine mG_iload dX8_turnsFor_126 rfl ?_
        refine mG_iload dX8_turnsFor_128 rfl ?_
        refine mG_icmp_geN dX8_turnsFor_130 (by omega) (by omega) (fun c130 => ?_) (fun c130 => ?_)
        · refine mG_iload dX8_turnsFor_138 rfl ?_
          refine mG_istore dX8_turnsFor_140 (Nat.le_of_ble_eq_true rfl) rfl rfl ?_
          refine mG_iconst (v := nI 0) dX8_turnsFor_142 (by decide) ?_
          refine mG_istore dX8_turnsFor_143 (Nat.le_of_ble_eq_true rfl) rfl rfl ?_
          rw [t2S, if_pos c105] at hR
          first
            | rw [t2B, if_neg c123] at hR
            | rw [t2B, if_pos c123, Nat.min_eq_left c130] at hR
            | rw [t2B, if_pos c123, Nat.min_eq_right (Nat.le_of_lt c130)] at hR
          refine le_X8_t2 e40 e44 hbb e47 hc hfi hse hth hmy hfr hn (by omega) (by omega) (by omega) rfl (fun x y => ?_)
          refine mG_iincN dX8_turnsFor_213 rfl (Nat.le_of_ble_eq_true rfl) rfl rfl ?_
          refine mG_goto dX8_turnsFor_216 ?_
          refine ih (i + 1) _ _ _ _ (by omega) ?_ hR
          split
          · exact iterF_le t3S_le _ _ _ (by omega)
          · omega
        · refine mG_iload dX8_turnsFor_133 rfl ?_
          refine mG_goto dX8_turnsFor_135 ?_
          refine mG_istore dX8_turnsFor_140 (Nat.le_of_ble_eq_true rfl) rfl rfl ?_
          refine mG_iconst (v := nI 0) dX8_turnsFor_142 (by decide) ?_
          refine mG_istore dX8_turnsFor_143 (Nat.le_of_ble_eq_true rfl) rfl rfl ?_
          rw [t2S, if_pos c105] at hR
          first
            | rw [t2B, if_neg c123] at hR
            | rw [t2B, if_pos c123, Nat.min_eq_left c130] at hR
            | rw [t2B, if_pos c123, Nat.min_eq_right (Nat.le_of_lt c130)] at hR
          refine le_X8_t2 e40 e44 hbb e47 hc hfi hse hth hmy hfr hn (by omega) (by omega) (by omega) rfl (fun x y => ?_)
          refine mG_iincN dX8_turnsFor_213 rfl (Nat.le_of_ble_eq_true rfl) rfl rfl ?_
          refine mG_goto dX8_turnsFor_216 ?_
          refine ih (i + 1) _ _ _ _ (by omega) ?_ hR
          split
          · exact iterF_le t3S_le _ _ _ (by omega)
          · omega
set_option maxRecDepth 100000 in
set_option maxHeartbeats 4000000 in
theorem le_X8_t1 {E : mE} {h : mH} {K : mKt} {ty a sd so va it mo fa : Nat} {wr : Bool} {tr : Int64} {c fi se th my : Nat} {bb nw : Nat → Nat} {a1 v best R : Nat} {z u o : Option Value} (e40 : h 40 = oMo ty a sd so va wr it mo fa tr) (e44 : h 44 = mAr 2 bb) (hbb : bb 0 ≤ 1) (e47 : h 47 = mAr 33 nw) (hc : c < 4) (hfi : fi < 10) (hse : se < 10) (hth : th < 10) (hmy : my < 4) (hfr : nw (28 + c) < 6) (hn : ∀ j, j < 6 → nw (6 * c + j) < 10) (ha6 : a1 < 6) (hv : v ≤ 10) (hbe : best ≤ 100000) (hR : R = if 1 < my then iterF (t2S nw (decide (bb 0 = 1)) c se th my v a1) 0 6 best else best) (hK : ∀ x y z u, mG E (mR 2, zX8_turnsFor) K 219 [some (.ref 40), some (vN c), some (vN fi), some (vN se), some (vN th), some (vN my), some (vN R), some (vN a1), some (vN v), x, y, z, u] [] (mN, 0, 0) h) : mG E (mR 2, zX8_turnsFor) K 75 [some (.ref 40), some (vN c), some (vN fi), some (vN se), some (vN th), some (vN my), some (vN best), some (vN a1), some (vN v), some (vN 0), o, z, u] [] (mN, 0, 0) h := by
  by_cases h1 : 1 < my
  · rw [if_pos h1] at hR
    exact lp_X8_t2 e40 e44 hbb e47 hc hfi hse hth hmy hfr hn h1 ha6 hv hK 6 0 best _ _ _ rfl hbe hR
  · rw [if_neg h1] at hR
    subst hR
    refine mG_iload dX8_turnsFor_75 rfl ?_
    refine mG_bipush (v := nI 6) dX8_turnsFor_77 (by decide) ?_
    refine mG_icmp_geN dX8_turnsFor_79 (by omega) (by omega) (fun c79 => absurd c79 (by omega)) (fun c79 => ?_)
    refine mG_iload dX8_turnsFor_82 rfl ?_
    refine mG_iconst (v := nI 1) dX8_turnsFor_84 (by decide) ?_
    refine mG_icmp_leN dX8_turnsFor_85 (by omega) (by omega) (fun c85 => ?_) (fun c85 => absurd c85 (by omega))
    exact hK _ _ _ _
set_option maxRecDepth 100000 in
set_option maxHeartbeats 4000000 in
theorem lp_X8_t1 {E : mE} {h : mH} {ty a sd so va it mo fa : Nat} {wr : Bool} {tr : Int64} {c fi se th my : Nat} {bb nw : Nat → Nat} {R : Nat} (e40 : h 40 = oMo ty a sd so va wr it mo fa tr) (e44 : h 44 = mAr 2 bb) (hbb : bb 0 ≤ 1) (e47 : h 47 = mAr 33 nw) (hc : c < 4) (hfi : fi < 10) (hse : se < 10) (hth : th < 10) (hmy : my < 4) (hfr : nw (28 + c) < 6) (hn : ∀ j, j < 6 → nw (6 * c + j) < 10)  : ∀ (k i best : Nat) (o y z u w : Option Value), i + k = 6 → best ≤ 100000 → R = iterF (t1S nw (decide (bb 0 = 1)) c fi se th my) i k best → mG E (mR 2, zX8_turnsFor) (mKq E (mR 2) mN (mX (some (vN R)) h)) 7 [some (.ref 40), some (vN c), some (vN fi), some (vN se), some (vN th), some (vN my), some (vN best), some (vN i), o, y, z, u, w] [] (mN, 0, 0) h := by
  intro k
  induction k with
  | zero =>
    intro i best o y z u w hk hbe hR
    refine mG_iload dX8_turnsFor_7 rfl ?_
    refine mG_bipush (v := nI 6) dX8_turnsFor_9 (by decide) ?_
    refine mG_icmp_geN dX8_turnsFor_11 (by omega) (by omega) (fun c11 => ?_) (fun c11 => absurd c11 (by omega))
    refine mG_iload dX8_turnsFor_225 rfl ?_
    exact mG_iret dX8_turnsFor_227 rfl (mX_of (by subst hR; rfl) rfl)
  | succ k ih =>
    intro i best o y z u w hk hbe hR
    refine mG_iload dX8_turnsFor_7 rfl ?_
    refine mG_bipush (v := nI 6) dX8_turnsFor_9 (by decide) ?_
    refine mG_icmp_geN dX8_turnsFor_11 (by omega) (by omega) (fun c11 => absurd c11 (by omega)) (fun c11 => ?_)
    have hni := hn i (by omega)
    have htw := tW_le (nw (28 + c)) i
    rw [iterF_s] at hR
    refine mG_aload_n dX8_turnsFor_14 rfl ?_
    refine mG_aload_n dX8_turnsFor_15 rfl ?_
    refine mG_get fX8_29 dX8_turnsFor_16 e40 (Nat.le_of_ble_eq_true rfl) rfl ?_
    refine mG_bipush (v := nI 6) dX8_turnsFor_19 (by decide) ?_
    refine mG_iload_n dX8_turnsFor_21 rfl ?_
    refine mG_imulN dX8_turnsFor_22 ?_
    refine mG_iload dX8_turnsFor_23 rfl ?_
    refine mG_iaddN dX8_turnsFor_25 ?_
    refine mG_ialdA dX8_turnsFor_26 e47 (Nat.le_of_ble_eq_true rfl) (by decide) (by omega) ?_
    refine mG_iload_n dX8_turnsFor_27 rfl ?_
    refine mG_cv2 vX8_123 dX8_turnsFor_28 (mLe_of rfl) (Nat.le_of_ble_eq_true rfl) e40 (Nat.le_of_ble_eq_true rfl) (ok_X8_fits e40 e44 hbb (by omega) (by omega)) ?_
    refine mG_if_eqB dX8_turnsFor_31 (fun c31 => ?_) (fun c31 => ?_)
    · refine mG_iincN dX8_turnsFor_219 rfl (Nat.le_of_ble_eq_true rfl) rfl rfl ?_
      refine mG_goto dX8_turnsFor_222 ?_
      rw [t1S, if_neg (by rw [c31]; exact Bool.noConfusion)] at hR
      exact ih (i + 1) _ _ _ _ _ _ (by omega) hbe hR
    · refine mG_aload_n dX8_turnsFor_34 rfl ?_
      refine mG_get fX8_29 dX8_turnsFor_35 e40 (Nat.le_of_ble_eq_true rfl) rfl ?_
      refine mG_bipush (v := nI 28) dX8_turnsFor_38 (by decide) ?_
      refine mG_iload_n dX8_turnsFor_40 rfl ?_
      refine mG_iaddN dX8_turnsFor_41 ?_
      refine mG_ialdA dX8_turnsFor_42 e47 (Nat.le_of_ble_eq_true rfl) (by decide) (by omega) ?_
      refine mG_iload dX8_turnsFor_43 rfl ?_
      refine mG_cs2 sX8_166 dX8_turnsFor_45 (mLe_of rfl) (Nat.le_of_ble_eq_true rfl) (ok_X8_turnsTo hfr (by omega)) ?_
      refine mG_istore dX8_turnsFor_48 (Nat.le_of_ble_eq_true rfl) rfl rfl ?_
      refine mG_iload dX8_turnsFor_50 rfl ?_
      refine mG_iconst (v := nI 1) dX8_turnsFor_52 (by decide) ?_
      refine mG_icmp_neN dX8_turnsFor_53 (by omega) (by omega) (fun c53 => ?_) (fun c53 => ?_)
      · refine mG_iconst (v := nI 0) dX8_turnsFor_72 (by decide) ?_
        refine mG_istore dX8_turnsFor_73 (Nat.le_of_ble_eq_true rfl) rfl rfl ?_
        rw [t1S, if_pos c31] at hR
        first
          | rw [t1B, if_neg c53] at hR
          | rw [t1B, if_pos c53, Nat.min_eq_left c60] at hR
          | rw [t1B, if_pos c53, Nat.min_eq_right (Nat.le_of_lt c60)] at hR
        refine le_X8_t1 e40 e44 hbb e47 hc hfi hse hth hmy hfr hn (by omega) (by omega) (by omega) rfl (fun x y z u => ?_)
        refine mG_iincN dX8_turnsFor_219 rfl (Nat.le_of_ble_eq_true rfl) rfl rfl ?_
        refine mG_goto dX8_turnsFor_222 ?_
        refine ih (i + 1) _ _ _ _ _ _ (by omega) ?_ hR
        split
        · exact iterF_le t2S_le _ _ _ (by omega)
        · omega
      · refine mG_iload dX8_turnsFor_56 rfl ?_
        refine mG_iload dX8_turnsFor_58 rfl ?_
        refine mG_icmp_geN dX8_turnsFor_60 (by omega) (by omega) (fun c60 => ?_) (fun c60 => ?_)
        · refine mG_iload dX8_turnsFor_68 rfl ?_
          refine mG_istore dX8_turnsFor_70 (Nat.le_of_ble_eq_true rfl) rfl rfl ?_
          refine mG_iconst (v := nI 0) dX8_turnsFor_72 (by decide) ?_
          refine mG_istore dX8_turnsFor_73 (Nat.le_of_ble_eq_true rfl) rfl rfl ?_
          rw [t1S, if_pos c31] at hR
          first
            | rw [t1B, if_neg c53] at hR
            | rw [t1B, if_pos c53, Nat.min_eq_left c60] at hR
            | rw [t1B, if_pos c53, Nat.min_eq_right (Nat.le_of_lt c60)] at hR
          refine le_X8_t1 e40 e44 hbb e47 hc hfi hse hth hmy hfr hn (by omega) (by omega) (by omega) rfl (fun x y z u => ?_)
          refine mG_iincN dX8_turnsFor_219 rfl (Nat.le_of_ble_eq_true rfl) rfl rfl ?_
          refine mG_goto dX8_turnsFor_222 ?_
          refine ih (i + 1) _ _ _ _ _ _ (by omega) ?_ hR
          split
          · exact iterF_le t2S_le _ _ _ (by omega)
          · omega
        · refine mG_iload dX8_turnsFor_63 rfl ?_
          refine mG_goto dX8_turnsFor_65 ?_
          refine mG_istore dX8_turnsFor_70 (Nat.le_of_ble_eq_true rfl) rfl rfl ?_
          refine mG_iconst (v := nI 0) dX8_turnsFor_72 (by decide) ?_
          refine mG_istore dX8_turnsFor_73 (Nat.le_of_ble_eq_true rfl) rfl rfl ?_
          rw [t1S, if_pos c31] at hR
          first
            | rw [t1B, if_neg c53] at hR
            | rw [t1B, if_pos c53, Nat.min_eq_left c60] at hR
            | rw [t1B, if_pos c53, Nat.min_eq_right (Nat.le_of_lt c60)] at hR
          refine le_X8_t1 e40 e44 hbb e47 hc hfi hse hth hmy hfr hn (by omega) (by omega) (by omega) rfl (fun x y z u => ?_)
          refine mG_iincN dX8_turnsFor_219 rfl (Nat.le_of_ble_eq_true rfl) rfl rfl ?_
          refine mG_goto dX8_turnsFor_222 ?_
          refine ih (i + 1) _ _ _ _ _ _ (by omega) ?_ hR
          split
          · exact iterF_le t2S_le _ _ _ (by omega)
          · omega
set_option maxRecDepth 100000 in
set_option maxHeartbeats 4000000 in
theorem ok_X8_turnsFor {E : mE} {h : mH} {ty a sd so va it mo fa : Nat} {wr : Bool} {tr : Int64} {c fi se th my : Nat} {bb nw : Nat → Nat} (e40 : h 40 = oMo ty a sd so va wr it mo fa tr) (e44 : h 44 = mAr 2 bb) (hbb : bb 0 ≤ 1) (e47 : h 47 = mAr 33 nw) (hc : c < 4) (hfi : fi < 10) (hse : se < 10) (hth : th < 10) (hmy : my < 4) (hfr : nw (28 + c) < 6) (hn : ∀ j, j < 6 → nw (6 * c + j) < 10)  : mOk E 2 zX8_turnsFor [.ref 40, vN c, vN fi, vN se, vN th, vN my] h (mX (some (vN (tfR nw (decide (bb 0 = 1)) c fi se th my))) h) := by
  refine mOk_w (L := [some (.ref 40), some (vN c), some (vN fi), some (vN se), some (vN th), some (vN my), none, none, none, none, none, none, none]) pn_X8 rfl (Nat.le_of_ble_eq_true rfl) rfl ?_
  refine mG_ldc dX8_turnsFor_0 kX8_175 ?_
  refine mG_istore dX8_turnsFor_2 (Nat.le_of_ble_eq_true rfl) rfl rfl ?_
  refine mG_iconst (v := nI 0) dX8_turnsFor_4 (by decide) ?_
  refine mG_istore dX8_turnsFor_5 (Nat.le_of_ble_eq_true rfl) rfl rfl ?_
  exact lp_X8_t1 e40 e44 hbb e47 hc hfi hse hth hmy hfr hn 6 0 100000 _ _ _ _ _ rfl (Nat.le_refl _) rfl
def ttT (nw : Nat → Nat) (bo : Bool) (cu fm my c p q r : Nat) : Nat := tfR nw bo c (fgo cu fm p) (if 1 < my then fgo cu (fm + 1) q else 0) (if 2 < my then fgo cu (fm + 2) r else 0) my
def tt4 (T : Nat → Nat → Nat → Nat → Nat) (c p q r : Nat) (g : Nat → Nat) : Nat → Nat := mUp g (64 * c + 16 * p + 4 * q + r) (T c p q r)
def tt3 (T : Nat → Nat → Nat → Nat → Nat) (cu c p q : Nat) (g : Nat → Nat) : Nat → Nat := iterF (tt4 T c p q) 0 cu g
def tt2 (T : Nat → Nat → Nat → Nat → Nat) (cu c p : Nat) (g : Nat → Nat) : Nat → Nat := iterF (tt3 T cu c p) 0 cu g
def tt1 (T : Nat → Nat → Nat → Nat → Nat) (cu c : Nat) (g : Nat → Nat) : Nat → Nat := iterF (tt2 T cu c) 0 cu g
def tt0 (T : Nat → Nat → Nat → Nat → Nat) (cu : Nat) (g : Nat → Nat) : Nat → Nat := iterF (tt1 T cu) 0 cu g
theorem iterF_ix {σ : Type} {f : Nat → σ → σ} {P : Nat → σ → Prop} : ∀ k i x, P i x → (∀ j y, i ≤ j → j < i + k → P j y → P (j + 1) (f j y)) → P (i + k) (iterF f i k x) := by
  intro k
  induction k with
  | zero => intro i x h _; exact h
  | succ k ih =>
    intro i x h hs
    have q := ih (i + 1) (f i x) (hs i x (Nat.le_refl _) (by omega) h) (fun j y h1 h2 => hs j y (by omega) (by omega))
    rw [show i + (k + 1) = i + 1 + k by omega]
    exact q
theorem tt0_at (T : Nat → Nat → Nat → Nat → Nat) {cu : Nat} (hcu : cu ≤ 4) (g : Nat → Nat) : ∀ c p q r, c < cu → p < cu → q < cu → r < cu → tt0 T cu g (64 * c + 16 * p + 4 * q + r) = T c p q r := by
  have h4 : ∀ c p q (g : Nat → Nat), c < 4 → p < 4 → q < 4 → (∀ r, r < cu → tt3 T cu c p q g (64 * c + 16 * p + 4 * q + r) = T c p q r) ∧ ∀ j, (∀ r, r < cu → j ≠ 64 * c + 16 * p + 4 * q + r) → tt3 T cu c p q g j = g j := by
    intro c p q g hc hp hq
    have := iterF_ix (f := tt4 T c p q) (P := fun i x => (∀ r, r < i → x (64 * c + 16 * p + 4 * q + r) = T c p q r) ∧ ∀ j, (∀ r, r < i → j ≠ 64 * c + 16 * p + 4 * q + r) → x j = g j) cu 0 g ⟨fun r h => absurd h (Nat.not_lt_zero _), fun _ _ => rfl⟩ (by
      intro i y _ hi ⟨h1, h2⟩
      refine ⟨fun r hr => ?_, fun j hj => ?_⟩
      · unfold tt4
        by_cases e : r = i
        · rw [e, mUp_eq]
        · rw [mUp_ne _ _ (by omega)]; exact h1 r (by omega)
      · unfold tt4
        rw [mUp_ne _ _ (hj i (by omega))]
        exact h2 j (fun r hr => hj r (by omega)))
    rw [Nat.zero_add] at this
    exact this
  have h3 : ∀ c p (g : Nat → Nat), c < 4 → p < 4 → (∀ q r, q < cu → r < cu → tt2 T cu c p g (64 * c + 16 * p + 4 * q + r) = T c p q r) ∧ ∀ j, (∀ q r, q < cu → r < cu → j ≠ 64 * c + 16 * p + 4 * q + r) → tt2 T cu c p g j = g j := by
    intro c p g hc hp
    have := iterF_ix (f := tt3 T cu c p) (P := fun i x => (∀ q r, q < i → r < cu → x (64 * c + 16 * p + 4 * q + r) = T c p q r) ∧ ∀ j, (∀ q r, q < i → r < cu → j ≠ 64 * c + 16 * p + 4 * q + r) → x j = g j) cu 0 g ⟨fun q r h => absurd h (Nat.not_lt_zero _), fun _ _ => rfl⟩ (by
      intro i y _ hi ⟨h1, h2⟩
      have hh := h4 c p i y hc hp (by omega)
      refine ⟨fun q r hq hr => ?_, fun j hj => ?_⟩
      · by_cases e : q = i
        · rw [e]; exact hh.1 r hr
        · rw [hh.2 _ (fun r' _ => by omega)]; exact h1 q r (by omega) hr
      · rw [hh.2 _ (fun r hr => hj i r (by omega) hr)]
        exact h2 j (fun q r hq hr => hj q r (by omega) hr))
    rw [Nat.zero_add] at this
    exact this
  have h2 : ∀ c (g : Nat → Nat), c < 4 → (∀ p q r, p < cu → q < cu → r < cu → tt1 T cu c g (64 * c + 16 * p + 4 * q + r) = T c p q r) ∧ ∀ j, (∀ p q r, p < cu → q < cu → r < cu → j ≠ 64 * c + 16 * p + 4 * q + r) → tt1 T cu c g j = g j := by
    intro c g hc
    have := iterF_ix (f := tt2 T cu c) (P := fun i x => (∀ p q r, p < i → q < cu → r < cu → x (64 * c + 16 * p + 4 * q + r) = T c p q r) ∧ ∀ j, (∀ p q r, p < i → q < cu → r < cu → j ≠ 64 * c + 16 * p + 4 * q + r) → x j = g j) cu 0 g ⟨fun p q r h => absurd h (Nat.not_lt_zero _), fun _ _ => rfl⟩ (by
      intro i y _ hi ⟨h1, h2⟩
      have hh := h3 c i y hc (by omega)
      refine ⟨fun p q r hp hq hr => ?_, fun j hj => ?_⟩
      · by_cases e : p = i
        · rw [e]; exact hh.1 q r hq hr
        · rw [hh.2 _ (fun q' r' _ _ => by omega)]; exact h1 p q r (by omega) hq hr
      · rw [hh.2 _ (fun q r hq hr => hj i q r (by omega) hq hr)]
        exact h2 j (fun p q r hp hq hr => hj p q r (by omega) hq hr))
    rw [Nat.zero_add] at this
    exact this
  have := iterF_ix (f := tt1 T cu) (P := fun i x => (∀ c p q r, c < i → p < cu → q < cu → r < cu → x (64 * c + 16 * p + 4 * q + r) = T c p q r)) cu 0 g (fun c p q r h => absurd h (Nat.not_lt_zero _)) (by
    intro i y _ hi h1 c p q r hc hp hq hr
    have hh := h2 i y (by omega)
    by_cases e : c = i
    · rw [e]; exact hh.1 p q r hp hq hr
    · rw [hh.2 _ (fun p' q' r' _ _ _ => by omega)]; exact h1 c p q r (by omega) hp hq hr)
  rw [Nat.zero_add] at this
  exact this
set_option maxRecDepth 100000 in
set_option maxHeartbeats 4000000 in
theorem lp_X8_ttr {E : mE} {h : mH} {K : mKt} {ty a sd so va it mo fa : Nat} {wr : Bool} {tr : Int64} {c1 p1 q1 : Nat} {R : Nat → Nat} {fm my : Nat} {bb cb nw : Nat → Nat} (e40 : h 40 = oMo ty a sd so va wr it mo fa tr) (e42 : h 42 = mAr 2 cb) (hcb : cb 0 ≤ 4) (e44 : h 44 = mAr 2 bb) (hbb : bb 0 ≤ 1) (e47 : h 47 = mAr 33 nw) (hfm : fm < 100000) (hmy : my < 4) (hnf : ∀ j, j < cb 0 * 6 → nw j < 10) (hfr : ∀ j, j < 4 → nw (28 + j) < 6) (hc1 : c1 < cb 0) (hp1 : p1 < cb 0) (hq1 : q1 < cb 0) (hK : ∀ x s8 s9, mG E (mR 3, zX8_tellTurns) K 131 [some (.ref 40), some (vN fm), some (vN my), some (vN (cb 0)), some (vN c1), some (vN p1), some (vN q1), x, s8, s9] [] (mN, 0, 0) (mU h 52 (mAr 256 R)))  : ∀ (k i : Nat) (g : Nat → Nat) (s8 s9 : Option Value), i + k = cb 0 → R = iterF (tt4 (ttT nw (decide (bb 0 = 1)) (cb 0) fm my) c1 p1 q1) i k g → mG E (mR 3, zX8_tellTurns) K 37 [some (.ref 40), some (vN fm), some (vN my), some (vN (cb 0)), some (vN c1), some (vN p1), some (vN q1), some (vN i), s8, s9] [] (mN, 0, 0) (mU h 52 (mAr 256 g)) := by
  intro k
  induction k with
  | zero =>
    intro i g s8 s9 hk hR
    refine mG_iload dX8_tellTurns_37 rfl ?_
    refine mG_iload_n dX8_tellTurns_39 rfl ?_
    refine mG_icmp_geN dX8_tellTurns_40 (by omega) (by omega) (fun c40 => ?_) (fun c40 => absurd c40 (by omega))
    subst hR
    exact hK _ _ _
  | succ k ih =>
    intro i g s8 s9 hk hR
    refine mG_iload dX8_tellTurns_37 rfl ?_
    refine mG_iload_n dX8_tellTurns_39 rfl ?_
    refine mG_icmp_geN dX8_tellTurns_40 (by omega) (by omega) (fun c40 => absurd c40 (by omega)) (fun c40 => ?_)
    refine mG_iload_n dX8_tellTurns_43 rfl ?_
    refine mG_iconst (v := nI 1) dX8_tellTurns_44 (by decide) ?_
    refine mG_icmp_leN dX8_tellTurns_45 (by omega) (by omega) (fun c45 => ?_) (fun c45 => ?_)
    · refine mG_iconst (v := nI 0) dX8_tellTurns_60 (by decide) ?_
      refine mG_istore dX8_tellTurns_61 (Nat.le_of_ble_eq_true rfl) rfl rfl ?_
      refine mG_iload_n dX8_tellTurns_63 rfl ?_
      refine mG_iconst (v := nI 2) dX8_tellTurns_64 (by decide) ?_
      refine mG_icmp_leN dX8_tellTurns_65 (by omega) (by omega) (fun c65 => ?_) (fun c65 => ?_)
      · refine mG_iconst (v := nI 0) dX8_tellTurns_80 (by decide) ?_
        refine mG_istore dX8_tellTurns_81 (Nat.le_of_ble_eq_true rfl) rfl rfl ?_
        refine mG_aload_n dX8_tellTurns_83 rfl ?_
        refine mG_get fX8_45 dX8_tellTurns_84 e40 (Nat.le_of_ble_eq_true rfl) rfl ?_
        refine mG_bipush (v := nI 64) dX8_tellTurns_87 (by decide) ?_
        refine mG_iload dX8_tellTurns_89 rfl ?_
        refine mG_imulN dX8_tellTurns_91 ?_
        refine mG_bipush (v := nI 16) dX8_tellTurns_92 (by decide) ?_
        refine mG_iload dX8_tellTurns_94 rfl ?_
        refine mG_imulN dX8_tellTurns_96 ?_
        refine mG_iaddN dX8_tellTurns_97 ?_
        refine mG_iconst (v := nI 4) dX8_tellTurns_98 (by decide) ?_
        refine mG_iload dX8_tellTurns_99 rfl ?_
        refine mG_imulN dX8_tellTurns_101 ?_
        refine mG_iaddN dX8_tellTurns_102 ?_
        refine mG_iload dX8_tellTurns_103 rfl ?_
        refine mG_iaddN dX8_tellTurns_105 ?_
        have f1 := fgo_lt (cb 0) fm p1
        have f2 := fgo_lt (cb 0) (fm + 1) q1
        have f3 := fgo_lt (cb 0) (fm + 2) i
        refine mG_aload_n dX8_tellTurns_106 rfl ?_
        refine mG_iload dX8_tellTurns_107 rfl ?_
        refine mG_aload_n dX8_tellTurns_109 rfl ?_
        refine mG_iload_n dX8_tellTurns_110 rfl ?_
        refine mG_iload dX8_tellTurns_111 rfl ?_
        refine mG_cv2 vX8_133 dX8_tellTurns_113 (mLe_of rfl) (Nat.le_of_ble_eq_true rfl) e40 (Nat.le_of_ble_eq_true rfl) (ok_X8_figureOf e40 e42 hcb (by omega) hp1) ?_
        refine mG_iload dX8_tellTurns_116 rfl ?_
        refine mG_iload dX8_tellTurns_118 rfl ?_
        refine mG_iload_n dX8_tellTurns_120 rfl ?_
        refine mG_cv5 vX8_176 dX8_tellTurns_121 (mLe_of rfl) (Nat.le_of_ble_eq_true rfl) e40 (Nat.le_of_ble_eq_true rfl) (ok_X8_turnsFor e40 e44 hbb e47 (by omega) f1 (by omega) (by omega) hmy (hfr c1 (by omega)) (fun j hj => hnf _ (by omega))) ?_
        refine mG_iastA dX8_tellTurns_124 rfl (Nat.le_of_ble_eq_true rfl) (by decide) (by omega) ?_
        rw [mU_same]
        refine mG_iincN dX8_tellTurns_125 rfl (Nat.le_of_ble_eq_true rfl) rfl rfl ?_
        refine mG_goto dX8_tellTurns_128 ?_
        have hT : ttT nw (decide (bb 0 = 1)) (cb 0) fm my c1 p1 q1 i = tfR nw (decide (bb 0 = 1)) c1 (fgo (cb 0) fm p1) (if 1 < my then fgo (cb 0) (fm + 1) q1 else 0) (if 2 < my then fgo (cb 0) (fm + 2) i else 0) my := rfl
        first
          | rw [if_pos c45, if_pos c65] at hT
          | rw [if_pos c45, if_neg (Nat.not_lt.mpr c65)] at hT
          | rw [if_neg (Nat.not_lt.mpr c45), if_pos c65] at hT
          | rw [if_neg (Nat.not_lt.mpr c45), if_neg (Nat.not_lt.mpr c65)] at hT
        rw [← hT]
        exact ih (i + 1) _ _ _ (by omega) hR
      · refine mG_aload_n dX8_tellTurns_68 rfl ?_
        refine mG_iload_n dX8_tellTurns_69 rfl ?_
        refine mG_iconst (v := nI 2) dX8_tellTurns_70 (by decide) ?_
        refine mG_iaddN dX8_tellTurns_71 ?_
        refine mG_iload dX8_tellTurns_72 rfl ?_
        refine mG_cv2 vX8_133 dX8_tellTurns_74 (mLe_of rfl) (Nat.le_of_ble_eq_true rfl) e40 (Nat.le_of_ble_eq_true rfl) (ok_X8_figureOf e40 e42 hcb (by omega) (by omega)) ?_
        refine mG_goto dX8_tellTurns_77 ?_
        refine mG_istore dX8_tellTurns_81 (Nat.le_of_ble_eq_true rfl) rfl rfl ?_
        refine mG_aload_n dX8_tellTurns_83 rfl ?_
        refine mG_get fX8_45 dX8_tellTurns_84 e40 (Nat.le_of_ble_eq_true rfl) rfl ?_
        refine mG_bipush (v := nI 64) dX8_tellTurns_87 (by decide) ?_
        refine mG_iload dX8_tellTurns_89 rfl ?_
        refine mG_imulN dX8_tellTurns_91 ?_
        refine mG_bipush (v := nI 16) dX8_tellTurns_92 (by decide) ?_
        refine mG_iload dX8_tellTurns_94 rfl ?_
        refine mG_imulN dX8_tellTurns_96 ?_
        refine mG_iaddN dX8_tellTurns_97 ?_
        refine mG_iconst (v := nI 4) dX8_tellTurns_98 (by decide) ?_
        refine mG_iload dX8_tellTurns_99 rfl ?_
        refine mG_imulN dX8_tellTurns_101 ?_
        refine mG_iaddN dX8_tellTurns_102 ?_
        refine mG_iload dX8_tellTurns_103 rfl ?_
        refine mG_iaddN dX8_tellTurns_105 ?_
        have f1 := fgo_lt (cb 0) fm p1
        have f2 := fgo_lt (cb 0) (fm + 1) q1
        have f3 := fgo_lt (cb 0) (fm + 2) i
        refine mG_aload_n dX8_tellTurns_106 rfl ?_
        refine mG_iload dX8_tellTurns_107 rfl ?_
        refine mG_aload_n dX8_tellTurns_109 rfl ?_
        refine mG_iload_n dX8_tellTurns_110 rfl ?_
        refine mG_iload dX8_tellTurns_111 rfl ?_
        refine mG_cv2 vX8_133 dX8_tellTurns_113 (mLe_of rfl) (Nat.le_of_ble_eq_true rfl) e40 (Nat.le_of_ble_eq_true rfl) (ok_X8_figureOf e40 e42 hcb (by omega) hp1) ?_
        refine mG_iload dX8_tellTurns_116 rfl ?_
        refine mG_iload dX8_tellTurns_118 rfl ?_
        refine mG_iload_n dX8_tellTurns_120 rfl ?_
        refine mG_cv5 vX8_176 dX8_tellTurns_121 (mLe_of rfl) (Nat.le_of_ble_eq_true rfl) e40 (Nat.le_of_ble_eq_true rfl) (ok_X8_turnsFor e40 e44 hbb e47 (by omega) f1 (by omega) (by omega) hmy (hfr c1 (by omega)) (fun j hj => hnf _ (by omega))) ?_
        refine mG_iastA dX8_tellTurns_124 rfl (Nat.le_of_ble_eq_true rfl) (by decide) (by omega) ?_
        rw [mU_same]
        refine mG_iincN dX8_tellTurns_125 rfl (Nat.le_of_ble_eq_true rfl) rfl rfl ?_
        refine mG_goto dX8_tellTurns_128 ?_
        have hT : ttT nw (decide (bb 0 = 1)) (cb 0) fm my c1 p1 q1 i = tfR nw (decide (bb 0 = 1)) c1 (fgo (cb 0) fm p1) (if 1 < my then fgo (cb 0) (fm + 1) q1 else 0) (if 2 < my then fgo (cb 0) (fm + 2) i else 0) my := rfl
        first
          | rw [if_pos c45, if_pos c65] at hT
          | rw [if_pos c45, if_neg (Nat.not_lt.mpr c65)] at hT
          | rw [if_neg (Nat.not_lt.mpr c45), if_pos c65] at hT
          | rw [if_neg (Nat.not_lt.mpr c45), if_neg (Nat.not_lt.mpr c65)] at hT
        rw [← hT]
        exact ih (i + 1) _ _ _ (by omega) hR
    · refine mG_aload_n dX8_tellTurns_48 rfl ?_
      refine mG_iload_n dX8_tellTurns_49 rfl ?_
      refine mG_iconst (v := nI 1) dX8_tellTurns_50 (by decide) ?_
      refine mG_iaddN dX8_tellTurns_51 ?_
      refine mG_iload dX8_tellTurns_52 rfl ?_
      refine mG_cv2 vX8_133 dX8_tellTurns_54 (mLe_of rfl) (Nat.le_of_ble_eq_true rfl) e40 (Nat.le_of_ble_eq_true rfl) (ok_X8_figureOf e40 e42 hcb (by omega) hq1) ?_
      refine mG_goto dX8_tellTurns_57 ?_
      refine mG_istore dX8_tellTurns_61 (Nat.le_of_ble_eq_true rfl) rfl rfl ?_
      refine mG_iload_n dX8_tellTurns_63 rfl ?_
      refine mG_iconst (v := nI 2) dX8_tellTurns_64 (by decide) ?_
      refine mG_icmp_leN dX8_tellTurns_65 (by omega) (by omega) (fun c65 => ?_) (fun c65 => ?_)
      · refine mG_iconst (v := nI 0) dX8_tellTurns_80 (by decide) ?_
        refine mG_istore dX8_tellTurns_81 (Nat.le_of_ble_eq_true rfl) rfl rfl ?_
        refine mG_aload_n dX8_tellTurns_83 rfl ?_
        refine mG_get fX8_45 dX8_tellTurns_84 e40 (Nat.le_of_ble_eq_true rfl) rfl ?_
        refine mG_bipush (v := nI 64) dX8_tellTurns_87 (by decide) ?_
        refine mG_iload dX8_tellTurns_89 rfl ?_
        refine mG_imulN dX8_tellTurns_91 ?_
        refine mG_bipush (v := nI 16) dX8_tellTurns_92 (by decide) ?_
        refine mG_iload dX8_tellTurns_94 rfl ?_
        refine mG_imulN dX8_tellTurns_96 ?_
        refine mG_iaddN dX8_tellTurns_97 ?_
        refine mG_iconst (v := nI 4) dX8_tellTurns_98 (by decide) ?_
        refine mG_iload dX8_tellTurns_99 rfl ?_
        refine mG_imulN dX8_tellTurns_101 ?_
        refine mG_iaddN dX8_tellTurns_102 ?_
        refine mG_iload dX8_tellTurns_103 rfl ?_
        refine mG_iaddN dX8_tellTurns_105 ?_
        have f1 := fgo_lt (cb 0) fm p1
        have f2 := fgo_lt (cb 0) (fm + 1) q1
        have f3 := fgo_lt (cb 0) (fm + 2) i
        refine mG_aload_n dX8_tellTurns_106 rfl ?_
        refine mG_iload dX8_tellTurns_107 rfl ?_
        refine mG_aload_n dX8_tellTurns_109 rfl ?_
        refine mG_iload_n dX8_tellTurns_110 rfl ?_
        refine mG_iload dX8_tellTurns_111 rfl ?_
        refine mG_cv2 vX8_133 dX8_tellTurns_113 (mLe_of rfl) (Nat.le_of_ble_eq_true rfl) e40 (Nat.le_of_ble_eq_true rfl) (ok_X8_figureOf e40 e42 hcb (by omega) hp1) ?_
        refine mG_iload dX8_tellTurns_116 rfl ?_
        refine mG_iload dX8_tellTurns_118 rfl ?_
        refine mG_iload_n dX8_tellTurns_120 rfl ?_
        refine mG_cv5 vX8_176 dX8_tellTurns_121 (mLe_of rfl) (Nat.le_of_ble_eq_true rfl) e40 (Nat.le_of_ble_eq_true rfl) (ok_X8_turnsFor e40 e44 hbb e47 (by omega) f1 (by omega) (by omega) hmy (hfr c1 (by omega)) (fun j hj => hnf _ (by omega))) ?_
        refine mG_iastA dX8_tellTurns_124 rfl (Nat.le_of_ble_eq_true rfl) (by decide) (by omega) ?_
        rw [mU_same]
        refine mG_iincN dX8_tellTurns_125 rfl (Nat.le_of_ble_eq_true rfl) rfl rfl ?_
        refine mG_goto dX8_tellTurns_128 ?_
        have hT : ttT nw (decide (bb 0 = 1)) (cb 0) fm my c1 p1 q1 i = tfR nw (decide (bb 0 = 1)) c1 (fgo (cb 0) fm p1) (if 1 < my then fgo (cb 0) (fm + 1) q1 else 0) (if 2 < my then fgo (cb 0) (fm + 2) i else 0) my := rfl
        first
          | rw [if_pos c45, if_pos c65] at hT
          | rw [if_pos c45, if_neg (Nat.not_lt.mpr c65)] at hT
          | rw [if_neg (Nat.not_lt.mpr c45), if_pos c65] at hT
          | rw [if_neg (Nat.not_lt.mpr c45), if_neg (Nat.not_lt.mpr c65)] at hT
        rw [← hT]
        exact ih (i + 1) _ _ _ (by omega) hR
      · refine mG_aload_n dX8_tellTurns_68 rfl ?_
        refine mG_iload_n dX8_tellTurns_69 rfl ?_
        refine mG_iconst (v := nI 2) dX8_tellTurns_70 (by decide) ?_
        refine mG_iaddN dX8_tellTurns_71 ?_
        refine mG_iload dX8_tellTurns_72 rfl ?_
        refine mG_cv2 vX8_133 dX8_tellTurns_74 (mLe_of rfl) (Nat.le_of_ble_eq_true rfl) e40 (Nat.le_of_ble_eq_true rfl) (ok_X8_figureOf e40 e42 hcb (by omega) (by omega)) ?_
        refine mG_goto dX8_tellTurns_77 ?_
        refine mG_istore dX8_tellTurns_81 (Nat.le_of_ble_eq_true rfl) rfl rfl ?_
        refine mG_aload_n dX8_tellTurns_83 rfl ?_
        refine mG_get fX8_45 dX8_tellTurns_84 e40 (Nat.le_of_ble_eq_true rfl) rfl ?_
        refine mG_bipush (v := nI 64) dX8_tellTurns_87 (by decide) ?_
        refine mG_iload dX8_tellTurns_89 rfl ?_
        refine mG_imulN dX8_tellTurns_91 ?_
        refine mG_bipush (v := nI 16) dX8_tellTurns_92 (by decide) ?_
        refine mG_iload dX8_tellTurns_94 rfl ?_
        refine mG_imulN dX8_tellTurns_96 ?_
        refine mG_iaddN dX8_tellTurns_97 ?_
        refine mG_iconst (v := nI 4) dX8_tellTurns_98 (by decide) ?_
        refine mG_iload dX8_tellTurns_99 rfl ?_
        refine mG_imulN dX8_tellTurns_101 ?_
        refine mG_iaddN dX8_tellTurns_102 ?_
        refine mG_iload dX8_tellTurns_103 rfl ?_
        refine mG_iaddN dX8_tellTurns_105 ?_
        have f1 := fgo_lt (cb 0) fm p1
        have f2 := fgo_lt (cb 0) (fm + 1) q1
        have f3 := fgo_lt (cb 0) (fm + 2) i
        refine mG_aload_n dX8_tellTurns_106 rfl ?_
        refine mG_iload dX8_tellTurns_107 rfl ?_
        refine mG_aload_n dX8_tellTurns_109 rfl ?_
        refine mG_iload_n dX8_tellTurns_110 rfl ?_
        refine mG_iload dX8_tellTurns_111 rfl ?_
        refine mG_cv2 vX8_133 dX8_tellTurns_113 (mLe_of rfl) (Nat.le_of_ble_eq_true rfl) e40 (Nat.le_of_ble_eq_true rfl) (ok_X8_figureOf e40 e42 hcb (by omega) hp1) ?_
        refine mG_iload dX8_tellTurns_116 rfl ?_
        refine mG_iload dX8_tellTurns_118 rfl ?_
        refine mG_iload_n dX8_tellTurns_120 rfl ?_
        refine mG_cv5 vX8_176 dX8_tellTurns_121 (mLe_of rfl) (Nat.le_of_ble_eq_true rfl) e40 (Nat.le_of_ble_eq_true rfl) (ok_X8_turnsFor e40 e44 hbb e47 (by omega) f1 (by omega) (by omega) hmy (hfr c1 (by omega)) (fun j hj => hnf _ (by omega))) ?_
        refine mG_iastA dX8_tellTurns_124 rfl (Nat.le_of_ble_eq_true rfl) (by decide) (by omega) ?_
        rw [mU_same]
        refine mG_iincN dX8_tellTurns_125 rfl (Nat.le_of_ble_eq_true rfl) rfl rfl ?_
        refine mG_goto dX8_tellTurns_128 ?_
        have hT : ttT nw (decide (bb 0 = 1)) (cb 0) fm my c1 p1 q1 i = tfR nw (decide (bb 0 = 1)) c1 (fgo (cb 0) fm p1) (if 1 < my then fgo (cb 0) (fm + 1) q1 else 0) (if 2 < my then fgo (cb 0) (fm + 2) i else 0) my := rfl
        first
          | rw [if_pos c45, if_pos c65] at hT
          | rw [if_pos c45, if_neg (Nat.not_lt.mpr c65)] at hT
          | rw [if_neg (Nat.not_lt.mpr c45), if_pos c65] at hT
          | rw [if_neg (Nat.not_lt.mpr c45), if_neg (Nat.not_lt.mpr c65)] at hT
        rw [← hT]
        exact ih (i + 1) _ _ _ (by omega) hR
set_option maxRecDepth 100000 in
set_option maxHeartbeats 4000000 in
theorem lp_X8_ttq {E : mE} {h : mH} {K : mKt} {ty a sd so va it mo fa : Nat} {wr : Bool} {tr : Int64} {c1 p1 : Nat} {R : Nat → Nat} {fm my : Nat} {bb cb nw : Nat → Nat} (e40 : h 40 = oMo ty a sd so va wr it mo fa tr) (e42 : h 42 = mAr 2 cb) (hcb : cb 0 ≤ 4) (e44 : h 44 = mAr 2 bb) (hbb : bb 0 ≤ 1) (e47 : h 47 = mAr 33 nw) (hfm : fm < 100000) (hmy : my < 4) (hnf : ∀ j, j < cb 0 * 6 → nw j < 10) (hfr : ∀ j, j < 4 → nw (28 + j) < 6) (hc1 : c1 < cb 0) (hp1 : p1 < cb 0) (hK : ∀ x s7 s8 s9, mG E (mR 3, zX8_tellTurns) K 137 [some (.ref 40), some (vN fm), some (vN my), some (vN (cb 0)), some (vN c1), some (vN p1), x, s7, s8, s9] [] (mN, 0, 0) (mU h 52 (mAr 256 R)))  : ∀ (k i : Nat) (g : Nat → Nat) (s7 s8 s9 : Option Value), i + k = cb 0 → R = iterF (tt3 (ttT nw (decide (bb 0 = 1)) (cb 0) fm my) (cb 0) c1 p1) i k g → mG E (mR 3, zX8_tellTurns) K 28 [some (.ref 40), some (vN fm), some (vN my), some (vN (cb 0)), some (vN c1), some (vN p1), some (vN i), s7, s8, s9] [] (mN, 0, 0) (mU h 52 (mAr 256 g)) := by
  intro k
  induction k with
  | zero =>
    intro i g s7 s8 s9 hk hR
    refine mG_iload dX8_tellTurns_28 rfl ?_
    refine mG_iload_n dX8_tellTurns_30 rfl ?_
    refine mG_icmp_geN dX8_tellTurns_31 (by omega) (by omega) (fun c31 => ?_) (fun c31 => absurd c31 (by omega))
    subst hR
    exact hK _ _ _ _
  | succ k ih =>
    intro i g s7 s8 s9 hk hR
    refine mG_iload dX8_tellTurns_28 rfl ?_
    refine mG_iload_n dX8_tellTurns_30 rfl ?_
    refine mG_icmp_geN dX8_tellTurns_31 (by omega) (by omega) (fun c31 => absurd c31 (by omega)) (fun c31 => ?_)
    refine mG_iconst (v := nI 0) dX8_tellTurns_34 (by decide) ?_
    refine mG_istore dX8_tellTurns_35 (Nat.le_of_ble_eq_true rfl) rfl rfl ?_
    rw [iterF_s] at hR
    refine lp_X8_ttr e40 e42 hcb e44 hbb e47 hfm hmy hnf hfr hc1 hp1 c31 (fun x s8 s9 => ?_) (cb 0) 0 _ _ _ (Nat.zero_add _) rfl
    refine mG_iincN dX8_tellTurns_131 rfl (Nat.le_of_ble_eq_true rfl) rfl rfl ?_
    refine mG_goto dX8_tellTurns_134 ?_
    exact ih (i + 1) _ _ _ _ (by omega) hR
set_option maxRecDepth 100000 in
set_option maxHeartbeats 4000000 in
theorem lp_X8_ttp {E : mE} {h : mH} {K : mKt} {ty a sd so va it mo fa : Nat} {wr : Bool} {tr : Int64} {c1 : Nat} {R : Nat → Nat} {fm my : Nat} {bb cb nw : Nat → Nat} (e40 : h 40 = oMo ty a sd so va wr it mo fa tr) (e42 : h 42 = mAr 2 cb) (hcb : cb 0 ≤ 4) (e44 : h 44 = mAr 2 bb) (hbb : bb 0 ≤ 1) (e47 : h 47 = mAr 33 nw) (hfm : fm < 100000) (hmy : my < 4) (hnf : ∀ j, j < cb 0 * 6 → nw j < 10) (hfr : ∀ j, j < 4 → nw (28 + j) < 6) (hc1 : c1 < cb 0) (hK : ∀ x s6 s7 s8 s9, mG E (mR 3, zX8_tellTurns) K 143 [some (.ref 40), some (vN fm), some (vN my), some (vN (cb 0)), some (vN c1), x, s6, s7, s8, s9] [] (mN, 0, 0) (mU h 52 (mAr 256 R)))  : ∀ (k i : Nat) (g : Nat → Nat) (s6 s7 s8 s9 : Option Value), i + k = cb 0 → R = iterF (tt2 (ttT nw (decide (bb 0 = 1)) (cb 0) fm my) (cb 0) c1) i k g → mG E (mR 3, zX8_tellTurns) K 19 [some (.ref 40), some (vN fm), some (vN my), some (vN (cb 0)), some (vN c1), some (vN i), s6, s7, s8, s9] [] (mN, 0, 0) (mU h 52 (mAr 256 g)) := by
  intro k
  induction k with
  | zero =>
    intro i g s6 s7 s8 s9 hk hR
    refine mG_iload dX8_tellTurns_19 rfl ?_
    refine mG_iload_n dX8_tellTurns_21 rfl ?_
    refine mG_icmp_geN dX8_tellTurns_22 (by omega) (by omega) (fun c22 => ?_) (fun c22 => absurd c22 (by omega))
    subst hR
    exact hK _ _ _ _ _
  | succ k ih =>
    intro i g s6 s7 s8 s9 hk hR
    refine mG_iload dX8_tellTurns_19 rfl ?_
    refine mG_iload_n dX8_tellTurns_21 rfl ?_
    refine mG_icmp_geN dX8_tellTurns_22 (by omega) (by omega) (fun c22 => absurd c22 (by omega)) (fun c22 => ?_)
    refine mG_iconst (v := nI 0) dX8_tellTurns_25 (by decide) ?_
    refine mG_istore dX8_tellTurns_26 (Nat.le_of_ble_eq_true rfl) rfl rfl ?_
    rw [iterF_s] at hR
    refine lp_X8_ttq e40 e42 hcb e44 hbb e47 hfm hmy hnf hfr hc1 c22 (fun x s7 s8 s9 => ?_) (cb 0) 0 _ _ _ _ (Nat.zero_add _) rfl
    refine mG_iincN dX8_tellTurns_137 rfl (Nat.le_of_ble_eq_true rfl) rfl rfl ?_
    refine mG_goto dX8_tellTurns_140 ?_
    exact ih (i + 1) _ _ _ _ _ (by omega) hR
set_option maxRecDepth 100000 in
set_option maxHeartbeats 4000000 in
theorem lp_X8_ttc {E : mE} {h : mH} {ty a sd so va it mo fa : Nat} {wr : Bool} {tr : Int64} {R : Nat → Nat} {fm my : Nat} {bb cb nw : Nat → Nat} (e40 : h 40 = oMo ty a sd so va wr it mo fa tr) (e42 : h 42 = mAr 2 cb) (hcb : cb 0 ≤ 4) (e44 : h 44 = mAr 2 bb) (hbb : bb 0 ≤ 1) (e47 : h 47 = mAr 33 nw) (hfm : fm < 100000) (hmy : my < 4) (hnf : ∀ j, j < cb 0 * 6 → nw j < 10) (hfr : ∀ j, j < 4 → nw (28 + j) < 6)  : ∀ (k i : Nat) (g : Nat → Nat) (s5 s6 s7 s8 s9 : Option Value), i + k = cb 0 → R = iterF (tt1 (ttT nw (decide (bb 0 = 1)) (cb 0) fm my) (cb 0)) i k g → mG E (mR 3, zX8_tellTurns) (mKq E (mR 3) mN (mX none (mU h 52 (mAr 256 R)))) 10 [some (.ref 40), some (vN fm), some (vN my), some (vN (cb 0)), some (vN i), s5, s6, s7, s8, s9] [] (mN, 0, 0) (mU h 52 (mAr 256 g)) := by
  intro k
  induction k with
  | zero =>
    intro i g s5 s6 s7 s8 s9 hk hR
    refine mG_iload dX8_tellTurns_10 rfl ?_
    refine mG_iload_n dX8_tellTurns_12 rfl ?_
    refine mG_icmp_geN dX8_tellTurns_13 (by omega) (by omega) (fun c13 => ?_) (fun c13 => absurd c13 (by omega))
    exact mG_vret dX8_tellTurns_149 rfl (mX_of rfl (by subst hR; rfl))
  | succ k ih =>
    intro i g s5 s6 s7 s8 s9 hk hR
    refine mG_iload dX8_tellTurns_10 rfl ?_
    refine mG_iload_n dX8_tellTurns_12 rfl ?_
    refine mG_icmp_geN dX8_tellTurns_13 (by omega) (by omega) (fun c13 => absurd c13 (by omega)) (fun c13 => ?_)
    refine mG_iconst (v := nI 0) dX8_tellTurns_16 (by decide) ?_
    refine mG_istore dX8_tellTurns_17 (Nat.le_of_ble_eq_true rfl) rfl rfl ?_
    rw [iterF_s] at hR
    refine lp_X8_ttp e40 e42 hcb e44 hbb e47 hfm hmy hnf hfr c13 (fun x s6 s7 s8 s9 => ?_) (cb 0) 0 _ _ _ _ _ (Nat.zero_add _) rfl
    refine mG_iincN dX8_tellTurns_143 rfl (Nat.le_of_ble_eq_true rfl) rfl rfl ?_
    refine mG_goto dX8_tellTurns_146 ?_
    exact ih (i + 1) _ _ _ _ _ _ (by omega) hR
set_option maxRecDepth 100000 in
set_option maxHeartbeats 4000000 in
theorem ok_X8_tellTurns {E : mE} {h : mH} {ty a sd so va it mo fa : Nat} {wr : Bool} {tr : Int64} {ls : Nat → Nat} {fm my : Nat} {bb cb nw : Nat → Nat} (e40 : h 40 = oMo ty a sd so va wr it mo fa tr) (e42 : h 42 = mAr 2 cb) (hcb : cb 0 ≤ 4) (e44 : h 44 = mAr 2 bb) (hbb : bb 0 ≤ 1) (e47 : h 47 = mAr 33 nw) (hfm : fm < 100000) (hmy : my < 4) (hnf : ∀ j, j < cb 0 * 6 → nw j < 10) (hfr : ∀ j, j < 4 → nw (28 + j) < 6) (e52 : h 52 = mAr 256 ls) : mOk E 3 zX8_tellTurns [.ref 40, vN fm, vN my] h (mX none (mU h 52 (mAr 256 (tt0 (ttT nw (decide (bb 0 = 1)) (cb 0) fm my) (cb 0) ls)))) := by
  refine mOk_w (L := [some (.ref 40), some (vN fm), some (vN my), none, none, none, none, none, none, none]) pn_X8 rfl (Nat.le_of_ble_eq_true rfl) rfl ?_
  refine mG_aload_n dX8_tellTurns_0 rfl ?_
  refine mG_get fX8_13 dX8_tellTurns_1 e40 (Nat.le_of_ble_eq_true rfl) rfl ?_
  refine mG_iconst (v := nI 0) dX8_tellTurns_4 (by decide) ?_
  refine mG_ialdA dX8_tellTurns_5 e42 (Nat.le_of_ble_eq_true rfl) (by decide) (by omega) ?_
  refine mG_istore_n dX8_tellTurns_6 (Nat.le_of_ble_eq_true rfl) rfl rfl ?_
  refine mG_iconst (v := nI 0) dX8_tellTurns_7 (by decide) ?_
  refine mG_istore dX8_tellTurns_8 (Nat.le_of_ble_eq_true rfl) rfl rfl ?_
  have q := lp_X8_ttc (E := E) (h := h) e40 e42 hcb e44 hbb e47 hfm hmy hnf hfr (R := tt0 (ttT nw (decide (bb 0 = 1)) (cb 0) fm my) (cb 0) ls) (cb 0) 0 ls none none none none none (Nat.zero_add _) rfl
  rw [mU_self h 52 _ e52] at q
  exact q
