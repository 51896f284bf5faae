/-! the model: plays, keeps, undo, play -/
/-- whether a draw errs, and the row after it -/
def erB (w : Nat → Int) (o : Int) : Bool := decide (0 < o) && decide (drV (drN (w 7)) 1000 < o)
def drW (w : Nat → Int) (o : Int) : Nat → Int := if 0 < o then uW w 7 (drN (w 7)) else w
def onW (w : Nat → Int) (v : Int) : Nat → Int := uW (uW w 4 (if v < w 4 then w 4 else v)) 5 (zwr (w 5 + 1))
def mvW (w : Nat → Int) (n s wy t : Int) : Nat → Int := uW (uW (uW (uW w 0 n) 1 s) 2 wy) 3 t
def paW (w : Nat → Int) : Nat := whoW w (w 1)
def oaW (w : Nat → Int) : Int := odW w (paW w) (w 0).toNat (w 3)
def paB (w : Nat → Int) : Bool := erB w (oaW w)
def paN (w : Nat → Int) : Nat → Int :=
  uW (if paB w then erW (drW w (oaW w)) (paW w) (w 0)
    else mvW (onW (drW w (oaW w)) (w 0)) (nxN (w 0).toNat) (seW w (w 0).toNat (w 1) (w 2)) (wyW w (w 0).toNat (w 2)) (tuW w (w 0).toNat)) 8 (paW w)
def sPa : Nat → Nat → Nat → Prop := fun k j i => sCur k j i ∨ (k = 46 ∧ j = 0)
theorem m_plays1 {w : Nat → Int} (hR : RuOk w) (hL : LwOk w) (hP : PeOk w) (hN : NoOk w) (d : Nat) (g : zG) (hw : g 46 0 = w) : ∃ g', EvM (d + 4) 164 [.inr (12, 0)] g = Ev (d + 4) 164 40 [some (.inr (12, 0)), some (.inl (paW w : Int)), some (.inl (oaW w)), some (.inl (zb (paB w = true)))] [] (zRw g' (drW w (oaW w))) ∧ CuAt g' w (w 0).toNat (w 1) (w 2) (w 3) ∧ Fr sCur g g' := by
  obtain ⟨g1, a1, a2, a3⟩ := m_begin' hR d g hw hN.1
  have h1 : 0 ≤ w 1 ∧ w 1 < w 17 := ⟨hN.2.1.1, hN.2.1.2 hP.1⟩
  obtain ⟨w1, w2, w3⟩ := whoW_spec hP h1.1 h1.2
  obtain ⟨g2, b1, b2, b3⟩ := m_odds' hR hL (d + 1) (whoW w (w 1)) (w 0).toNat _ _ _ g1 a2 (by have := hN.1; omega) w2
  refine ⟨g2, ?_, b2, a3.tr b3⟩
  have b1' : EvM (d + 3) 171 [.inr (12, 0), .inl (paW w : Int)] g1 = some (some (.inl (oaW w)), g2) := b1
  have w1' : EvM (d + 3) 170 [.inr (12, 0), .inl (w 1)] g1 = some (some (.inl (paW w : Int)), g1) := m_whoOn hP _ (w 1) g1 a2.1 h1.1 h1.2
  rw [en164]
  simp only [e164_0, e164_1, e164_4, e164_5, e164_6, e164_9, e164_12, e164_13, e164_14, e164_15, e164_18, e164_19, e164_20, e164_23, e164_24, e164_27, e164_30, e164_31, e164_34, e164_35, e164_38, e164_39, e164_41, e164_44, e164_45, e164_46, e164_49, e164_52, e164_53, e164_56, e164_57, e164_58, e164_61, e164_62, e164_63, e164_64, e164_67, e164_70, e164_71, e164_72, e164_75, e164_76, e164_77, e164_78, e164_79, e164_80, e164_81, e164_82, e164_85, e164_86, e164_89, e164_90, e164_91, e164_94, e164_95, e164_96, e164_99, e164_100, e164_101, e164_104, e164_105, e164_106, e164_109, e164_110, e164_111, e164_114, e164_115, e164_116, e164_119, e164_120, e164_121, e164_124, e164_125, e164_126, e164_129, e164_131, e164_132, e164_133, e164_134, a1, zU_app, zbI_some, zbV_some, Int.reduceToNat, Int.reduceLE, Int.reduceLT, Int.reduceEq, Nat.reduceEqDiff, and_self, and_true, true_and, and_false, false_and, if_true, if_false, ne_eq, not_true_eq_false, not_false_eq_true, reduceCtorEq, a2.2.2.1, w1', b1']
  have r2 := zRw_of b2.1
  unfold paB erB drW
  by_cases ho : oaW w ≤ 0
  · rw [if_pos ho, if_neg (show ¬ 0 < oaW w by omega), ← r2, zb_f (by simp; omega)]
  · rw [if_neg ho, if_pos (show 0 < oaW w by omega), r2, m_draw (d + 3) 1000 g2 w (by decide), zbI_some]
    by_cases hq : oaW w ≤ drV (drN (w 7)) 1000
    · rw [if_pos hq, zb_f (by simp; omega), ← r2]
    · rw [if_neg hq, zb_t (by simp; omega), ← r2]
/-- rows that are alike in persons, rules and law -/
def Lik (w w' : Nat → Int) : Prop := w 18 ≤ 7 ∧ ∀ i, (17 ≤ i ∧ i < 80) ∨ 480 ≤ i → w' i = w i
theorem Lik.rf {w : Nat → Int} (h : w 18 ≤ 7) : Lik w w := ⟨h, fun _ _ => rfl⟩
theorem Lik.tr {a b c : Nat → Int} (h : Lik a b) (h' : Lik b c) : Lik a c := ⟨h.1, fun i hi => (h'.2 i hi).trans (h.2 i hi)⟩
theorem mk_cg {P Q : Nat → Bool} : ∀ {n : Nat}, (∀ r, r < n → P r = Q r) → mk P n = mk Q n
  | 0, _ => rfl
  | n + 1, h => by rw [mk, mk, mk_cg (fun r hr => h r (by omega)), h n (by omega)]
theorem cn_cg {P Q : Nat → Bool} : ∀ {n : Nat}, (∀ r, r < n → P r = Q r) → cn P n = cn Q n
  | 0, _ => rfl
  | n + 1, h => by rw [cn, cn, cn_cg (fun r hr => h r (by omega)), h n (by omega)]
theorem Lik.nr {w w' : Nat → Int} (h : Lik w w') : nR w' = nR w := by unfold nR; rw [h.2 _ (by omega)]
theorem Lik.nr7 {w w' : Nat → Int} (h : Lik w w') : nR w ≤ 7 := by have := h.1; unfold nR; omega
theorem Lik.ho {w w' : Nat → Int} (h : Lik w w') (v : Nat) {r : Nat} (hr : r < nR w) : hoW w' v r = hoW w v r := by
  have := h.nr7
  unfold hoW
  rw [h.2 _ (by omega), h.2 _ (by omega), h.2 _ (by omega)]
theorem Lik.ma {w w' : Nat → Int} (h : Lik w w') : maW w' = maW w := by
  funext v
  unfold maW
  rw [h.nr]
  exact mk_cg (fun r hr => h.ho v hr)
theorem Lik.ct {w w' : Nat → Int} (h : Lik w w') : ctW w' = ctW w := by
  funext v t
  have := h.nr7
  unfold ctW
  rw [h.nr]
  apply cn_cg
  intro r hr
  rw [h.ho v hr, h.2 _ (by omega)]
theorem Lik.rn {w w' : Nat → Int} (h : Lik w w') : ∀ v, rnW w' v = rnW w v
  | 0 => rfl
  | v + 1 => by rw [rnW, rnW, h.ma, h.rn v]
theorem Lik.tu {w w' : Nat → Int} (h : Lik w w') : tuW w' = tuW w := by funext v; unfold tuW; rw [h.ct]
theorem Lik.wy {w w' : Nat → Int} (h : Lik w w') : wyW w' = wyW w := by funext v; unfold wyW; rw [h.ct]
theorem Lik.se {w w' : Nat → Int} (h : Lik w w') : seW w' = seW w := by funext v s y; unfold seW; rw [h.ct, h.wy, h.2 17 (by omega)]
theorem Lik.ru {w w' : Nat → Int} (h : Lik w w') (hR : RuOk w) : RuOk w' := by
  have := h.nr7
  unfold RuOk at *
  rw [h.nr, h.2 18 (by omega)]
  refine ⟨hR.1, hR.2.1, fun r hr => ?_⟩
  rw [h.2 _ (by omega), h.2 _ (by omega)]
  exact hR.2.2 r hr
theorem Lik.lw {w w' : Nat → Int} (h : Lik w w') (hL : LwOk w) : LwOk w' := hL.cg (fun i hi => h.2 i (by omega))
theorem Lik.pe {w w' : Nat → Int} (h : Lik w w') (hP : PeOk w) : PeOk w' := hP.cg (h.2 17 (by omega)) (fun i _ => h.2 _ (by omega))
theorem drW_ne {w : Nat → Int} {o : Int} {i : Nat} (h : i ≠ 7) : drW w o i = w i := by
  unfold drW
  split
  · exact uW_ne h
  · rfl
theorem drW_lik {w : Nat → Int} (h : w 18 ≤ 7) (o : Int) : Lik w (drW w o) := ⟨h, fun i hi => drW_ne (by omega)⟩
theorem onW_ne {w : Nat → Int} {v : Int} {i : Nat} (h : i ≠ 4) (h' : i ≠ 5) : onW w v i = w i := by unfold onW; rw [uW_ne h', uW_ne h]
theorem m_plays2 {w w0 : Nat → Int} (hl : Lik w0 w) (hR : RuOk w0) (hP : PeOk w0) (d n : Nat) (s wy t : Int) (p o : Int) (g : zG) (hc : CuAt g w0 n s wy t) (ho : CuOk w0 n s wy) : ∃ g', Ev (d + 4) 164 40 [some (.inr (12, 0)), some (.inl p), some (.inl o), some (.inl 0)] [] (zRw g w) = some (some (.inl 0), zRw g' (uW (mvW (onW w n) (nxN n) (seW w0 n s wy) (wyW w0 n wy) (tuW w0 n)) 8 p)) ∧ Fr sPa g g' := by
  have hn : zRw g w 12 0 22 = (n : Int) := by rw [zRw_ne (by omega)]; exact hc.2.1
  have hl' : Lik w0 (onW w n) := ⟨hl.1, fun i hi => by rw [onW_ne (by omega) (by omega)]; exact hl.2 i hi⟩
  have hc' : CuAt (zRw g (onW w n)) (onW w n) n s wy t := by
    refine ⟨zRw_at _ _, ?_, ?_, ?_, ?_, ?_⟩
    · rw [zRw_ne (by omega)]; exact hc.2.1
    · rw [zRw_ne (by omega)]; exact hc.2.2.1
    · rw [zRw_ne (by omega)]; exact hc.2.2.2.1
    · rw [zRw_ne (by omega)]; exact hc.2.2.2.2.1
    · rw [zRw_ne (by omega), hl'.rn]; exact hc.2.2.2.2.2
  have ho' : CuOk (onW w n) n s wy := ⟨ho.1, by rw [hl'.2 17 (by omega)]; exact ho.2.1, ho.2.2⟩
  obtain ⟨g1, a1, a2, a3⟩ := m_goes' (hl'.ru hR) (by rw [hl'.2 17 (by omega)]; exact ⟨hP.1, hP.2.1⟩) (d + 1) n s wy t _ hc' ho'
  rw [hl'.se, hl'.wy, hl'.tu] at a2
  have r1 := zRw_of a2.1
  have a1' : EvM (d + 3) 180 [.inr (12, 0)] (zRw g (onW w n)) = some (none, zRw g1 (onW w n)) := by rw [← r1]; exact a1
  have c1 := a2.2.1
  have c2 := a2.2.2.1
  have c3 := a2.2.2.2.1
  have c4 := a2.2.2.2.2.1
  refine ⟨g1, ?_, ?_⟩
  · simp only [e164_0, e164_1, e164_4, e164_5, e164_6, e164_9, e164_12, e164_13, e164_14, e164_15, e164_18, e164_19, e164_20, e164_23, e164_24, e164_27, e164_30, e164_31, e164_34, e164_35, e164_38, e164_39, e164_40, e164_41, e164_44, e164_45, e164_46, e164_49, e164_52, e164_53, e164_56, e164_57, e164_58, e164_61, e164_62, e164_63, e164_64, e164_67, e164_70, e164_71, e164_72, e164_75, e164_76, e164_77, e164_78, e164_79, e164_80, e164_82, e164_85, e164_86, e164_89, e164_90, e164_91, e164_94, e164_95, e164_96, e164_99, e164_100, e164_101, e164_104, e164_105, e164_106, e164_109, e164_110, e164_111, e164_114, e164_115, e164_116, e164_119, e164_120, e164_121, e164_124, e164_125, e164_126, e164_129, e164_131, e164_132, e164_133, e164_134, zU_app, zbI_some, zbV_some, Int.reduceToNat, Int.reduceLE, Int.reduceLT, Int.reduceEq, Nat.reduceEqDiff, and_self, and_true, true_and, and_false, false_and, if_true, if_false, ne_eq, not_true_eq_false, not_false_eq_true, reduceCtorEq, zRw_at, zU_zRw, hn, m_most]
    have hrow : uW (uW w 4 (if (n : Int) < w 4 then w 4 else (n : Int))) 5 (zwr (w 5 + 1)) = onW w n := rfl
    have h5 : uW w 4 (if (n : Int) < w 4 then w 4 else (n : Int)) 5 = w 5 := uW_ne (by decide)
    simp only [h5, hrow, e164_0, e164_1, e164_4, e164_5, e164_6, e164_9, e164_12, e164_13, e164_14, e164_15, e164_18, e164_19, e164_20, e164_23, e164_24, e164_27, e164_30, e164_31, e164_34, e164_35, e164_38, e164_39, e164_40, e164_41, e164_44, e164_45, e164_46, e164_49, e164_52, e164_53, e164_56, e164_57, e164_58, e164_61, e164_62, e164_63, e164_64, e164_67, e164_70, e164_71, e164_72, e164_75, e164_76, e164_77, e164_78, e164_79, e164_80, e164_81, e164_82, e164_85, e164_86, e164_89, e164_90, e164_91, e164_94, e164_95, e164_96, e164_99, e164_100, e164_101, e164_104, e164_105, e164_106, e164_109, e164_110, e164_111, e164_114, e164_115, e164_116, e164_119, e164_120, e164_121, e164_124, e164_125, e164_126, e164_129, e164_131, e164_132, e164_133, e164_134, a1', zU_app, zbI_some, zbV_some, Int.reduceToNat, Int.reduceLE, Int.reduceLT, Int.reduceEq, Nat.reduceEqDiff, and_self, and_true, true_and, and_false, false_and, if_true, if_false, ne_eq, not_true_eq_false, not_false_eq_true, reduceCtorEq, zU_zRw, zRw_ne (show ¬ (12 = 46 ∧ 0 = 0) by omega), c1, c2, c3, c4]
    rfl
  · intro k j i h
    have h46 : ¬ (k = 46 ∧ j = 0) := fun q => h (Or.inr q)
    rw [a3 k j i (fun q => h (Or.inl q)), zRw_ne h46]
theorem m_plays3 {w : Nat → Int} (d p : Nat) (v o : Int) (g : zG) (hp : p < 8) (hg : GlOk w) (h17 : 0 ≤ w 17 ∧ w 17 ≤ 8) (h6 : 0 ≤ w 6 ∧ w 6 ≤ 100) (hv : g 12 0 22 = v) : Ev (d + 4) 164 40 [some (.inr (12, 0)), some (.inl (p : Int)), some (.inl o), some (.inl 1)] [] (zRw g w) = some (some (.inl 1), zRw g (uW (erW w p v) 8 p)) := by
  simp only [e164_0, e164_1, e164_4, e164_5, e164_6, e164_9, e164_12, e164_13, e164_14, e164_15, e164_18, e164_19, e164_20, e164_23, e164_24, e164_27, e164_30, e164_31, e164_34, e164_35, e164_38, e164_39, e164_40, e164_41, e164_44, e164_45, e164_46, e164_49, e164_52, e164_53, e164_56, e164_57, e164_58, e164_61, e164_62, e164_63, e164_64, e164_67, e164_70, e164_71, e164_72, e164_75, e164_76, e164_77, e164_78, e164_79, e164_80, e164_81, e164_82, e164_85, e164_86, e164_89, e164_90, e164_91, e164_94, e164_95, e164_96, e164_99, e164_100, e164_101, e164_104, e164_105, e164_106, e164_109, e164_110, e164_111, e164_114, e164_115, e164_116, e164_119, e164_120, e164_121, e164_124, e164_125, e164_126, e164_129, e164_131, e164_132, e164_133, e164_134, zU_app, zbI_some, zbV_some, Int.reduceToNat, Int.reduceLE, Int.reduceLT, Int.reduceEq, Nat.reduceEqDiff, and_self, and_true, true_and, and_false, false_and, if_true, if_false, ne_eq, not_true_eq_false, not_false_eq_true, reduceCtorEq, m_errs (d + 2) p v g w hp hg h17 h6 hv, zU_zRw]
  rw [if_pos (Or.inr trivial)]
/-- a number is played -/
theorem m_plays {w : Nat → Int} (hR : RuOk w) (hL : LwOk w) (hP : PeOk w) (hN : NoOk w) (hg : GlOk w) (h6 : 0 ≤ w 6 ∧ w 6 ≤ 100) (d : Nat) (g : zG) (hw : g 46 0 = w) : ∃ g', EvM (d + 4) 164 [.inr (12, 0)] g = some (some (.inl (zb (paB w = true))), g') ∧ g' 46 0 = paN w ∧ Fr sPa g g' := by
  obtain ⟨g1, a1, a2, a3⟩ := m_plays1 hR hL hP hN d g hw
  rw [a1]
  have h1 : 0 ≤ w 1 ∧ w 1 < w 17 := ⟨hN.2.1.1, hN.2.1.2 hP.1⟩
  obtain ⟨w1, w2, w3⟩ := whoW_spec hP h1.1 h1.2
  have h0 : (((w 0).toNat : Nat) : Int) = w 0 := by have := hN.1; omega
  have a3' : Fr sPa g g1 := a3.up (fun k j i q => Or.inl q)
  cases hb : paB w with
  | true =>
    rw [zb_t rfl]
    have c22 : g1 12 0 22 = w 0 := by rw [a2.2.1, h0]
    rw [m_plays3 d (paW w) (w 0) (oaW w) g1 w2 (hg.cg (fun i hi => drW_ne (by omega))) (by rw [drW_ne (by omega)]; exact ⟨by have := hP.1; omega, hP.2.1⟩) (by rw [drW_ne (by omega)]; exact h6) c22]
    refine ⟨_, rfl, ?_, ?_⟩
    · rw [zRw_at]
      unfold paN
      rw [hb, if_pos rfl]
    · intro k j i h
      rw [zRw_ne (fun q => h (Or.inr q))]
      exact a3' k j i h
  | false =>
    rw [zb_f (by decide)]
    obtain ⟨g2, b1, b2⟩ := m_plays2 (drW_lik hR.2.1 (oaW w)) hR hP d (w 0).toNat _ _ _ (paW w : Int) (oaW w) g1 a2 ⟨by have := hN.1; omega, h1, hN.2.2.1⟩
    refine ⟨_, b1, ?_, ?_⟩
    · rw [zRw_at]
      unfold paN
      rw [hb, if_neg (by decide), h0]
    · intro k j i h
      rw [zRw_ne (fun q => h (Or.inr q)), b2 k j i h]
      exact a3' k j i h
