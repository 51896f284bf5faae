/-! a law that was read can be reckoned, in a narrow room; tests come to 0 or 1 -/
def okB (o : Int × Int) (n : Nat) : Option Nat :=
  if o.1 = 0 then (if n < 40 ∧ 0 ≤ o.2 then some (n + 1) else none)
  else if 1 ≤ o.1 ∧ o.1 ≤ 7 then (if n < 40 then some (n + 1) else none)
  else if o.1 = 16 then (if 1 ≤ n ∧ n < 40 ∧ 0 < o.2 then some n else none)
  else if o.1 = 20 then (if 1 ≤ n then some n else none)
  else if 13 ≤ o.1 ∧ o.1 ≤ 22 then (if 2 ≤ n then some (n - 1) else none) else none
def dpB : List (Int × Int) → Nat → Option Nat
  | [], n => some n
  | o :: l, n => (okB o n).bind (dpB l)
theorem okB_okO {o : Int × Int} {n m : Nat} (h : okB o n = some m) : okO o n = some m := by
  obtain ⟨o1, o2⟩ := o
  unfold okB at h
  unfold okO
  dsimp only at h ⊢
  by_cases h0 : o1 = 0
  · rw [if_pos h0] at h
    obtain ⟨-, h⟩ := zif h
    rw [if_pos (by omega)]
    exact h
  · rw [if_neg h0] at h
    by_cases h1 : 1 ≤ o1 ∧ o1 ≤ 7
    · rw [if_pos h1] at h
      obtain ⟨-, h⟩ := zif h
      rw [if_pos (by omega)]
      exact h
    · rw [if_neg h1] at h
      rw [if_neg (by omega)]
      by_cases h2 : o1 = 16
      · rw [if_pos h2] at h ⊢
        obtain ⟨q, h⟩ := zif h
        rw [if_pos (by omega)]
        exact h
      · rw [if_neg h2] at h ⊢
        exact h
theorem dpB_dpO : ∀ {l : List (Int × Int)} {n m : Nat}, dpB l n = some m → dpO l n = some m
  | [], n, m, h => h
  | o :: l, n, m, h => by
    rw [dpB] at h
    rw [dpO]
    cases hk : okB o n with
    | none => rw [hk] at h; cases h
    | some q =>
      rw [hk] at h
      rw [okB_okO hk]
      exact dpB_dpO (l := l) h
theorem dpB_ap : ∀ (a b : List (Int × Int)) (n : Nat), dpB (a ++ b) n = (dpB a n).bind (dpB b)
  | [], b, n => rfl
  | o :: a, b, n => by
    rw [List.cons_append, dpB, dpB]
    cases okB o n with
    | none => rfl
    | some m => exact dpB_ap a b m
theorem exO_ap (f : Nat → Int) : ∀ (a b : List (Int × Int)) (st : List Int), exO f (a ++ b) st = exO f b (exO f a st)
  | [], b, st => rfl
  | o :: a, b, st => by
    rw [List.cons_append, exO, exO]
    exact exO_ap f a b _
def Hg (K : Nat) (s : List (Int × Int)) : Prop := ∀ n, n + K ≤ 40 → dpB s n = some (n + 1)
def Ae (K : Nat) (s : List (Int × Int)) : Prop := Hg K s ∧ ∀ f : Nat → Int, ∃ x : Int, ∀ st, exO f s st = x :: st
def Be (K : Nat) (s : List (Int × Int)) : Prop := Hg K s ∧ ∀ f : Nat → Int, ∃ x : Int, (x = 0 ∨ x = 1) ∧ ∀ st, exO f s st = x :: st
theorem Hg.up {a b : Nat} {s : List (Int × Int)} (h : Hg a s) (hab : a ≤ b) : Hg b s := fun n hn => h n (by omega)
theorem Be.up {a b : Nat} {s : List (Int × Int)} (h : Be a s) (hab : a ≤ b) : Be b s := ⟨h.1.up hab, h.2⟩
theorem Ae.up {a b : Nat} {s : List (Int × Int)} (h : Ae a s) (hab : a ≤ b) : Ae b s := ⟨h.1.up hab, h.2⟩
theorem okB_bin {o : Int} (ho : (13 ≤ o ∧ o ≤ 22) ∧ o ≠ 16 ∧ o ≠ 20) (n : Nat) : okB (o, 0) (n + 1 + 1) = some (n + 1) := by
  unfold okB
  rw [if_neg (show ¬ o = 0 by omega), if_neg (show ¬ (1 ≤ o ∧ o ≤ 7) by omega), if_neg (show ¬ o = 16 by omega), if_neg (show ¬ o = 20 by omega), if_pos (show 13 ≤ o ∧ o ≤ 22 from ho.1), if_pos (by omega)]
  rfl
theorem Hg.jo {a b c : Nat} {s t : List (Int × Int)} (h : Hg a s) (h' : Hg b t) {o : Int} (ho : (13 ≤ o ∧ o ≤ 22) ∧ o ≠ 16 ∧ o ≠ 20) (ha : a ≤ c) (hb : b + 1 ≤ c) : Hg c (s ++ t ++ [(o, 0)]) := by
  intro n hn
  rw [dpB_ap, dpB_ap, h n (by omega)]
  show ((dpB t (n + 1)).bind _) = _
  rw [h' (n + 1) (by omega)]
  show dpB [(o, 0)] (n + 1 + 1) = _
  rw [dpB, okB_bin ho]
  rfl
theorem exO_bin (f : Nat → Int) {o : Int} (ho : (13 ≤ o ∧ o ≤ 22) ∧ o ≠ 16 ∧ o ≠ 20) (x y : Int) (st : List Int) : exO f [(o, 0)] (y :: x :: st) = opB o x y :: st := by
  rw [exO, exO]
  unfold opE
  rw [if_neg (show ¬ o < 13 by omega), if_neg (show ¬ o = 16 by omega), if_neg (show ¬ o = 20 by omega)]
theorem exO_jo {f : Nat → Int} {s t : List (Int × Int)} {x y : Int} (h : ∀ st, exO f s st = x :: st) (h' : ∀ st, exO f t st = y :: st) {o : Int} (ho : (13 ≤ o ∧ o ≤ 22) ∧ o ≠ 16 ∧ o ≠ 20) (st : List Int) : exO f (s ++ t ++ [(o, 0)]) st = opB o x y :: st := by
  rw [exO_ap, exO_ap, h, h', exO_bin f ho]
theorem Ae.jo {a b c : Nat} {s t : List (Int × Int)} (h : Ae a s) (h' : Ae b t) {o : Int} (ho : (13 ≤ o ∧ o ≤ 22) ∧ o ≠ 16 ∧ o ≠ 20) (ha : a ≤ c) (hb : b + 1 ≤ c) : Ae c (s ++ t ++ [(o, 0)]) := by
  refine ⟨h.1.jo h'.1 ho ha hb, fun f => ?_⟩
  obtain ⟨x, hx⟩ := h.2 f
  obtain ⟨y, hy⟩ := h'.2 f
  exact ⟨_, exO_jo hx hy ho⟩
theorem Ae.cm {a b c : Nat} {s t : List (Int × Int)} (h : Ae a s) (h' : Ae b t) {o : Int} (ho : 17 ≤ o ∧ o ≤ 19) (ha : a ≤ c) (hb : b + 1 ≤ c) : Be c (s ++ t ++ [(o, 0)]) := by
  refine ⟨h.1.jo h'.1 (by omega) ha hb, fun f => ?_⟩
  obtain ⟨x, hx⟩ := h.2 f
  obtain ⟨y, hy⟩ := h'.2 f
  refine ⟨_, ?_, exO_jo hx hy (by omega)⟩
  rcases (show o = 17 ∨ o = 18 ∨ o = 19 by omega) with rfl | rfl | rfl
  · exact zb_01 (p := x < y)
  · exact zb_01 (p := x = y)
  · exact zb_01 (p := y < x)
theorem Be.jo {a b c : Nat} {s t : List (Int × Int)} (h : Be a s) (h' : Be b t) {o : Int} (ho : o = 21 ∨ o = 22) (ha : a ≤ c) (hb : b + 1 ≤ c) : Be c (s ++ t ++ [(o, 0)]) := by
  refine ⟨h.1.jo h'.1 (by omega) ha hb, fun f => ?_⟩
  obtain ⟨x, q, hx⟩ := h.2 f
  obtain ⟨y, q', hy⟩ := h'.2 f
  refine ⟨_, ?_, exO_jo hx hy (by omega)⟩
  rcases ho with rfl | rfl <;> rcases q with rfl | rfl <;> rcases q' with rfl | rfl <;> decide
theorem Be.no {a : Nat} {s : List (Int × Int)} (h : Be a s) : Be a (s ++ [(20, 0)]) := by
  refine ⟨fun n hn => ?_, fun f => ?_⟩
  · rw [dpB_ap, h.1 n hn]
    show dpB [(20, 0)] (n + 1) = _
    rw [dpB]
    unfold okB
    rw [if_neg (by decide), if_neg (by decide), if_neg (by decide), if_pos rfl, if_pos (by omega)]
    rfl
  · obtain ⟨x, q, hx⟩ := h.2 f
    refine ⟨zwr (1 - x), ?_, fun st => ?_⟩
    · rcases q with rfl | rfl <;> decide
    · rw [exO_ap, hx]
      rfl
theorem Ae.di {s : List (Int × Int)} (h : Ae 2 s) {v : Int} (hv : 0 < v) : Ae 2 (s ++ [(16, v)]) := by
  refine ⟨fun n hn => ?_, fun f => ?_⟩
  · rw [dpB_ap, h.1 n hn]
    show dpB [(16, v)] (n + 1) = _
    rw [dpB]
    unfold okB
    rw [if_neg (show ¬ (16 : Int) = 0 by decide), if_neg (show ¬ ((1 : Int) ≤ 16 ∧ (16 : Int) ≤ 7) by decide), if_pos rfl, if_pos (show 1 ≤ n + 1 ∧ n + 1 < 40 ∧ 0 < v from ⟨by omega, by omega, hv⟩)]
    rfl
  · obtain ⟨x, hx⟩ := h.2 f
    refine ⟨zwr (Int.tdiv x v), fun st => ?_⟩
    rw [exO_ap, hx]
    rfl
def VN (c : (Int × Nat × Int × Nat)) : Prop := c.1 = 2 → 0 ≤ c.2.2.1
def QR (Q : List (Int × Int) → Prop) (r : ((Int × Nat) ⊕ ((Int × Nat × Int × Nat) × List (Int × Int)))) : Prop := ∀ c s, r = .inr (c, s) → Q s ∧ VN c
theorem pUnit_ae {nx : (Int × Nat × Int × Nat) → (Int × Nat × Int × Nat)} (hn : ∀ c, VN (nx c)) {c : (Int × Nat × Int × Nat)} (hc : VN c) : QR (Ae 1) (pUnit nx c) := by
  intro c' s e
  unfold pUnit at e
  by_cases q : c.1 = 2 ∨ (41 ≤ c.1 ∧ c.1 ≤ 47)
  · rw [if_pos q] at e
    cases e
    refine ⟨⟨fun n h => ?_, fun f => ?_⟩, hn _⟩
    · rw [dpB]
      unfold okB
      by_cases q2 : 41 ≤ c.1 ∧ c.1 ≤ 47
      · rw [if_pos q2, if_neg (show ¬ c.1 - 40 = 0 by omega), if_pos (show 1 ≤ c.1 - 40 ∧ c.1 - 40 ≤ 7 by omega), if_pos (by omega)]
        rfl
      · rw [if_neg q2, if_pos rfl, if_pos (show n < 40 ∧ 0 ≤ c.2.2.1 from ⟨by omega, hc (by omega)⟩)]
        rfl
    · refine ⟨if (if 41 ≤ c.1 ∧ c.1 ≤ 47 then c.1 - 40 else 0) = 0 then c.2.2.1 else f (if 41 ≤ c.1 ∧ c.1 ≤ 47 then c.1 - 40 else 0).toNat, fun st => ?_⟩
      rw [exO, exO]
      unfold opE
      rw [if_pos (show (if 41 ≤ c.1 ∧ c.1 ≤ 47 then c.1 - 40 else 0) < 13 by split <;> omega)]
  · rw [if_neg q] at e
    cases e
theorem pProL_ae {nx : (Int × Nat × Int × Nat) → (Int × Nat × Int × Nat)} (hn : ∀ c, VN (nx c)) : ∀ (m : Nat) (c : (Int × Nat × Int × Nat)) (s : List (Int × Int)), VN c → Ae 2 s → QR (Ae 2) (pProL nx m c s) := by
  intro m
  induction m with
  | zero =>
    intro c s hc h c' s' e
    cases e
    exact ⟨h, hc⟩
  | succ m ih =>
    intro c s hc h c' s' e
    rw [pProL] at e
    by_cases q : c.1 = 147
    · rw [if_pos q] at e
      by_cases q2 : (nx c).1 = 2
      · rw [if_pos q2] at e
        by_cases q3 : (nx c).2.2.1 = 0
        · rw [if_pos q3] at e; cases e
        · rw [if_neg q3] at e
          have := hn c q2
          exact ih _ _ (hn _) (h.di (by omega)) c' s' e
      · rw [if_neg q2] at e; cases e
    · rw [if_neg q] at e
      by_cases q2 : c.1 = 142
      · rw [if_pos q2] at e
        obtain ⟨c2, t, e1, e2⟩ := bnd_inr e
        obtain ⟨u1, u2⟩ := pUnit_ae hn (hn c) c2 t e1
        exact ih _ _ u2 (h.jo u1 (by omega) (by omega) (by omega)) c' s' e2
      · rw [if_neg q2] at e
        cases e
        exact ⟨h, hc⟩
theorem pPro_ae {nx : (Int × Nat × Int × Nat) → (Int × Nat × Int × Nat)} (hn : ∀ c, VN (nx c)) (m : Nat) {c : (Int × Nat × Int × Nat)} (hc : VN c) : QR (Ae 2) (pPro nx m c) := by
  intro c' s' e
  obtain ⟨c1, t, e1, e2⟩ := bnd_inr e
  obtain ⟨u1, u2⟩ := pUnit_ae hn hc c1 t e1
  exact pProL_ae hn m c1 t u2 (u1.up (by omega)) c' s' e2
theorem pSumL_ae {nx : (Int × Nat × Int × Nat) → (Int × Nat × Int × Nat)} (hn : ∀ c, VN (nx c)) (F : Nat) : ∀ (m : Nat) (c : (Int × Nat × Int × Nat)) (s : List (Int × Int)), VN c → Ae 3 s → QR (Ae 3) (pSumL nx F m c s) := by
  intro m
  induction m with
  | zero =>
    intro c s hc h c' s' e
    cases e
    exact ⟨h, hc⟩
  | succ m ih =>
    intro c s hc h c' s' e
    rw [pSumL] at e
    by_cases q : c.1 = 143 ∨ c.1 = 145
    · rw [if_pos q] at e
      obtain ⟨c2, t, e1, e2⟩ := bnd_inr e
      obtain ⟨u1, u2⟩ := pPro_ae hn F (hn c) c2 t e1
      exact ih _ _ u2 (h.jo u1 (by split <;> omega) (by omega) (by omega)) c' s' e2
    · rw [if_neg q] at e
      cases e
      exact ⟨h, hc⟩
theorem pSum_ae {nx : (Int × Nat × Int × Nat) → (Int × Nat × Int × Nat)} (hn : ∀ c, VN (nx c)) (F : Nat) {c : (Int × Nat × Int × Nat)} (hc : VN c) : QR (Ae 3) (pSum nx F c) := by
  intro c' s' e
  obtain ⟨c1, t, e1, e2⟩ := bnd_inr e
  obtain ⟨u1, u2⟩ := pPro_ae hn F hc c1 t e1
  exact pSumL_ae hn F F c1 t u2 (u1.up (by omega)) c' s' e2
theorem pJoL_be {nx : (Int × Nat × Int × Nat) → (Int × Nat × Int × Nat)} (hn : ∀ c, VN (nx c)) {one : (Int × Nat × Int × Nat) → ((Int × Nat) ⊕ ((Int × Nat × Int × Nat) × List (Int × Int)))} (w : Int) {o : Int} (ho : o = 21 ∨ o = 22) {K : Nat} (h1 : ∀ c, VN c → QR (Be K) (one c)) : ∀ (m : Nat) (c : (Int × Nat × Int × Nat)) (s : List (Int × Int)), VN c → Be (K + 1) s → QR (Be (K + 1)) (pJoL nx one w o m c s) := by
  intro m
  induction m with
  | zero =>
    intro c s hc h c' s' e
    cases e
    exact ⟨h, hc⟩
  | succ m ih =>
    intro c s hc h c' s' e
    rw [pJoL] at e
    by_cases q : c.1 = w
    · rw [if_pos q] at e
      obtain ⟨c2, t, e1, e2⟩ := bnd_inr e
      obtain ⟨u1, u2⟩ := h1 _ (hn c) c2 t e1
      exact ih _ _ u2 (h.jo u1 ho (by omega) (by omega)) c' s' e2
    · rw [if_neg q] at e
      cases e
      exact ⟨h, hc⟩
theorem pJo_be {nx : (Int × Nat × Int × Nat) → (Int × Nat × Int × Nat)} (hn : ∀ c, VN (nx c)) {one : (Int × Nat × Int × Nat) → ((Int × Nat) ⊕ ((Int × Nat × Int × Nat) × List (Int × Int)))} (w : Int) {o : Int} (F : Nat) (ho : o = 21 ∨ o = 22) {K : Nat} (h1 : ∀ c, VN c → QR (Be K) (one c)) (c : (Int × Nat × Int × Nat)) (hc : VN c) : QR (Be (K + 1)) (pJo nx one w o F c) := by
  intro c' s' e
  obtain ⟨c1, t, e1, e2⟩ := bnd_inr e
  obtain ⟨u1, u2⟩ := h1 c hc c1 t e1
  exact pJoL_be hn w ho h1 F c1 t u2 (u1.up (by omega)) c' s' e2
theorem cmO_rng {t : Int} (h : cmO t ≠ -1) : 17 ≤ cmO t ∧ cmO t ≤ 19 := by
  by_cases q1 : t = 160
  · rw [q1]; decide
  · by_cases q2 : t = 161
    · rw [q2]; decide
    · by_cases q3 : t = 162
      · rw [q3]; decide
      · exact absurd (by unfold cmO; rw [if_neg q1, if_neg q2, if_neg q3]) h
theorem pCmp_be {nx : (Int × Nat × Int × Nat) → (Int × Nat × Int × Nat)} (hn : ∀ c, VN (nx c)) (F : Nat) {c : (Int × Nat × Int × Nat)} (hc : VN c) : QR (Be 4) (pCmp nx F c) := by
  intro c' s' e
  obtain ⟨c1, t, e1, e2⟩ := bnd_inr e
  obtain ⟨u1, u2⟩ := pSum_ae hn F hc c1 t e1
  by_cases q : cmO c1.1 = -1
  · rw [if_pos q] at e2; cases e2
  · rw [if_neg q] at e2
    obtain ⟨c2, u, e3, e4⟩ := bnd_inr e2
    obtain ⟨v1, v2⟩ := pSum_ae hn F (hn _) c2 u e3
    cases e4
    exact ⟨u1.cm v1 (cmO_rng q) (by omega) (by omega), v2⟩
theorem pOne_be {nx : (Int × Nat × Int × Nat) → (Int × Nat × Int × Nat)} (hn : ∀ c, VN (nx c)) (F : Nat) : ∀ (k : Nat) (c : (Int × Nat × Int × Nat)), VN c → QR (Be (4 + 2 * k)) (pOne nx F k c) := by
  intro k
  induction k with
  | zero =>
    intro c hc c' s' e
    rw [pOne] at e
    by_cases q : c.1 = 6 ∨ c.1 = 140
    · rw [if_pos q] at e; cases e
    · rw [if_neg q] at e
      exact pCmp_be hn F hc c' s' e
  | succ k ih =>
    intro c hc c' s' e
    rw [pOne] at e
    by_cases q : c.1 = 6
    · rw [if_pos q] at e
      obtain ⟨c1, t, e1, e2⟩ := bnd_inr e
      obtain ⟨u1, u2⟩ := ih _ (hn _) c1 t e1
      cases e2
      exact ⟨u1.no.up (by omega), u2⟩
    · rw [if_neg q] at e
      by_cases q2 : c.1 = 140
      · rw [if_pos q2] at e
        obtain ⟨c1, t, e1, e2⟩ := bnd_inr e
        by_cases q3 : c1.1 = 141
        · rw [if_pos q3] at e2
          obtain ⟨u1, u2⟩ := pJo_be hn 4 F (Or.inr rfl) (pJo_be hn 5 F (Or.inl rfl) ih) _ (hn c) c1 t e1
          cases e2
          exact ⟨u1.up (by omega), hn _⟩
        · rw [if_neg q3] at e2; cases e2
      · rw [if_neg q2] at e
        obtain ⟨u1, u2⟩ := pCmp_be hn F hc c' s' e
        exact ⟨u1.up (by omega), u2⟩
theorem pAny_be {nx : (Int × Nat × Int × Nat) → (Int × Nat × Int × Nat)} (hn : ∀ c, VN (nx c)) (F : Nat) (c : (Int × Nat × Int × Nat)) (hc : VN c) : QR (Be 22) (pAny nx F 8 c) := pJo_be hn 4 F (Or.inr rfl) (pJo_be hn 5 F (Or.inl rfl) (pOne_be hn F 8)) c hc
def LiOk (l : (List (Int × Int) × List (Int × Int))) : Prop := Ae 3 l.1 ∧ (l.2 = [] ∨ Be 22 l.2)
theorem pLine_ok {nx : (Int × Nat × Int × Nat) → (Int × Nat × Int × Nat)} (hn : ∀ c, VN (nx c)) {F n : Nat} {c c' : (Int × Nat × Int × Nat)} {l : (List (Int × Int) × List (Int × Int))} (e : pLine nx F n c = .inr (c', l)) : LiOk l := by
  unfold pLine at e
  by_cases q : c.1 = 20
  · rw [if_pos q] at e
    by_cases q2 : n = 16
    · rw [if_pos q2] at e; cases e
    · rw [if_neg q2] at e
      cases hr : pSum nx F (nx c) with
      | inl y => rw [hr] at e; cases e
      | inr y =>
        rw [hr] at e
        obtain ⟨d1, s1⟩ := y
        have e : (match pWhen nx F d1 with | .inl e => .inl e | .inr (c2, t) => if c2.1 = 159 then .inr (nx c2, s1, t) else .inl (1, c2.2.1) : ((Int × Nat) ⊕ ((Int × Nat × Int × Nat) × List (Int × Int) × List (Int × Int)))) = .inr (c', l) := e
        obtain ⟨u1, u2⟩ := pSum_ae hn F (hn c) d1 s1 hr
        cases hw : pWhen nx F d1 with
        | inl y => rw [hw] at e; cases e
        | inr y =>
          rw [hw] at e
          obtain ⟨d2, t2⟩ := y
          have e : (if d2.1 = 159 then .inr (nx d2, s1, t2) else .inl (1, d2.2.1) : ((Int × Nat) ⊕ ((Int × Nat × Int × Nat) × List (Int × Int) × List (Int × Int)))) = .inr (c', l) := e
          by_cases q4 : d2.1 = 159
          · rw [if_pos q4] at e
            cases e
            refine ⟨u1, ?_⟩
            unfold pWhen at hw
            by_cases q3 : d1.1 = 3
            · rw [if_pos q3] at hw
              exact Or.inr (pAny_be hn F _ (hn d1) d2 t2 hw).1
            · rw [if_neg q3] at hw
              cases hw
              exact Or.inl rfl
          · rw [if_neg q4] at e; cases e
  · rw [if_neg q] at e; cases e
theorem pText_ok {nx : (Int × Nat × Int × Nat) → (Int × Nat × Int × Nat)} (hn : ∀ c, VN (nx c)) {F : Nat} : ∀ (m : Nat) (c : (Int × Nat × Int × Nat)) (ls ls' : List (List (Int × Int) × List (Int × Int))), (∀ l, l ∈ ls → LiOk l) → pText nx F m c ls = .inr ls' → ∀ l, l ∈ ls' → LiOk l := by
  intro m
  induction m with
  | zero =>
    intro c ls ls' h e
    cases e
    exact h
  | succ m ih =>
    intro c ls ls' h e
    rw [pText] at e
    by_cases q : c.1 = 0
    · rw [if_pos q] at e
      cases e
      exact h
    · rw [if_neg q] at e
      cases hr : pLine nx F ls.length c with
      | inl y => rw [hr] at e; cases e
      | inr y =>
        rw [hr] at e
        obtain ⟨c', l⟩ := y
        refine ih c' (ls ++ [l]) ls' (fun x hx => ?_) e
        rw [List.mem_append, List.mem_singleton] at hx
        rcases hx with z | z
        · exact h x z
        · rw [z]; exact pLine_ok hn hr
