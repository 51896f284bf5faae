/-! both hold the same -/
def I1 (g : zG) : Prop := ∃ ls n t f, VOk (g 46 0) ls ∧ RdAt g 0 (g 46 0) ls ∧ HiAt g n f ∧ HrAt g n t f (g 46 0) ls
def I2 (g : zG) : Prop := g 11 0 2 = g 12 0 4 ∧ (g 12 0 4 = 0 ∨ (g 12 0 4 = 1 ∧ ∃ kl, VOk (g 47 0) kl ∧ RdAt g 1 (g 47 0) kl))
def I3 (g : zG) : Prop := ∃ T, TaAt g (g 51 0) T ∧ ByOk (g 51 0) T ∧ TpAt g (g 51 0) T
def I4 (g : zG) : Prop := g 11 0 7 = g 12 0 19 ∧ g 11 0 8 = g 12 0 21
def Inv (s : Nat → Nat → Int) (g : zG) : Prop := I1 g ∧ I2 g ∧ I3 g ∧ I4 g ∧ g 60 = s
def sD1 : Nat → Nat → Nat → Prop := fun k a x => sRd 0 k a x ∨ sHs k a x ∨ (k = 46 ∧ a = 0) ∨ (k = 48 ∧ a = 0) ∨ (k = 12 ∧ a = 0 ∧ x = 3)
def sD2 : Nat → Nat → Nat → Prop := fun k a x => sRd 1 k a x ∨ (k = 11 ∧ a = 0 ∧ x = 2) ∨ (k = 12 ∧ a = 0 ∧ x = 4) ∨ (k = 47 ∧ a = 0)
def sD3 : Nat → Nat → Nat → Prop := fun k a x => (k = 51 ∧ a = 0) ∨ (k = 12 ∧ a = 0 ∧ x = 12) ∨ (k = 9 ∧ a = 0 ∧ x = 0) ∨ (k = 43 ∧ a = 0)
def sD4 : Nat → Nat → Nat → Prop := fun k a x => (k = 11 ∧ a = 0 ∧ (x = 7 ∨ x = 8)) ∨ (k = 12 ∧ a = 0 ∧ (x = 19 ∨ x = 21))
theorem HiAt.on {g g' : zG} {n : Nat} {f : Nat → Nat → Int} (h : HiAt g n f) (e : ∀ k x, (k = 48) ∨ (k = 12 ∧ x = 3) → g' k 0 x = g k 0 x) : HiAt g' n f := ⟨by rw [e 12 3 (by omega)]; exact h.1, h.2.1, fun q hq i hi => by rw [e 48 _ (by omega)]; exact h.2.2 q hq i hi⟩
theorem I1.on {g g' : zG} (h : I1 g) (e : ∀ k a x, sD1 k a x → g' k a x = g k a x) : I1 g' := by
  obtain ⟨ls, n, t, f, h1, h2, h3, h4⟩ := h
  have ew : g' 46 0 = g 46 0 := funext fun x => e 46 0 x (Or.inr (Or.inr (Or.inl ⟨rfl, rfl⟩)))
  refine ⟨ls, n, t, f, by rw [ew]; exact h1, by rw [ew]; exact h2.on (fun k a x q => e k a x (Or.inl q)), h3.on (fun k x q => e k 0 x ?_), by rw [ew]; exact h4.on (fun k a x q => e k a x (Or.inr (Or.inl q)))⟩
  rcases q with q | q
  · exact Or.inr (Or.inr (Or.inr (Or.inl ⟨q, rfl⟩)))
  · exact Or.inr (Or.inr (Or.inr (Or.inr ⟨q.1, rfl, q.2⟩)))
theorem I2.on {g g' : zG} (h : I2 g) (e : ∀ k a x, sD2 k a x → g' k a x = g k a x) : I2 g' := by
  have ew : g' 47 0 = g 47 0 := funext fun x => e 47 0 x (Or.inr (Or.inr (Or.inr ⟨rfl, rfl⟩)))
  have e1 : g' 11 0 2 = g 11 0 2 := e 11 0 2 (Or.inr (Or.inl ⟨rfl, rfl, rfl⟩))
  have e2 : g' 12 0 4 = g 12 0 4 := e 12 0 4 (Or.inr (Or.inr (Or.inl ⟨rfl, rfl, rfl⟩)))
  unfold I2
  rw [ew, e1, e2]
  refine ⟨h.1, ?_⟩
  rcases h.2 with q | ⟨q1, kl, q2, q3⟩
  · exact Or.inl q
  · exact Or.inr ⟨q1, kl, q2, q3.on (fun k a x q => e k a x (Or.inl q))⟩
theorem I3.on {g g' : zG} (h : I3 g) (e : ∀ k a x, sD3 k a x → g' k a x = g k a x) : I3 g' := by
  obtain ⟨T, ⟨t1, t2, t3⟩, h2, h3⟩ := h
  have ew : g' 51 0 = g 51 0 := funext fun x => e 51 0 x (Or.inl ⟨rfl, rfl⟩)
  refine ⟨T, ⟨rfl, by rw [e 12 0 12 (Or.inr (Or.inl ⟨rfl, rfl, rfl⟩))]; exact t2, t3⟩, by rw [ew]; exact h2, by rw [ew]; exact h3.on (fun k x q => e k 0 x (by unfold sD3; omega))⟩
theorem I4.on {g g' : zG} (h : I4 g) (e : ∀ k a x, sD4 k a x → g' k a x = g k a x) : I4 g' := by
  unfold I4
  rw [e 11 0 7 (by unfold sD4; omega), e 11 0 8 (by unfold sD4; omega), e 12 0 19 (by unfold sD4; omega), e 12 0 21 (by unfold sD4; omega)]
  exact h
theorem Inv.on {s : Nat → Nat → Int} {g g' : zG} (h : Inv s g) (e1 : ∀ k a x, sD1 k a x → g' k a x = g k a x) (e2 : ∀ k a x, sD2 k a x → g' k a x = g k a x) (e3 : ∀ k a x, sD3 k a x → g' k a x = g k a x) (e4 : ∀ k a x, sD4 k a x → g' k a x = g k a x) (e5 : ∀ a x, g' 60 a x = g 60 a x) : Inv s g' := ⟨h.1.on e1, h.2.1.on e2, h.2.2.1.on e3, h.2.2.2.1.on e4, by rw [← h.2.2.2.2]; funext a x; exact e5 a x⟩
/-- both answer alike, and hold the same after it -/
def Bth (s : Nat → Nat → Int) (y1 y2 : Nat) (as : List zV) (g : zG) : Prop := ∃ r g1 g2, EvM 39 y1 (.inr (11, 0) :: as) g = some (some (.inl r), g1) ∧ EvM 39 y2 (.inr (12, 0) :: as) g1 = some (some (.inl r), g2) ∧ g1 60 = s ∧ Inv s g2
def sQc : Nat → Nat → Nat → Prop := fun k a x => sTt k a x ∨ sRu 2 k a x
def sQm : Nat → Nat → Nat → Prop := fun k a x => (k = 12 ∧ a = 0 ∧ 22 ≤ x) ∨ (52 ≤ k ∧ k ≤ 56)
theorem Inv.qc {s : Nat → Nat → Int} {g g' : zG} (h : Inv s g) (hf : Fr sQc g g') : Inv s g' := by
  refine h.on (fun k a x q => hf k a x ?_) (fun k a x q => hf k a x ?_) (fun k a x q => hf k a x ?_) (fun k a x q => hf k a x ?_) (fun a x => hf 60 a x ?_)
  · unfold sD1 sRd sHs at q; unfold sQc sTt sLw sSk sRu; omega
  · unfold sD2 sRd at q; unfold sQc sTt sLw sSk sRu; omega
  · unfold sD3 at q; unfold sQc sTt sLw sSk sRu; omega
  · unfold sD4 at q; unfold sQc sTt sLw sSk sRu; omega
  · unfold sQc sTt sLw sSk sRu; omega
theorem Inv.qm {s : Nat → Nat → Int} {g g' : zG} (h : Inv s g) (hf : Fr sQm g g') : Inv s g' := by
  refine h.on (fun k a x q => hf k a x ?_) (fun k a x q => hf k a x ?_) (fun k a x q => hf k a x ?_) (fun k a x q => hf k a x ?_) (fun a x => hf 60 a x ?_)
  · unfold sD1 sRd sHs at q; unfold sQm; omega
  · unfold sD2 sRd at q; unfold sQm; omega
  · unfold sD3 at q; unfold sQm; omega
  · unfold sD4 at q; unfold sQm; omega
  · unfold sQm; omega
theorem b_q {s : Nat → Nat → Int} {g : zG} (h : Inv s g) {y1 y2 : Nat} {as : List zV} {r : Int} (e1 : ∃ g1, EvM 39 y1 (.inr (11, 0) :: as) g = some (some (.inl r), g1) ∧ Fr sQc g g1) (e2 : ∀ g1 : zG, Inv s g1 → g1 46 0 = g 46 0 → ∃ g2, EvM 39 y2 (.inr (12, 0) :: as) g1 = some (some (.inl r), g2) ∧ Fr sQm g1 g2) : Bth s y1 y2 as g := by
  obtain ⟨g1, q1, f1⟩ := e1
  have h1 := h.qc f1
  obtain ⟨g2, q2, f2⟩ := e2 g1 h1 (funext fun x => f1 46 0 x (by unfold sQc sTt sLw sSk sRu; omega))
  exact ⟨r, g1, g2, q1, q2, h1.2.2.2.2, h1.qm f2⟩
theorem cur_qm {g g' : zG} (h : Fr sCur g g') : Fr sQm g g' := h.up (fun k a x q => by unfold sCur at q; unfold sQm; omega)
theorem wds_qm {g g' : zG} (h : Fr sWds g g') : Fr sQm g g' := h.up (fun k a x q => by unfold sWds sCur at q; unfold sQm; omega)
theorem tt_qc {g g' : zG} (h : Fr sTt g g') : Fr sQc g g' := h.up (fun k a x q => Or.inl q)
section BQ
variable {s : Nat → Nat → Int} {g : zG}
theorem b_whose (h : Inv s g) (x : Int) : Bth s 195 198 [.inl x] g := by
  obtain ⟨ls, n, t, f, hV, hR, -⟩ := h.1
  obtain ⟨g1, q1, f1⟩ := k_whose hV.1 35 x g hR
  refine b_q h ⟨g1, q1, tt_qc f1⟩ (fun g1 h1 ew => ?_)
  obtain ⟨g2, q2, f2⟩ := m_whose hV.1.1.1 hV.1.1.2.2.2.2.1 hV.1.1.2.2.2.2.2.1 35 x g1 ew
  exact ⟨g2, q2, cur_qm f2⟩
theorem b_get (h : Inv s g) (x : Int) : Bth s 200 202 [.inl x] g := by
  obtain ⟨ls, n, t, f, hV, hR, -⟩ := h.1
  obtain ⟨g1, q1, f1⟩ := k_get hV.1 33 x g hR
  refine b_q h ⟨g1, q1, tt_qc f1⟩ (fun g1 h1 ew => ?_)
  obtain ⟨g2, q2, f2⟩ := m_get hV.1.1.1 hV.1.1.2.2.1 hV.1.1.2.2.2.2.1 hV.1.1.2.2.2.2.2.1 35 x g1 ew
  exact ⟨g2, q2, cur_qm f2⟩
theorem b_hardest (h : Inv s g) (x : Int) : Bth s 204 205 [.inl x] g := by
  obtain ⟨ls, n, t, f, hV, hR, -⟩ := h.1
  obtain ⟨g1, q1, f1⟩ := k_hardest hV.1 33 x g hR
  refine b_q h ⟨g1, q1, tt_qc f1⟩ (fun g1 h1 ew => ?_)
  obtain ⟨g2, q2, f2⟩ := m_hardest hV.1.1.1 hV.1.1.2.2.1 hV.1.1.2.2.2.2.1 hV.1.1.2.2.2.2.2.1 35 x g1 ew
  exact ⟨g2, q2, cur_qm f2⟩
theorem b_words (h : Inv s g) (a x : Int) : Bth s 206 211 [.inl a, .inl x] g := by
  obtain ⟨ls, n, t, f, hV, hR, -⟩ := h.1
  obtain ⟨g1, q1, f1⟩ := k_words hV.1 35 a x g hR
  refine b_q h ⟨g1, q1, tt_qc f1⟩ (fun g1 h1 ew => ?_)
  obtain ⟨g2, q2, f2⟩ := m_words hV.1.1.1 hV.1.1.2.2.2.1 hV.1.1.2.2.2.2.1 34 a x g1 ew
  exact ⟨g2, q2, wds_qm f2⟩
theorem b_sit (h : Inv s g) (x : Int) : Bth s 214 216 [.inl x] g := by
  obtain ⟨ls, n, t, f, hV, hR, -⟩ := h.1
  obtain ⟨g1, q1, f1⟩ := k_sit hV.1 35 x g hR
  refine b_q h ⟨g1, q1, tt_qc f1⟩ (fun g1 h1 ew => ?_)
  obtain ⟨g2, q2, f2⟩ := m_sit hV.1.1.1 hV.1.1.2.2.2.1 hV.1.1.2.2.2.2.1 34 x g1 ew
  exact ⟨g2, q2, wds_qm f2⟩
theorem b_plain (h : Inv s g) (a b x : Int) : Bth s 217 220 [.inl a, .inl b, .inl x] g := by
  obtain ⟨ls, n, t, f, hV, hR, -⟩ := h.1
  obtain ⟨g1, q1, f1⟩ := k_plain hV.1 36 a b x g hR
  exact b_q h ⟨g1, q1, tt_qc f1⟩ (fun g1 h1 ew => ⟨g1, m_plain hV.1.1.1 37 a b x g1 ew, Fr.rf⟩)
theorem b_fewest (h : Inv s g) (a b x : Int) : Bth s 226 229 [.inl a, .inl b, .inl x] g := by
  obtain ⟨ls, n, t, f, hV, hR, -⟩ := h.1
  obtain ⟨g1, q1, f1⟩ := k_fewest hV.1 36 a b x g hR
  exact b_q h ⟨g1, q1, tt_qc f1⟩ (fun g1 h1 ew => ⟨g1, m_fewest hV.1.1.1 36 a b x g1 ew, Fr.rf⟩)
theorem b_seating (h : Inv s g) (a x : Int) : Bth s 231 240 [.inl a, .inl x] g := by
  obtain ⟨ls, n, t, f, hV, hR, -⟩ := h.1
  obtain ⟨g1, q1, f1⟩ := k_seating hV.1 33 a x g hR
  refine b_q h ⟨g1, q1, tt_qc f1⟩ (fun g1 h1 ew => ?_)
  obtain ⟨g2, q2, f2⟩ := m_seating hV.1.1.1 hV.1.1.2.2.1 hV.1.1.2.2.2.1 28 a x g1 ew
  exact ⟨g2, q2, f2.up (fun k a x q => by unfold sSt sCur at q; unfold sQm; omega)⟩
theorem b_has (h : Inv s g) (x : Int) : Bth s 190 191 [.inl x] g := by
  obtain ⟨ls, n, t, f, hV, hR, -⟩ := h.1
  exact b_q h ⟨g, k_has hV.1 37 x g hR, Fr.rf⟩ (fun g1 h1 ew => ⟨g1, m_has hV.1.1.1 37 x g1 ew, Fr.rf⟩)
theorem b_told (h : Inv s g) (a x : Int) : Bth s 184 189 [.inl a, .inl x] g := by
  obtain ⟨ls, n, t, f, hV, hR, -⟩ := h.1
  exact b_q h ⟨g, k_told hV.1 37 a x g hR, Fr.rf⟩ (fun g1 h1 ew => ⟨g1, m_told hV.1.1.1 37 a x g1 ew, Fr.rf⟩)
theorem b_book (h : Inv s g) (a x : Int) : Bth s 192 194 [.inl a, .inl x] g := by
  obtain ⟨ls, n, t, f, hV, hR, -⟩ := h.1
  refine b_q h ⟨g, k_book hV.1 38 a x g hR, Fr.rf⟩ (fun g1 h1 ew => ?_)
  have := m_book 38 a x g1 (by rw [ew]; exact hV.1.1.2.2.2.2.2.2.2)
  rw [ew] at this
  exact ⟨g1, this, Fr.rf⟩
theorem b_behind (h : Inv s g) (a x : Int) : Bth s 242 244 [.inl a, .inl x] g := by
  obtain ⟨ls, n, t, f, hV, hR, -⟩ := h.1
  refine b_q h ⟨g, k_behind hV.1 38 a x g hR, Fr.rf⟩ (fun g1 h1 ew => ?_)
  have h17 := hV.1.1.2.2.2.1
  have := m_behind 37 a x g1 (by rw [ew]; omega) (by rw [ew]; exact hV.1.1.2.2.2.2.2.2.2)
  rw [ew] at this
  exact ⟨g1, this, Fr.rf⟩
theorem b_of (h : Inv s g) (a x : Int) : Bth s 181 183 [.inl a, .inl x] g := by
  obtain ⟨ls, n, t, f, hV, hR, -⟩ := h.1
  obtain ⟨g1, q1, f1⟩ := k_of hV.1 33 a x g hR
  refine b_q h ⟨g1, q1, tt_qc f1⟩ (fun g1 h1 ew => ?_)
  obtain ⟨g2, q2, f2⟩ := m_of hV.1.1.1 hV.1.1.2.2.1 hV.1.1.2.2.2.1 hV.1.1.2.2.2.2.2.1 35 a x g1 ew
  exact ⟨g2, q2, cur_qm f2⟩
theorem b_look (h : Inv s g) (x : Int) : Bth s 253 254 [.inl x] g := by
  obtain ⟨ls, n, t, f, hV, hR, hH, hK⟩ := h.1
  have q1 := k_look 39 x (n : Int) g hR hV.1.2.2.1 hK.1
  have q2 := m_look 39 x g
  rw [hH.1] at q2
  exact ⟨_, g, g, q1, q2, h.2.2.2.2, h⟩
theorem b_fault (h : Inv s g) (x : Int) : Bth s 130 131 [.inl x] g := by
  have q1 := k_fault 39 x g
  have q2 := m_fault 39 x g
  rw [h.2.2.2.1.1, h.2.2.2.1.2] at q1
  exact ⟨_, g, g, q1, q2, h.2.2.2.2, h⟩
end BQ
