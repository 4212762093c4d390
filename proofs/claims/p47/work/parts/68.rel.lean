section ZRL
variable {κ κ' : zKp} {μ μ' : zMu}
theorem zRm_o {x : Nat → Int32} {r q : Nat} (h : ¬ q = r) : zRm μ r x q = μ q := if_neg h
theorem zRm_s {x : Nat → Int32} {r : Nat} : zRm μ r x r = x := if_pos rfl
theorem zN_o {a b : Nat → Int32} {q : Nat} (h : 2 ≤ q) : zN μ a b q = μ q := by
  unfold zN
  rw [if_neg (by omega), if_neg (by omega)]
/-- the oldest state gives way -/
def zSh (μ : zMu) : zMu := fun r => if 10 ≤ r ∧ r < 17 then μ (r + 1) else μ r
theorem zSh_o {q : Nat} (h : q < 10 ∨ 17 ≤ q) : zSh μ q = μ q := if_neg (by omega)
theorem zSh_i {q : Nat} (h : q < 7) : zSh μ (10 + q) = μ (11 + q) := by
  unfold zSh
  rw [if_pos (by omega)]; congr 1; omega
/-- the past, with one state more -/
def zPu (μ : zMu) (k0 : Nat) (x : Nat → Int32) : zMu := if k0 = 8 then zRm (zSh μ) 17 x else zRm μ (10 + k0) x
def baP (κ : zKp) (μ : zMu) : Prop := κ 6 0 = μ 1 ∧ batI (μ 1) ∧ κ 8 0 = cellsOf (μ 1)
def chP (κ : zKp) : Prop := ∀ f i, f < 11 → i < 12 → chW (κ 9 f (9 * i + 3)) ∧ chW (κ 9 f (9 * i + 6))
def svP (κ : zKp) (μ : zMu) : Prop := (κ 0 0 1 = 0 ∧ μ 0 0 = 0) ∨ (κ 0 0 1 = 1 ∧ μ 0 0 = 1 ∧ κ 6 1 = μ 4 ∧ batI (μ 4) ∧ κ 8 1 = cellsOf (μ 4))
/-- the d states kept, the newest at k0 -/
def hsO (κ : zKp) (μ : zMu) (k0 d : Nat) : Prop := ∀ j, j < d → κ 6 (3 + (k0 + 8 - j) % 8) = μ (10 + (d - 1 - j)) ∧ batI (μ (10 + (d - 1 - j))) ∧ κ 8 (3 + (k0 + 8 - j) % 8) = cellsOf (μ (10 + (d - 1 - j)))
def hsP (κ : zKp) (μ : zMu) : Prop := ∃ k0 d : Nat, k0 < 8 ∧ d ≤ 8 ∧ κ 4 0 0 = nI k0 ∧ κ 4 0 1 = nI d ∧ μ 0 1 = nI d ∧ hsO κ μ k0 d
def wrP (κ : zKp) (μ : zMu) : Prop := κ 1 0 = μ 6 ∧ ∃ w : Nat, w ≤ 20 ∧ κ 0 0 0 = nI w ∧ μ 0 3 = nI w ∧ ∀ q, q < w → ∃ b : Nat, b < 127 ∧ μ 6 q = nI b
def txP (κ : zKp) (μ : zMu) : Prop := κ 3 0 = μ 7 ∧ ∃ n0 : Nat, n0 ≤ 60 ∧ κ 2 0 0 = nI n0 ∧ μ 0 4 = nI n0 ∧ txW (μ 7) n0
def erP (κ : zKp) (μ : zMu) : Prop := (κ 0 0 2 = μ 0 7 ∧ (μ 0 7 = -1 ∨ 0 ≤ μ 0 7)) ∧ (κ 0 0 3 = μ 0 8 ∧ (μ 0 8 = -1 ∨ 0 ≤ μ 0 8))
/-- what holds of both between two calls of the law -/
abbrev RR (κ : zKp) (μ : zMu) : Prop := baP κ μ ∧ chP κ ∧ svP κ μ ∧ hsP κ μ ∧ wrP κ μ ∧ txP κ μ ∧ erP κ μ
theorem RR.ba (h : RR κ μ) : baP κ μ := h.1
theorem RR.ch (h : RR κ μ) : chP κ := h.2.1
theorem RR.sv (h : RR κ μ) : svP κ μ := h.2.2.1
theorem RR.hs (h : RR κ μ) : hsP κ μ := h.2.2.2.1
theorem RR.wr (h : RR κ μ) : wrP κ μ := h.2.2.2.2.1
theorem RR.tx (h : RR κ μ) : txP κ μ := h.2.2.2.2.2.1
theorem RR.er (h : RR κ μ) : erP κ μ := h.2.2.2.2.2.2
theorem chP.keep (h : chP κ) (e : ∀ f, f < 11 → ∃ f2, f2 < 11 ∧ κ' 9 f = κ 9 f2) : chP κ' := fun f i hf hi => by
  obtain ⟨f2, h2, h3⟩ := e f hf
  rw [h3]
  exact h f2 i h2 hi
theorem svP.keep (h : svP κ μ) (e1 : κ' 0 0 1 = κ 0 0 1) (e2 : κ' 6 1 = κ 6 1) (e3 : κ' 8 1 = κ 8 1) (m1 : μ' 0 0 = μ 0 0) (m2 : μ' 4 = μ 4) : svP κ' μ' := by
  unfold svP
  rw [e1, e2, e3, m1, m2]
  exact h
theorem hsO.keep {k0 d : Nat} (hd8 : d ≤ 8) (h : hsO κ μ k0 d) (e6 : ∀ q, q < 8 → κ' 6 (3 + q) = κ 6 (3 + q)) (e8 : ∀ q, q < 8 → κ' 8 (3 + q) = κ 8 (3 + q)) (mr : ∀ r, 10 ≤ r → r < 18 → μ' r = μ r) : hsO κ' μ' k0 d := fun j hj => by
  rw [e6 _ (Nat.mod_lt _ (by decide)), e8 _ (Nat.mod_lt _ (by decide)), mr _ (by omega) (by omega)]
  exact h j hj
theorem hsP.keep (h : hsP κ μ) (e4 : κ' 4 0 = κ 4 0) (e6 : ∀ q, q < 8 → κ' 6 (3 + q) = κ 6 (3 + q)) (e8 : ∀ q, q < 8 → κ' 8 (3 + q) = κ 8 (3 + q)) (m1 : μ' 0 1 = μ 0 1) (mr : ∀ r, 10 ≤ r → r < 18 → μ' r = μ r) : hsP κ' μ' := by
  obtain ⟨k0, d, h1, h2, h3, h4, h5, h6⟩ := h
  exact ⟨k0, d, h1, h2, by rw [e4]; exact h3, by rw [e4]; exact h4, by rw [m1]; exact h5, h6.keep h2 e6 e8 mr⟩
theorem wrP.keep (h : wrP κ μ) (e1 : κ' 1 0 = κ 1 0) (e2 : κ' 0 0 0 = κ 0 0 0) (m1 : μ' 6 = μ 6) (m2 : μ' 0 3 = μ 0 3) : wrP κ' μ' := by
  unfold wrP
  rw [e1, e2, m1, m2]
  exact h
theorem txP.keep (h : txP κ μ) (e1 : κ' 3 0 = κ 3 0) (e2 : κ' 2 0 0 = κ 2 0 0) (m1 : μ' 7 = μ 7) (m2 : μ' 0 4 = μ 0 4) : txP κ' μ' := by
  unfold txP
  rw [e1, e2, m1, m2]
  exact h
theorem erP.keep (h : erP κ μ) (e1 : κ' 0 0 2 = κ 0 0 2) (e2 : κ' 0 0 3 = κ 0 0 3) (m1 : μ' 0 7 = μ 0 7) (m2 : μ' 0 8 = μ 0 8) : erP κ' μ' := by
  unfold erP
  rw [e1, e2, m1, m2]
  exact h
theorem RR.eqF (h : RR κ μ) : zF κ 0 (μ 1) (cellsOf (μ 1)) = κ := zF_at (κ := κ) h.ba.1 h.ba.2.2
theorem RR.bI (h : RR κ μ) : batI (μ 1) := h.ba.2.1
theorem RR.n (h : RR κ μ) : bnI (μ 1) := h.ba.2.1.1.1
/-- the number thrown doesn't count -/
theorem RR.thr (h : RR κ μ) (v : Int32) : RR κ (zN μ (upd (μ 0) 2 v) (μ 1)) :=
  ⟨h.ba, h.ch, h.sv.keep rfl rfl rfl rfl rfl, h.hs.keep rfl (fun _ _ => rfl) (fun _ _ => rfl) rfl (fun r h1 _ => zN_o (by omega)), h.wr.keep rfl rfl rfl rfl, h.tx.keep rfl rfl rfl rfl, h.er.keep rfl rfl rfl rfl⟩
theorem chW_c {x : Int32} (h : x = 112 ∨ x = 110 ∨ x = 99 ∨ x = 115 ∨ x = 104 ∨ x = 97) : chW x := by
  rcases h with rfl | rfl | rfl | rfl | rfl | rfl <;> exact ⟨by decide, by decide⟩
theorem chL {f : Nat} (hf : f < 11) (h : chP κ) (hI : batI (κ 6 f)) : ∀ i, i < 12 → chW (zL κ f i 3) ∧ chW (zL κ f i 6) := fun i hi => by
  by_cases hb : i < bn (κ 6 f)
  · have hL := hI.1.2.2.1 i hb
    have hb2 : i < (κ 6 f 0).toNatClampNeg := hb
    have e3 : zL κ f i 3 = bf (κ 6 f) i 3 := if_pos hb2
    have e6 : zL κ f i 6 = bf (κ 6 f) i 6 := if_pos hb2
    rw [e3, e6]
    refine ⟨chW_c ?_, chW_c ?_⟩
    · rcases hL.2.2.2.1 with q | q | q | q <;> simp [q]
    · rcases hL.2.2.2.2.2.2.1 with q | q | q <;> simp [q]
  · have hb2 : ¬ i < (κ 6 f 0).toNatClampNeg := hb
    have e3 : zL κ f i 3 = κ 9 f (9 * i + 3) := if_neg hb2
    have e6 : zL κ f i 6 = κ 9 f (9 * i + 6) := if_neg hb2
    rw [e3, e6]
    exact h f i hf hi
theorem RR.ch0 (h : RR κ μ) : ∀ i, i < 12 → chW (zL κ 0 i 3) ∧ chW (zL κ 0 i 6) := chL (by decide) h.ch (by rw [h.ba.1]; exact h.bI)
theorem mor_8 {d : Nat} (h : d ≤ 8) : mor d ≤ 8 ∧ (mor d = d + 1 ∧ d < 8 ∨ mor d = 8 ∧ d = 8) := by
  unfold mor
  by_cases q : d = 8
  · rw [if_pos q]; omega
  · rw [if_neg q]; omega
/-- one state more -/
theorem hsP.push {k0 d : Nat} (hk : k0 < 8) (hd8 : d ≤ 8) (h : hsO κ μ k0 d) (hb : baP κ μ) (e40 : κ' 4 0 0 = nI ((k0 + 1) % 8)) (e41 : κ' 4 0 1 = nI (mor d)) (m1 : μ' 0 1 = nI (mor d)) (e6n : κ' 6 (3 + (k0 + 1) % 8) = μ 1) (e8n : κ' 8 (3 + (k0 + 1) % 8) = cellsOf (μ 1)) (e6o : ∀ q, q < 8 → ¬ q = (k0 + 1) % 8 → κ' 6 (3 + q) = κ 6 (3 + q)) (e8o : ∀ q, q < 8 → ¬ q = (k0 + 1) % 8 → κ' 8 (3 + q) = κ 8 (3 + q)) (mo : ∀ r, 10 ≤ r → r < 18 → μ' r = zPu μ d (μ 1) r) : hsP κ' μ' := by
  have hm := mor_8 hd8
  refine ⟨(k0 + 1) % 8, mor d, Nat.mod_lt _ (by decide), hm.1, e40, e41, m1, fun j hj => ?_⟩
  by_cases h0 : j = 0
  · subst h0
    have e1 : zPu μ d (μ 1) (10 + (mor d - 1 - 0)) = μ 1 := by
      unfold zPu
      by_cases q : d = 8
      · rw [if_pos q, show 10 + (mor d - 1 - 0) = 17 by omega, zRm_s]
      · rw [if_neg q, show 10 + (mor d - 1 - 0) = 10 + d by omega, zRm_s]
    rw [show ((k0 + 1) % 8 + 8 - 0) % 8 = (k0 + 1) % 8 by omega, e6n, e8n, mo _ (by omega) (by omega), e1]
    exact ⟨rfl, hb.2.1, rfl⟩
  · obtain ⟨q1, q2, q3⟩ := h (j - 1) (by omega)
    have e2 : zPu μ d (μ 1) (10 + (mor d - 1 - j)) = μ (10 + (d - 1 - (j - 1))) := by
      unfold zPu
      by_cases q : d = 8
      · rw [if_pos q, zRm_o (by omega), zSh_i (by omega), show 11 + (mor d - 1 - j) = 10 + (d - 1 - (j - 1)) by omega]
      · rw [if_neg q, zRm_o (by omega), show mor d - 1 - j = d - 1 - (j - 1) by omega]
    rw [show ((k0 + 1) % 8 + 8 - j) % 8 = (k0 + 8 - (j - 1)) % 8 by omega, e6o _ (Nat.mod_lt _ (by decide)) (by omega), e8o _ (Nat.mod_lt _ (by decide)) (by omega), mo _ (by omega) (by omega), e2]
    exact ⟨q1, q2, q3⟩
/-- one state less -/
theorem hsP.pop {k0 d : Nat} (hk : k0 < 8) (hd8 : d < 8) (h : hsO κ μ k0 (d + 1)) (e40 : κ' 4 0 0 = nI ((k0 + 7) % 8)) (e41 : κ' 4 0 1 = nI d) (m1 : μ' 0 1 = nI d) (e6 : ∀ q, q < 8 → κ' 6 (3 + q) = κ 6 (3 + q)) (e8 : ∀ q, q < 8 → κ' 8 (3 + q) = κ 8 (3 + q)) (mr : ∀ r, 10 ≤ r → r < 18 → μ' r = μ r) : hsP κ' μ' := by
  refine ⟨(k0 + 7) % 8, d, Nat.mod_lt _ (by decide), by omega, e40, e41, m1, fun j hj => ?_⟩
  have h1 := h (j + 1) (by omega)
  rw [show (k0 + 8 - (j + 1)) % 8 = ((k0 + 7) % 8 + 8 - j) % 8 by omega, show d + 1 - 1 - (j + 1) = d - 1 - j by omega] at h1
  rw [e6 _ (Nat.mod_lt _ (by decide)), e8 _ (Nat.mod_lt _ (by decide)), mr _ (by omega) (by omega)]
  exact h1
theorem zPu_o {d r : Nat} {x : Nat → Int32} (hd : d ≤ 8) (h : r < 10) : zPu μ d x r = μ r := by
  unfold zPu
  by_cases q : d = 8
  · rw [if_pos q, zRm_o (by omega), zSh_o (by omega)]
  · rw [if_neg q, zRm_o (by omega)]
theorem zPu_r {d r q : Nat} {x y : Nat → Int32} (h : 10 ≤ r) (hq : q < 10) : zPu (zRm μ q y) d x r = zPu μ d x r := by
  unfold zPu
  by_cases e : d = 8
  · rw [if_pos e, if_pos e]
    by_cases e2 : r = 17
    · subst e2
      rw [zRm_s, zRm_s]
    · rw [zRm_o e2, zRm_o e2]
      unfold zSh
      by_cases e3 : 10 ≤ r ∧ r < 17
      · rw [if_pos e3, if_pos e3, zRm_o (by omega)]
      · rw [if_neg e3, if_neg e3, zRm_o (by omega)]
  · rw [if_neg e, if_neg e]
    by_cases e2 : r = 10 + d
    · subst e2
      rw [zRm_s, zRm_s]
    · rw [zRm_o e2, zRm_o e2, zRm_o (by omega)]
theorem zKe_o {k0 d t f : Nat} (ht : ¬ t = 4) (hf : ¬ f = 3 + (k0 + 1) % 8) : zKe κ k0 d t f = κ t f := (zCp_o hf).trans (zHi_6 ht)
theorem zKe_n {k0 d t : Nat} (ht : t = 6 ∨ t = 8 ∨ t = 9) : zKe κ k0 d t (3 + (k0 + 1) % 8) = κ t 0 := (zCp_s ht).trans (zHi_6 (by omega))
theorem zKe_4 {k0 d : Nat} : zKe κ k0 d 4 0 = upd (upd (κ 4 0) 0 (nI ((k0 + 1) % 8))) 1 (nI (mor d)) := (zCp_t (by decide)).trans zRow_s
theorem zF_o {f t f' : Nat} {gb cb : Nat → Int32} (h : ¬ (t = 6 ∧ f' = f) ∧ ¬ (t = 8 ∧ f' = f)) : zF κ f gb cb t f' = κ t f' := by
  unfold zF
  rw [if_neg h.1, if_neg h.2]
/-- the battle is nb now, the old one is kept -/
theorem RR.push (h : RR κ μ) {nb : zB} (hI : batI nb) {k0 d : Nat} (hk : k0 < 8) (hd8 : d ≤ 8) (ho : hsO κ μ k0 d) : RR (zF (zKe κ k0 d) 0 nb (cellsOf nb)) (zN (zPu (zRm μ 2 (μ 1)) d (μ 1)) (upd (upd (μ 0) 2 0) 1 (nI (mor d))) nb) := by
  have hlo : ∀ {t f : Nat}, ¬ t = 4 → f < 3 → ¬ (f = 0 ∧ (t = 6 ∨ t = 8)) → zF (zKe κ k0 d) 0 nb (cellsOf nb) t f = κ t f := fun {t f} h1 h2 h3 => (zF_o (by omega)).trans (zKe_o h1 (by omega))
  have hmu : ∀ {r : Nat}, 2 < r → r < 10 → zN (zPu (zRm μ 2 (μ 1)) d (μ 1)) (upd (upd (μ 0) 2 0) 1 (nI (mor d))) nb r = μ r := fun {r} h1 h2 => ((zN_o (by omega)).trans (zPu_o hd8 h2)).trans (zRm_o (by omega))
  have e4 : zF (zKe κ k0 d) 0 nb (cellsOf nb) 4 0 = upd (upd (κ 4 0) 0 (nI ((k0 + 1) % 8))) 1 (nI (mor d)) := (zF_o (by decide)).trans zKe_4
  refine ⟨⟨zF_6, hI, zF_8⟩, h.ch.keep (fun f hf => ?_), h.sv.keep ?_ ?_ ?_ rfl ?_, hsP.push hk hd8 ho h.ba ?_ ?_ rfl ?_ ?_ ?_ ?_ ?_, h.wr.keep ?_ ?_ ?_ rfl, h.tx.keep ?_ ?_ ?_ rfl, h.er.keep ?_ ?_ rfl rfl⟩
  · by_cases hq : f = 3 + (k0 + 1) % 8
    · subst hq
      exact ⟨0, by decide, (zF_o (by omega)).trans (zKe_n (by decide))⟩
    · exact ⟨f, hf, (zF_o (by omega)).trans (zKe_o (by decide) hq)⟩
  · rw [hlo (by decide) (by decide) (by decide)]
  · exact hlo (by decide) (by decide) (by decide)
  · exact hlo (by decide) (by decide) (by decide)
  · exact hmu (by decide) (by decide)
  · rw [e4]; rfl
  · rw [e4]; rfl
  · exact ((zF_o (by omega)).trans (zKe_n (by decide))).trans h.ba.1
  · exact ((zF_o (by omega)).trans (zKe_n (by decide))).trans h.ba.2.2
  · exact fun q hq hn => (zF_o (by omega)).trans (zKe_o (by decide) (by omega))
  · exact fun q hq hn => (zF_o (by omega)).trans (zKe_o (by decide) (by omega))
  · exact fun r h1 _ => (zN_o (by omega)).trans (zPu_r h1 (by decide))
  · exact hlo (by decide) (by decide) (by decide)
  · rw [hlo (by decide) (by decide) (by decide)]
  · exact hmu (by decide) (by decide)
  · exact hlo (by decide) (by decide) (by decide)
  · rw [hlo (by decide) (by decide) (by decide)]
  · exact hmu (by decide) (by decide)
  · rw [hlo (by decide) (by decide) (by decide)]
  · rw [hlo (by decide) (by decide) (by decide)]
/-- only the number thrown, the reference's own copies and its list of commands differ -/
theorem RR.side {κ : zKp} {μ μ' : zMu} (h : RR κ μ) (m1 : μ' 1 = μ 1) (m0 : ∀ q, q = 0 ∨ q = 1 ∨ q = 3 ∨ q = 4 ∨ q = 7 ∨ q = 8 → μ' 0 q = μ 0 q) (mr : ∀ r, r = 4 ∨ r = 6 ∨ r = 7 ∨ (10 ≤ r ∧ r < 18) → μ' r = μ r) : RR κ μ' :=
  ⟨by unfold baP; rw [m1]; exact h.ba, h.ch, h.sv.keep rfl rfl rfl (m0 0 (by omega)) (mr 4 (by omega)), h.hs.keep rfl (fun _ _ => rfl) (fun _ _ => rfl) (m0 1 (by omega)) (fun r h1 h2 => mr r (by omega)), h.wr.keep rfl rfl (mr 6 (by omega)) (m0 3 (by omega)), h.tx.keep rfl rfl (mr 7 (by omega)) (m0 4 (by omega)), h.er.keep rfl rfl (m0 7 (by omega)) (m0 8 (by omega))⟩
theorem RR.thr2 {κ : zKp} {μ : zMu} (h : RR κ μ) (v : Int32) : RR κ (zN (zRm μ 2 (μ 1)) (upd (upd (μ 0) 2 0) 2 v) (μ 1)) :=
  h.side rfl (fun q hq => by
    show (if q = 2 then v else if q = 2 then 0 else μ 0 q) = μ 0 q
    rw [if_neg (by omega), if_neg (by omega)]) (fun r hr => (zN_o (by omega)).trans (zRm_o (by omega)))
theorem RR.undo {κ : zKp} {μ : zMu} (h : RR κ μ) {k0 d : Nat} (hk : k0 < 8) (hd8 : d < 8) (ho : hsO κ μ k0 (d + 1)) : RR (zHi (zCp κ 0 (3 + k0)) (nI ((k0 + 7) % 8)) (nI d)) (zN μ (upd (upd (μ 0) 2 0) 1 (nI d)) (μ (10 + d))) := by
  obtain ⟨q1, q2, q3⟩ := ho 0 (by omega)
  rw [show (k0 + 8 - 0) % 8 = k0 by omega, show d + 1 - 1 - 0 = d by omega] at q1 q3
  rw [show d + 1 - 1 - 0 = d by omega] at q2
  refine ⟨⟨?_, q2, ?_⟩, h.ch.keep (fun f hf => ?_), h.sv.keep rfl rfl rfl rfl rfl, hsP.pop hk hd8 ho ?_ ?_ rfl (fun q _ => ?_) (fun q _ => ?_) (fun r h1 _ => zN_o (by omega)), h.wr.keep rfl rfl rfl rfl, h.tx.keep rfl rfl rfl rfl, h.er.keep rfl rfl rfl rfl⟩
  · exact ((zHi_6 (by decide)).trans (zCp_s (by decide))).trans q1
  · exact ((zHi_6 (by decide)).trans (zCp_s (by decide))).trans q3
  · by_cases hq : f = 0
    · subst hq
      exact ⟨3 + k0, by omega, (zHi_6 (by decide)).trans (zCp_s (by decide))⟩
    · exact ⟨f, hf, (zHi_6 (by decide)).trans (zCp_o hq)⟩
  · rfl
  · rfl
  · exact (zHi_6 (by decide)).trans (zCp_o (by omega))
  · exact (zHi_6 (by decide)).trans (zCp_o (by omega))
theorem ln_ch {g : zB} (hI : batI g) {a : Nat} (ha : a < 3) {W0 : Nat → Int32} : ∀ k, k ≤ 10 → ∀ q, q < (lnS g a W0 k).1 → ∃ b : Nat, b < 127 ∧ (lnS g a W0 k).2 q = nI b
  | 0, _, q, hq => absurd hq (Nat.not_lt_zero q)
  | k + 1, hk, q, hq => by
    have ih := ln_ch hI ha (W0 := W0) k (by omega)
    have hin : inCol (nI k) := ⟨ge_i (by omega), le_i (b := 9) (by omega) (by decide)⟩
    have h12 := hI.1.1.1
    rcases occ_c hI.1.1 (x := nI a) (y := nI k) ⟨a, ha, rfl⟩ hin with ⟨-, e⟩ | ⟨j, hj, -, e⟩
    · rw [ln_n (by rw [e]; decide)] at hq ⊢
      have hq2 : q < (lnS g a W0 k).1 + 1 := hq
      show ∃ b : Nat, b < 127 ∧ (if q = (lnS g a W0 k).1 then 46 else (lnS g a W0 k).2 q) = nI b
      by_cases h1 : q = (lnS g a W0 k).1
      · rw [if_pos h1]; exact ⟨46, by decide, rfl⟩
      · rw [if_neg h1]; exact ih q (by omega)
    · obtain ⟨b9, hb9, eb9⟩ := lt_of (hI.1.2.2.1 j hj)
      by_cases h7 : bf g j 7 = 1
      · rw [ln_r (by omega) e h7] at hq ⊢
        have hq2 : q < (lnS g a W0 k).1 + 1 + 1 := hq
        show ∃ b : Nat, b < 127 ∧ (if q = (lnS g a W0 k).1 + 1 then 33 else if q = (lnS g a W0 k).1 then ltB g j else (lnS g a W0 k).2 q) = nI b
        by_cases h2 : q = (lnS g a W0 k).1 + 1
        · rw [if_pos h2]; exact ⟨33, by decide, rfl⟩
        · rw [if_neg h2]
          by_cases h1 : q = (lnS g a W0 k).1
          · rw [if_pos h1]; exact ⟨b9, hb9, eb9⟩
          · rw [if_neg h1]; exact ih q (by omega)
      · rw [ln_s (by omega) e h7] at hq ⊢
        have hq2 : q < (lnS g a W0 k).1 + 1 := hq
        show ∃ b : Nat, b < 127 ∧ (if q = (lnS g a W0 k).1 then ltB g j else (lnS g a W0 k).2 q) = nI b
        by_cases h1 : q = (lnS g a W0 k).1
        · rw [if_pos h1]; exact ⟨b9, hb9, eb9⟩
        · rw [if_neg h1]; exact ih q (by omega)
theorem RR.write {κ : zKp} {μ : zMu} (h : RR κ μ) {n : Nat} {W : Nat → Int32} (hn : n ≤ 20) (hW : ∀ q, q < n → ∃ b : Nat, b < 127 ∧ W q = nI b) : RR (zWr κ n W) (zN (zRm μ 6 W) (upd (upd (μ 0) 2 0) 3 (nI n)) (μ 1)) := by
  have hk : ∀ {t f : Nat}, ¬ (t = 0 ∧ f = 0) → ¬ (t = 1 ∧ f = 0) → zWr κ n W t f = κ t f := fun {t f} h0 h1 => (zRow_o h1).trans (zRow_o h0)
  refine ⟨h.ba, h.ch.keep (fun f hf => ⟨f, hf, hk (by omega) (by omega)⟩), h.sv.keep rfl rfl rfl rfl rfl, h.hs.keep rfl (fun q _ => hk (by omega) (by omega)) (fun q _ => hk (by omega) (by omega)) rfl (fun r h1 _ => (zN_o (by omega)).trans (zRm_o (by omega))), ⟨rfl, n, hn, rfl, rfl, hW⟩, h.tx.keep rfl rfl rfl rfl, h.er.keep rfl rfl rfl rfl⟩
theorem RR.type {κ : zKp} {μ : zMu} (h : RR κ μ) {n0 b : Nat} (hn : n0 < 60) (hy : txW (μ 7) n0) (hb : 32 ≤ b ∧ b < 127) : RR (zT κ (upd (κ 2 0) 0 (nI (n0 + 1))) (upd (μ 7) n0 (nI b))) (zN (zRm μ 7 (upd (μ 7) n0 (nI b))) (upd (upd (μ 0) 2 0) 4 (nI (n0 + 1))) (μ 1)) := by
  have hk : ∀ {t f : Nat}, ¬ (t = 2 ∧ f = 0) → ¬ (t = 3 ∧ f = 0) → zT κ (upd (κ 2 0) 0 (nI (n0 + 1))) (upd (μ 7) n0 (nI b)) t f = κ t f := fun {t f} h0 h1 => (if_neg h0).trans (if_neg h1)
  refine ⟨h.ba, h.ch.keep (fun f hf => ⟨f, hf, hk (by omega) (by omega)⟩), h.sv.keep rfl rfl rfl rfl rfl, h.hs.keep rfl (fun q _ => hk (by omega) (by omega)) (fun q _ => hk (by omega) (by omega)) rfl (fun r h1 _ => (zN_o (by omega)).trans (zRm_o (by omega))), h.wr.keep rfl rfl rfl rfl, ⟨rfl, n0 + 1, by omega, rfl, rfl, fun q hq => ?_⟩, h.er.keep rfl rfl rfl rfl⟩
  show ∃ b2 : Nat, 32 ≤ b2 ∧ b2 < 127 ∧ (if q = n0 then nI b else μ 7 q) = nI b2
  by_cases h1 : q = n0
  · rw [if_pos h1]; exact ⟨b, hb.1, hb.2, rfl⟩
  · rw [if_neg h1]; exact hy q (by omega)
theorem ch_of {v : Int32} (h : 32 ≤ v ∧ v ≤ 126) : ∃ b : Nat, 32 ≤ b ∧ b < 127 ∧ v = nI b := by
  have h0 : 0 ≤ v := Int32.le_trans (by decide) h.1
  have h2 : v < 127 := Int32.lt_of_le_of_lt h.2 (by decide)
  obtain ⟨b, hb, rfl⟩ := in_of (M := 127) (n := 127) rfl (by decide) h0 h2
  refine ⟨b, ?_, hb, rfl⟩
  by_cases q : 32 ≤ b
  · exact q
  · exact absurd h.1 (nle_i (a := b) (b := 32) (by omega) (by decide))
/-- a list of commands comes to its end, or to the first that fails -/
theorem run_ex (y : Nat → Int32) (n0 : Nat) (b0 : zB) (K : Nat) : ∃ bt : Nat → zB, bt 0 = b0 ∧ (runB y n0 bt (K + 1) ∨ ∃ J, J ≤ K ∧ runB y n0 bt J ∧ perB (bt J) (comB y n0 (stB y n0 J) 0 0 0 0).2.2.1 (comB y n0 (stB y n0 J) 0 0 0 0).2.2.2.1 (comB y n0 (stB y n0 J) 0 0 0 0).2.2.2.2.1 (comB y n0 (stB y n0 J) 0 0 0 0).2.2.2.2.2.1 (comB y n0 (stB y n0 J) 0 0 0 0).2.2.2.2.2.2 = none) := by
  let st : Nat → zB → Option zB := fun j u => perB u (comB y n0 (stB y n0 j) 0 0 0 0).2.2.1 (comB y n0 (stB y n0 j) 0 0 0 0).2.2.2.1 (comB y n0 (stB y n0 j) 0 0 0 0).2.2.2.2.1 (comB y n0 (stB y n0 j) 0 0 0 0).2.2.2.2.2.1 (comB y n0 (stB y n0 j) 0 0 0 0).2.2.2.2.2.2
  let bt : Nat → zB := fun j => Nat.rec b0 (fun i u => (st i u).getD u) j
  have hst : ∀ j, ¬ st j (bt j) = none → st j (bt j) = some (bt (j + 1)) := fun j hj => by
    have e : bt (j + 1) = (st j (bt j)).getD (bt j) := rfl
    cases hq : st j (bt j) with
    | none => exact absurd hq hj
    | some z => rw [e, hq]; rfl
  refine ⟨bt, rfl, ?_⟩
  haveI : DecidablePred (fun j => st j (bt j) = none) := fun j => Classical.propDecidable _
  rcases gl_dec (fun j => st j (bt j) = none) (K + 1) with hz | ⟨J, hJ, hp, hz⟩
  · exact Or.inl (fun j hj => hst j (hz j hj))
  · exact Or.inr ⟨J, by omega, fun j hj => hst j (hz j hj), hp⟩
theorem RR.exec {κ : zKp} {μ : zMu} (h : RR κ μ) {nb : zB} (hI : batI nb) {k0 d : Nat} (hk : k0 < 8) (hd8 : d ≤ 8) (ho : hsO κ μ k0 d) {X C a' : Nat → Int32} (hX : X 0 = nI 0) (a0 : a' 0 = μ 0 0) (a1 : a' 1 = nI (mor d)) (a3 : a' 3 = μ 0 3) (a4 : a' 4 = nI 0) (a7 : a' 7 = μ 0 7) (a8 : a' 8 = μ 0 8) : RR (zCp (zHi (zT (zF (zCp κ 2 0) 0 nb (cellsOf nb)) X (μ 7)) (nI ((k0 + 1) % 8)) (nI (mor d))) (3 + (k0 + 1) % 8) 2) (zN (zPu (zRm (zRm μ 8 C) 2 (μ 1)) d (μ 1)) a' nb) := by
  generalize hM : zHi (zT (zF (zCp κ 2 0) 0 nb (cellsOf nb)) X (μ 7)) (nI ((k0 + 1) % 8)) (nI (mor d)) = K1
  have hT : ∀ {t f : Nat}, ¬ t = 4 → ¬ (t = 2 ∧ f = 0) → ¬ (t = 3 ∧ f = 0) → K1 t f = zF (zCp κ 2 0) 0 nb (cellsOf nb) t f := fun {t f} h0 h1 h2 => by rw [← hM]; exact (zHi_6 h0).trans ((if_neg h1).trans (if_neg h2))
  have hK : ∀ {t f : Nat}, ¬ t = 4 → ¬ (t = 2 ∧ f = 0) → ¬ (t = 3 ∧ f = 0) → ¬ (f = 0 ∧ (t = 6 ∨ t = 8)) → ¬ f = 2 → K1 t f = κ t f := fun {t f} h0 h1 h2 h3 h4 => (hT h0 h1 h2).trans ((zF_o (by omega)).trans (zCp_o h4))
  have h2c : ∀ {t : Nat}, t = 6 ∨ t = 8 ∨ t = 9 → K1 t 2 = κ t 0 := fun {t} h0 => (hT (by omega) (by omega) (by omega)).trans ((zF_o (by omega)).trans (zCp_s h0))
  have e4 : K1 4 0 = upd (upd (κ 4 0) 0 (nI ((k0 + 1) % 8))) 1 (nI (mor d)) := by rw [← hM]; rfl
  have e2 : K1 2 0 = X := by rw [← hM]; rfl
  have e3 : K1 3 0 = μ 7 := by rw [← hM]; rfl
  have hmu : ∀ {r : Nat}, 2 < r → r < 8 → zN (zPu (zRm (zRm μ 8 C) 2 (μ 1)) d (μ 1)) a' nb r = μ r := fun {r} h1 h2 => ((zN_o (by omega)).trans (zPu_o hd8 (by omega))).trans ((zRm_o (by omega)).trans (zRm_o (by omega)))
  have ho0 : ∀ {t : Nat}, zCp K1 (3 + (k0 + 1) % 8) 2 t 0 = K1 t 0 := fun {t} => zCp_o (by omega)
  have ho1 : ∀ {t : Nat}, zCp K1 (3 + (k0 + 1) % 8) 2 t 1 = K1 t 1 := fun {t} => zCp_o (by omega)
  refine ⟨⟨?_, hI, ?_⟩, h.ch.keep (fun f hf => ?_), h.sv.keep ?_ ?_ ?_ a0 ?_, hsP.push hk hd8 ho h.ba ?_ ?_ a1 ?_ ?_ ?_ ?_ ?_, h.wr.keep ?_ ?_ ?_ a3, ⟨?_, 0, by decide, ?_, a4, fun q hq => absurd hq (Nat.not_lt_zero q)⟩, h.er.keep ?_ ?_ a7 a8⟩
  · exact ho0.trans ((hT (by decide) (by decide) (by decide)).trans zF_6)
  · exact ho0.trans ((hT (by decide) (by decide) (by decide)).trans zF_8)
  · by_cases hq : f = 3 + (k0 + 1) % 8
    · subst hq
      exact ⟨0, by decide, (zCp_s (by decide)).trans (h2c (by decide))⟩
    · by_cases hq2 : f = 2
      · subst hq2
        exact ⟨0, by decide, (zCp_o hq).trans (h2c (by decide))⟩
      · exact ⟨f, hf, (zCp_o hq).trans (hK (by decide) (by omega) (by omega) (by omega) hq2)⟩
  · rw [ho0, hK (by decide) (by decide) (by decide) (by decide) (by decide)]
  · exact ho1.trans (hK (by decide) (by decide) (by decide) (by decide) (by decide))
  · exact ho1.trans (hK (by decide) (by decide) (by decide) (by decide) (by decide))
  · exact hmu (by decide) (by decide)
  · rw [ho0, e4]; rfl
  · rw [ho0, e4]; rfl
  · exact ((zCp_s (by decide)).trans (h2c (by decide))).trans h.ba.1
  · exact ((zCp_s (by decide)).trans (h2c (by decide))).trans h.ba.2.2
  · exact fun q hq hn => (zCp_o (by omega)).trans (hK (by decide) (by omega) (by omega) (by omega) (by omega))
  · exact fun q hq hn => (zCp_o (by omega)).trans (hK (by decide) (by omega) (by omega) (by omega) (by omega))
  · exact fun r h1 _ => (zN_o (by omega)).trans ((zPu_r h1 (by decide)).trans (zPu_r h1 (by decide)))
  · exact ho0.trans (hK (by decide) (by decide) (by decide) (by decide) (by decide))
  · rw [ho0, hK (by decide) (by decide) (by decide) (by decide) (by decide)]
  · exact hmu (by decide) (by decide)
  · exact (ho0.trans e3).trans (hmu (by decide) (by decide)).symm
  · rw [ho0, e2]; exact hX
  · rw [ho0, hK (by decide) (by decide) (by decide) (by decide) (by decide)]
  · rw [ho0, hK (by decide) (by decide) (by decide) (by decide) (by decide)]
theorem RR.execF {κ : zKp} {μ : zMu} (h : RR κ μ) {nb : zB} {X C a' : Nat → Int32} {J : Nat} (hJ : J < 100000) (hX : X 0 = nI 0) (a0 : a' 0 = μ 0 0) (a1 : a' 1 = μ 0 1) (a3 : a' 3 = μ 0 3) (a4 : a' 4 = nI 0) (a7 : a' 7 = μ 0 7) (a8 : a' 8 = nI J) : RR (zRow (zCp (zT (zF (zCp κ 2 0) 0 nb (cellsOf nb)) X (μ 7)) 0 2) 0 0 (upd ((zCp (zT (zF (zCp κ 2 0) 0 nb (cellsOf nb)) X (μ 7)) 0 2) 0 0) 3 (nI J))) (zN (zRm (zRm μ 8 C) 2 (μ 1)) a' (μ 1)) := by
  have hK : ∀ {t f : Nat}, ¬ f = 0 → ¬ f = 2 → zRow (zCp (zT (zF (zCp κ 2 0) 0 nb (cellsOf nb)) X (μ 7)) 0 2) 0 0 (upd ((zCp (zT (zF (zCp κ 2 0) 0 nb (cellsOf nb)) X (μ 7)) 0 2) 0 0) 3 (nI J)) t f = κ t f := fun {t f} h0 h2 => (zRow_o (by omega)).trans ((zCp_o h0).trans ((if_neg (by omega)).trans ((if_neg (by omega)).trans ((zF_o (by omega)).trans (zCp_o h2)))))
  have hmu : ∀ {r : Nat}, 2 < r → ¬ r = 8 → zN (zRm (zRm μ 8 C) 2 (μ 1)) a' (μ 1) r = μ r := fun {r} h1 h2 => (zN_o (by omega)).trans ((zRm_o (by omega)).trans (zRm_o h2))
  refine ⟨⟨h.ba.1, h.bI, h.ba.2.2⟩, h.ch.keep (fun f hf => ?_), h.sv.keep rfl rfl rfl a0 rfl, h.hs.keep rfl (fun q _ => hK (by omega) (by omega)) (fun q _ => hK (by omega) (by omega)) a1 (fun r h1 _ => hmu (by omega) (by omega)), h.wr.keep rfl rfl rfl a3, ⟨rfl, 0, by decide, hX, a4, fun q hq => absurd hq (Nat.not_lt_zero q)⟩, ⟨⟨h.er.1.1.trans a7.symm, by rw [show zN (zRm (zRm μ 8 C) 2 (μ 1)) a' (μ 1) 0 7 = μ 0 7 from a7]; exact h.er.1.2⟩, ⟨a8.symm, Or.inr (by rw [show zN (zRm (zRm μ 8 C) 2 (μ 1)) a' (μ 1) 0 8 = nI J from a8]; exact ge_i hJ)⟩⟩⟩
  by_cases hq : f = 0
  · subst hq
    exact ⟨0, by decide, rfl⟩
  · by_cases hq2 : f = 2
    · subst hq2
      exact ⟨0, by decide, rfl⟩
    · exact ⟨f, hf, hK hq hq2⟩
end ZRL
