/-! which rows a row needs -/
/-- b is a row that p's places name -/
def oIn (p : Nat → Int32) (b : Nat) : Prop := ∃ i, i < oLen p ∧ aIsRow (oNn p 0) i ∧ oNn p i = b
noncomputable def oNd (ps : Nat → Nat → Int32) : Nat → Nat × (Nat → Int32) → Nat × (Nat → Int32)
  | 0, s => s
  | k + 1, s => if s.2 k = 0 then oNd ps k s else oNd ps k (s.1 + 1, fun b => oIf (oIn (ps k) b) 1 (s.2 b))
noncomputable def oNeed (ps : Nat → Nat → Int32) (w : Nat) : Nat × (Nat → Int32) := oNd ps (w + 1) (0, fun b => if b = w then 1 else 0)
theorem oPlace {D : oMd} {C : oCt} (h : oWc D C) {r i : Nat} (hr : r < oNr C) (hi : i < oLen (oPr C r)) (hR : aIsRow (oNn (oPr C r) 0) i) : oPr C r i = nI (oNn (oPr C r) i) ∧ oNn (oPr C r) i < r := by
  have h200 := h.1.2.1
  have hg := (h.2.2.2.1 r hr).2.2.1.1
  obtain ⟨q, q1, q2, q3, q4⟩ := oRk_q (R := oRw C) hg (by omega)
  obtain ⟨s4, s5, s7⟩ := oSrc (by omega) q2 q1 hg
  rw [q3] at hR
  rcases hR with ⟨e, h2, h3⟩ | ⟨e, h2⟩ | ⟨e, h2⟩
  · obtain ⟨k1, k2, k3, k4, k5⟩ := s4 e
    have := k5 ((i - 2) / 2) (by omega)
    rw [show 2 + 2 * ((i - 2) / 2) = i by omega] at this
    exact this
  · rw [h2]
    exact s5 (by omega)
  · have hl : oLen (oPr C r) = 5 := by unfold oLen; rw [q3, e]; rfl
    exact s7 e i (by omega) (by omega)
theorem aSrc_e {num : Nat → Int32} {p : Nat → Int32} {f q b : Nat} (hq : p 0 = nI q) (hq9 : q < 10) (hn : ∀ i, i < oLen p → num (f + i) = p i) (h4 : q = 4 → oNn p 1 ≤ 4 ∧ oLen p = 2 + 2 * oNn p 1) : b ∈ aSrc num f ↔ oIn p b := by
  have hqn : oNn p 0 = q := by unfold oNn; rw [hq, nI_clamp (by omega)]
  have hlb := oLen_b (p := p)
  have hL : oLen p = dL q (oNn p 1) := by unfold oLen; rw [hqn]
  have n0 : num f = nI q := by have := hn 0 (by omega); rw [Nat.add_zero] at this; rw [this, hq]
  have lit : ∀ c, c < 10 → (num f = nI c ↔ q = c) := fun c hc => by rw [n0]; exact nI_eq (by omega) (by omega)
  have l4 : num f = 4 ↔ q = 4 := lit 4 (by omega)
  have l5 : num f = 5 ↔ q = 5 := lit 5 (by omega)
  have l7 : num f = 7 ↔ q = 7 := lit 7 (by omega)
  have l9 : num f = 9 ↔ q = 9 := lit 9 (by omega)
  unfold aSrc oIn
  rw [hqn]
  by_cases c4 : q = 4
  · obtain ⟨k1, k2⟩ := h4 c4
    rw [if_pos (l4.mpr c4), hn 1 (by omega)]
    simp only [List.mem_map, List.mem_range]
    constructor
    · rintro ⟨i, i1, i2⟩
      have i1 : i < oNn p 1 := i1
      refine ⟨2 + 2 * i, by omega, Or.inl ⟨c4, by omega, by omega⟩, ?_⟩
      rw [← i2, show f + 2 + 2 * i = f + (2 + 2 * i) by omega, hn _ (by omega)]
      rfl
    · rintro ⟨i, i1, i2, i3⟩
      have h2 : 2 ≤ i ∧ i % 2 = 0 := by omega
      refine ⟨(i - 2) / 2, by show (i - 2) / 2 < oNn p 1; omega, ?_⟩
      rw [show f + 2 + 2 * ((i - 2) / 2) = f + i by omega, hn _ i1]
      exact i3
  · rw [if_neg (fun y => c4 (l4.mp y))]
    by_cases c5 : q = 5 ∨ q = 9
    · have : num f = 5 ∨ num f = 9 := by
        rcases c5 with e | e
        · exact Or.inl (l5.mpr e)
        · exact Or.inr (l9.mpr e)
      rw [if_pos this, hn 1 (by omega), List.mem_singleton]
      constructor
      · intro y
        exact ⟨1, by omega, Or.inr (Or.inl ⟨c5, rfl⟩), y.symm⟩
      · rintro ⟨i, i1, i2, i3⟩
        have : i = 1 := by omega
        rw [this] at i3
        exact i3.symm
    · have : ¬ (num f = 5 ∨ num f = 9) := by
        rintro (e | e)
        · exact c5 (Or.inl (l5.mp e))
        · exact c5 (Or.inr (l9.mp e))
      rw [if_neg this]
      by_cases c7 : q = 7
      · have hl5 : oLen p = 5 := by rw [hL, c7]; rfl
        rw [if_pos (l7.mpr c7)]
        simp only [List.mem_map, List.mem_range]
        constructor
        · rintro ⟨i, i1, i2⟩
          refine ⟨i + 1, by omega, Or.inr (Or.inr ⟨c7, by omega⟩), ?_⟩
          rw [← i2, hn _ (by omega)]
          rfl
        · rintro ⟨i, i1, i2, i3⟩
          refine ⟨i - 1, by omega, ?_⟩
          rw [show f + (i - 1 + 1) = f + i by omega, hn _ i1]
          exact i3
      · rw [if_neg (fun y => c7 (l7.mp y))]
        constructor
        · intro y
          cases y
        · rintro ⟨i, i1, i2, i3⟩
          omega
theorem aNd_e {num : Nat → Int32} {rf : Nat → Nat} {ps : Nat → Nat → Int32} : ∀ k (s s' : Nat × (Nat → Int32)), k ≤ 200 → s.1 = s'.1 → (∀ b, b < 200 → s.2 b = s'.2 b) → (∀ j, j < k → ∀ b, b ∈ aSrc num (rf j) ↔ oIn (ps j) b) → (aNd num rf k s).1 = (oNd ps k s').1 ∧ ∀ b, b < 200 → (aNd num rf k s).2 b = (oNd ps k s').2 b
  | 0, s, s', _, h1, h2, _ => ⟨h1, h2⟩
  | k + 1, s, s', hk, h1, h2, h3 => by
    have e := h2 k (by omega)
    rw [oNd]
    by_cases c : s.2 k = 0
    · rw [aNd_0 c, if_pos (e.symm.trans c)]
      exact aNd_e k s s' (by omega) h1 h2 (fun j hj => h3 j (by omega))
    · rw [aNd_1 c, if_neg (fun y => c (e.trans y))]
      refine aNd_e k _ _ (by omega) (by show s.1 + 1 = s'.1 + 1; rw [h1]) (fun b hb => ?_) (fun j hj => h3 j (by omega))
      show (if b ∈ aSrc num (rf k) then 1 else s.2 b) = oIf (oIn (ps k) b) 1 (s'.2 b)
      by_cases d : b ∈ aSrc num (rf k)
      · rw [if_pos d, oIf_t ((h3 k (by omega) b).mp d)]
      · rw [if_neg d, oIf_f (fun y => d ((h3 k (by omega) b).mpr y)), h2 b hb]
theorem oSrc4 {D : oMd} {C : oCt} (h : oWc D C) {r q : Nat} (hr : r < oNr C) (hq : oPr C r 0 = nI q) (hq9 : q < 10) : q = 4 → oNn (oPr C r) 1 ≤ 4 ∧ oLen (oPr C r) = 2 + 2 * oNn (oPr C r) 1 := fun e => by
  have h200 := h.1.2.1
  obtain ⟨s4, -, -⟩ := oSrc (by omega) hq hq9 (h.2.2.2.1 r hr).2.2.1.1
  obtain ⟨k1, k2, k3, k4, k5⟩ := s4 e
  exact ⟨k2, k4⟩
/-- the reference counts so -/
theorem aNeed_e {D : oMd} {C : oCt} {σ : xS} {w : Nat} (h : oWc D C) (hc : oRc C σ) (hn : w < oNr C) : (aNeed σ (oRf C) w).1 = (oNeed (oPr C) w).1 ∧ ∀ b, b < 200 → (aNeed σ (oRf C) w).2 b = (oNeed (oPr C) w).2 b := by
  have h200 := h.1.2.1
  unfold aNeed oNeed
  refine aNd_e (w + 1) _ _ (by omega) rfl (fun b hb => ?_) (fun j hj b => ?_)
  · show (if b < 200 then (if b = w then (1 : Int32) else 0) else xgI σ 57 b) = if b = w then 1 else 0
    rw [if_pos hb]
  · have hj : j < oNr C := by omega
    obtain ⟨q, q1, q2, q3, q4⟩ := oRk_q (R := oRw C) (h.2.2.2.1 j hj).2.2.1.1 (by omega)
    refine aSrc_e q2 q1 (fun i hi => ?_) (oSrc4 h hj q2 q1)
    have hz := oRf_z h hj
    rw [hc.2.1 _ (by omega)]
    exact (h.2.2.2.1 j hj).2.1 i hi
theorem oRows {D : oMd} {C : oCt} {σ : xS} (h : oWc D C) (hc : oRc C σ) {n : Nat} (hn : n ≤ oNr C) : qRows σ n (oRf C) := fun k hk => by
  have hk : k < oNr C := by omega
  have h200 := h.1.2.1
  have hz := oRf_z h hk
  have hz15 := h.1.1
  have hlb := oLen_b (p := oPr C k)
  have hg := (h.2.2.2.1 k hk).2.2.1.1
  obtain ⟨q, q1, q2, q3, q4⟩ := oRk_q (R := oRw C) hg (by omega)
  obtain ⟨s4, s5, s7⟩ := oSrc (by omega) q2 q1 hg
  have num : ∀ i, i < oLen (oPr C k) → xgI σ 50 (oRf C k + i) = oPr C k i := fun i hi => by
    rw [hc.2.1 _ (by omega)]
    exact (h.2.2.2.1 k hk).2.1 i hi
  have n0 := num 0 (by omega)
  rw [Nat.add_zero] at n0
  refine ⟨(hc.2.2.2 k hk).2, by omega, q, q1, n0.trans q2, fun e => ?_, fun e => ?_, fun e => ?_⟩
  · obtain ⟨k1, k2, k3, k4, k5⟩ := s4 e
    refine ⟨oNn (oPr C k) 1, k2, (num 1 (by omega)).trans k3, by omega, fun i hi => ⟨_, (k5 i hi).2, ?_⟩⟩
    rw [show oRf C k + 2 + 2 * i = oRf C k + (2 + 2 * i) by omega, num _ (by omega)]
    exact (k5 i hi).1
  · obtain ⟨k1, k2⟩ := s5 e
    exact ⟨_, k2, (num 1 (by omega)).trans k1⟩
  · have hl : oLen (oPr C k) = 5 := by unfold oLen; rw [q3, e]; rfl
    refine ⟨by omega, fun i hi => ⟨_, (s7 e (i + 1) (by omega) (by omega)).2, ?_⟩⟩
    rw [num _ (by omega)]
    exact (s7 e (i + 1) (by omega) (by omega)).1
/-! and so do we -/
theorem dm_rw2 : ∀ q, q < 10 → ∀ i, i < 10 → i ≠ 0 → decide (dMean (nI q) (nI i) = 6) = ((q == 4 && Nat.ble 2 i && i % 2 == 0) || ((q == 5 || q == 9) && i == 1) || (q == 7 && Nat.blt 0 i)) := by decide +kernel
theorem dm_row (q : Nat) (hq : q < 10) (i : Nat) (hi : i < 10) (h0 : i ≠ 0) : dMean (nI q) (nI i) = 6 ↔ aIsRow q i := by
  have h := dm_rw2 q hq i hi h0
  rw [← decide_eq_true_iff (p := dMean (nI q) (nI i) = 6), h]
  simp [aIsRow, Nat.blt, and_assoc, or_assoc]
  omega
theorem dm_r0 {q : Nat} : ¬ aIsRow q 0 := by
  unfold aIsRow
  omega
theorem sMark_v {σ : xS} {s0 nr : Nat} {p : Nat → Int32} {q b : Nat} (hq : q < 10) (hnum : ∀ i, i < oLen p → xgI σ 7 (s0 + i) = p i) (hp : ∀ i, i < oLen p → aIsRow q i → p i = nI (oNn p i) ∧ oNn p i < nr) : ∀ n, n ≤ oLen p → n ≤ 10 → xgI (sMark σ s0 nr (nI q) n) 13 b = oIf (∃ i, i < n ∧ aIsRow q i ∧ oNn p i = b) 1 (xgI σ 13 b)
  | 0, _, _ => by rw [oIf_f (fun ⟨i, i1, _⟩ => absurd i1 (by omega))]; rfl
  | n + 1, h1, h2 => by
    have ih := sMark_v (b := b) hq hnum hp n (by omega) (by omega)
    by_cases e0 : n = 0
    · have e : sMark σ s0 nr (nI q) (n + 1) = sMark σ s0 nr (nI q) n := by rw [sMark, if_pos e0]
      rw [e, ih]
      by_cases d : ∃ i, i < n ∧ aIsRow q i ∧ oNn p i = b
      · obtain ⟨i, i1, -⟩ := d
        omega
      · rw [oIf_f d, oIf_f]
        rintro ⟨i, i1, i2, i3⟩
        rw [show i = 0 by omega] at i2
        exact dm_r0 i2
    · have hm := dm_row q hq n (by omega) e0
      by_cases c : aIsRow q n
      · obtain ⟨p1, p2⟩ := hp n (by omega) c
        have hx : xgI σ 7 (s0 + n) = nI (oNn p n) := (hnum n (by omega)).trans p1
        rw [sMark_1 e0 ⟨hm.mpr c, ⟨oNn p n, p2, hx⟩⟩, hx]
        have hcl : (nI (oNn p n)).toNatClampNeg = oNn p n := by rw [← p1]; rfl
        rw [hcl, xgI_i, ih]
        by_cases d : b = oNn p n
        · rw [if_pos ⟨rfl, d⟩, oIf_t ⟨n, by omega, c, d.symm⟩]
        · rw [if_neg (fun y => d y.2)]
          by_cases f : ∃ i, i < n ∧ aIsRow q i ∧ oNn p i = b
          · obtain ⟨i, i1, i2⟩ := f
            rw [oIf_t ⟨i, i1, i2⟩, oIf_t ⟨i, by omega, i2⟩]
          · rw [oIf_f f, oIf_f]
            rintro ⟨i, i1, i2, i3⟩
            by_cases k : i = n
            · rw [k] at i3
              exact d i3.symm
            · exact f ⟨i, by omega, i2, i3⟩
      · rw [sMark_0 e0 (fun y => c (hm.mp y.1)), ih]
        by_cases f : ∃ i, i < n ∧ aIsRow q i ∧ oNn p i = b
        · obtain ⟨i, i1, i2⟩ := f
          rw [oIf_t ⟨i, i1, i2⟩, oIf_t ⟨i, by omega, i2⟩]
        · rw [oIf_f f, oIf_f]
          rintro ⟨i, i1, i2, i3⟩
          by_cases k : i = n
          · rw [k] at i2
            exact c i2
          · exact f ⟨i, by omega, i2, i3⟩
theorem oLen_10 {D : oMd} {C : oCt} (h : oWc D C) {r : Nat} (hr : r < oNr C) : oLen (oPr C r) ≤ 10 := by
  have h200 := h.1.2.1
  have hg := (h.2.2.2.1 r hr).2.2.1.1
  obtain ⟨q, q1, q2, q3, q4⟩ := oRk_q (R := oRw C) hg (by omega)
  unfold oLen
  refine (dL_b (fun e => ?_)).2
  exact (oSrc4 h hr q2 q1 (by omega)).1
/-- the rows' places, as the cells hold them -/
def oKd (C : oCt) (r : Nat) : Nat := oNn (oPr C r) 0
def oLn (C : oCt) (r : Nat) : Nat := oLen (oPr C r)
theorem oRowsAt {D : oMd} {C : oCt} {σ : xS} (h : oWc D C) (hc : oCn C σ) : rowsAt σ (oNr C) (oKd C) (oRf C) (oLn C) := fun r hr => by
  have h200 := h.1.2.1
  have hz := oRf_z h hr
  have hz15 := h.1.1
  have hlb := oLen_b (p := oPr C r)
  obtain ⟨q, q1, q2, q3, q4⟩ := oRk_q (R := oRw C) (h.2.2.2.1 r hr).2.2.1.1 (by omega)
  obtain ⟨-, d2, d3, d4, -⟩ := hc.2.2.2 r hr
  refine ⟨?_, by show oNn (oPr C r) 0 < 10; omega, d3, d4, by show oRf C r + oLen (oPr C r) ≤ 1500; omega, by show 1 ≤ oLen (oPr C r); omega⟩
  rw [d2, q2]
  show nI q = nI (oNn (oPr C r) 0)
  rw [q3]
theorem sNd_skip {nr : Nat} {kd sa ln : Nat → Nat} {p : Nat × xS} {m : Nat} : ∀ d, (∀ j, m ≤ j → j < m + d → xgI p.2 13 j = 0) → sNd nr kd sa ln (m + d) p = sNd nr kd sa ln m p
  | 0, _ => rfl
  | d + 1, h => by
    rw [show m + (d + 1) = (m + d) + 1 by omega, sNd_0 (h (m + d) (by omega) (by omega)), sNd_skip d (fun j h1 h2 => h j h1 (by omega))]
theorem sNd_e {D : oMd} {C : oCt} {σ : xS} (h : oWc D C) (h7 : ∀ i, i < oZ C → xgI σ 7 i = oU C i) : ∀ k (p : Nat × xS) (s' : Nat × (Nat → Int32)), k ≤ oNr C → (∀ b, xgI p.2 7 b = xgI σ 7 b) → p.1 = s'.1 → (∀ b, b < 200 → xgI p.2 13 b = s'.2 b) → (sNd (oNr C) (oKd C) (oRf C) (oLn C) k p).1 = (oNd (oPr C) k s').1 ∧ (∀ b, b < 200 → xgI (sNd (oNr C) (oKd C) (oRf C) (oLn C) k p).2 13 b = (oNd (oPr C) k s').2 b) ∧ (∀ a b, a ≠ 13 → xgI (sNd (oNr C) (oKd C) (oRf C) (oLn C) k p).2 a b = xgI p.2 a b) ∧ (sNd (oNr C) (oKd C) (oRf C) (oLn C) k p).2.2 = p.2.2
  | 0, p, s', _, _, h1, h2 => ⟨h1, h2, fun _ _ _ => rfl, rfl⟩
  | k + 1, p, s', hk, hp7, h1, h2 => by
    have h200 := h.1.2.1
    have e := h2 k (by omega)
    rw [oNd]
    by_cases c : xgI p.2 13 k = 0
    · rw [sNd_0 c, if_pos (e.symm.trans c)]
      exact sNd_e h h7 k p s' (by omega) hp7 h1 h2
    · rw [sNd_1 c, if_neg (fun y => c (e.trans y))]
      have hkn : k < oNr C := by omega
      have hz := oRf_z h hkn
      obtain ⟨q, q1, q2, q3, q4⟩ := oRk_q (R := oRw C) (h.2.2.2.1 k hkn).2.2.1.1 (by omega)
      have hv := fun b => sMark_v (σ := p.2) (s0 := oRf C k) (nr := oNr C) (p := oPr C k) (q := oKd C k) (b := b) (by show oNn (oPr C k) 0 < 10; omega) (fun i hi => by rw [hp7, h7 _ (by omega)]; exact (h.2.2.2.1 k hkn).2.1 i hi) (fun i hi hR => by
        obtain ⟨a1, a2⟩ := oPlace h hkn hi hR
        exact ⟨a1, by omega⟩) (oLn C k) (Nat.le_refl _) (oLen_10 h hkn)
      obtain ⟨r1, r2, r3, r4⟩ := sNd_e h h7 k (p.1 + 1, sMark p.2 (oRf C k) (oNr C) (nI (oKd C k)) (oLn C k)) (s'.1 + 1, fun b => oIf (oIn (oPr C k) b) 1 (s'.2 b)) (by omega) (fun b => by rw [sMark_o b (by omega)]; exact hp7 b) (by show p.1 + 1 = s'.1 + 1; rw [h1]) (fun b hb => by
        show xgI (sMark p.2 (oRf C k) (oNr C) (nI (oKd C k)) (oLn C k)) 13 b = oIf (oIn (oPr C k) b) 1 (s'.2 b)
        rw [hv b, h2 b hb]
        rfl)
      refine ⟨r1, r2, fun a b hab => ?_, ?_⟩
      · rw [r3 a b hab]
        exact sMark_o b hab _
      · rw [r4]
        exact sMark_L _
theorem sN0_2 {σ : xS} {w : Nat} : ∀ n, (sN0 σ w n).2 = σ.2
  | 0 => rfl
  | n + 1 => by rw [sN0, xsI_22, sN0_2 n]
theorem sNeed_e {D : oMd} {C : oCt} {σ : xS} {w : Nat} (h : oWc D C) (hc : oCn C σ) (hn : w < oNr C) : (sNd (oNr C) (oKd C) (oRf C) (oLn C) 200 (0, sN0 σ w 200)).1 = (oNeed (oPr C) w).1 ∧ (∀ b, b < 200 → xgI (sNd (oNr C) (oKd C) (oRf C) (oLn C) 200 (0, sN0 σ w 200)).2 13 b = (oNeed (oPr C) w).2 b) ∧ (∀ a b, a ≠ 13 → xgI (sNd (oNr C) (oKd C) (oRf C) (oLn C) 200 (0, sN0 σ w 200)).2 a b = xgI σ a b) ∧ (sNd (oNr C) (oKd C) (oRf C) (oLn C) 200 (0, sN0 σ w 200)).2.2 = σ.2 := by
  have h200 := h.1.2.1
  have sk := sNd_skip (nr := oNr C) (kd := oKd C) (sa := oRf C) (ln := oLn C) (p := (0, sN0 σ w 200)) (m := w + 1) (200 - (w + 1)) (fun j h1 h2 => by
    show xgI (sN0 σ w 200) 13 j = 0
    rw [sN0_n 200 (by omega), if_neg (by omega)])
  rw [show w + 1 + (200 - (w + 1)) = 200 by omega] at sk
  rw [sk]
  obtain ⟨r1, r2, r3, r4⟩ := sNd_e h hc.2.1 (w + 1) (0, sN0 σ w 200) (0, fun b => if b = w then 1 else 0) (by omega) (fun b => sN0_o b (by omega) 200) rfl (fun b hb => sN0_n 200 hb)
  refine ⟨r1, r2, fun a b hab => ?_, ?_⟩
  · rw [r3 a b hab]
    exact sN0_o b hab 200
  · rw [r4]
    exact sN0_2 200
