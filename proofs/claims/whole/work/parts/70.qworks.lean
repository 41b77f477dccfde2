/-! The reference makes the rows too -/
/-- all but row n, and but for the count of branches, stays -/
def qOf (n : Nat) (σ τ : xS) : Prop := (∀ a b, a ≠ 54 → a ≠ 56 → ¬ (a = 37 ∧ b = 27) → xgI τ a b = xgI σ a b) ∧ (∀ b, b ≠ n → xgI τ 54 b = xgI σ 54 b) ∧ (∀ b, (b < 200 * n ∨ 200 * n + 200 ≤ b) → xgI τ 56 b = xgI σ 56 b) ∧ (∀ a b, a ≠ 52 → a ≠ 53 → a ≠ 55 → xgL τ a b = xgL σ a b) ∧ (∀ b, (b < 8 * n ∨ 8 * n + 8 ≤ b) → xgL τ 52 b = xgL σ 52 b) ∧ (∀ b, b ≠ n → xgL τ 53 b = xgL σ 53 b ∧ xgL τ 55 b = xgL σ 55 b) ∧ xgC τ = xgC σ ∧ xgD τ = xgD σ
theorem qOf_of {n : Nat} {σ τ : xS} (h : qOff n σ τ) : qOf n σ τ ∧ xgI τ 37 27 = xgI σ 37 27 := ⟨⟨fun a b h1 h2 _ => h.1 a b h1 h2, h.2.1, h.2.2.1, h.2.2.2.1, h.2.2.2.2.1, h.2.2.2.2.2.1, h.2.2.2.2.2.2.1, h.2.2.2.2.2.2.2⟩, h.1 _ _ (by omega) (by omega)⟩
theorem oQr_of {σ τ : xS} {n i : Nat} {w : oRow} (hin : i ≠ n) (ho : qOf n σ τ) (h : oQr σ i w) : oQr τ i w :=
  oQr_c (fun v hv => ho.2.2.2.2.1 _ (by omega)) (ho.2.2.2.2.2.1 i hin).1 (fun b hb => ho.2.2.1 _ (by omega)) (ho.2.1 i hin) (ho.2.2.2.2.2.1 i hin).2 h
noncomputable def oY (D : oMd) (R : Nat → oRow) (p : Nat → Int32) : Int32 := if ¬ (oMake D R p).1 = 0 then (oMake D R p).1 else oIf (oFit (oMake D R p).2) 0 8
def oPW (D : oMd) (R : Nat → oRow) (p : Nat → Int32) (σ : xS) (n nb : Nat) (y : Int32) (t : xS) : Prop := y = oY D R p ∧ qOf n σ t ∧ ((y = 0 → xgI t 37 27 = nI (nb + if oNn p 0 = 6 then 1 else 0)) ∧ (¬ y = 0 → xgI t 37 27 = nI nb)) ∧ (y = 0 → oQr t n (oKp p n (oMake D R p).2))
theorem qG_e {t : xS} {n V : Nat} {w : oRow} (hV : V ≤ 8) (hz : ∀ v, V ≤ v → oF w v = 0) (h : oQr t n w) : qG t n V V ↔ ¬ oFit w := by
  unfold qG oFit
  rw [h.2.1]
  constructor
  · rintro z ⟨z1, z2, z3⟩
    rcases z with (z | z) | ⟨v, v1, z | z⟩
    · exact xi64_nlt.mpr z2 z
    · exact xi64_nlt.mpr z3 z
    · rw [h.1 v (by omega)] at z
      exact xi64_nlt.mpr (z1 v (by omega)).1 z
    · rw [h.1 v (by omega)] at z
      exact xi64_nlt.mpr (z1 v (by omega)).2 z
  · intro z
    refine Classical.byContradiction (fun y => z ⟨fun v hv => ?_, ?_, ?_⟩)
    · by_cases c : v < V
      · refine ⟨xi64_nlt.mp (fun k => y (Or.inr ⟨v, c, Or.inl ?_⟩)), xi64_nlt.mp (fun k => y (Or.inr ⟨v, c, Or.inr ?_⟩))⟩
        · rw [h.1 v hv]; exact k
        · rw [h.1 v hv]; exact k
      · rw [hz v (by omega)]
        decide
    · exact xi64_nlt.mp (fun k => y (Or.inl (Or.inl k)))
    · exact xi64_nlt.mp (fun k => y (Or.inl (Or.inr k)))
/-- the end of a make that tells no fault of its own -/
theorem oPW_ok {D : oMd} {R : Nat → oRow} {p : Nat → Int32} {σ t : xS} {n nb V : Nat} {w : oRow} (hV : V ≤ 8) (e : oMake D R p = (0, w)) (hz : ∀ v, V ≤ v → oF w v = 0) (ho : qOff n σ t) (hc : oQr t n w) (h6 : ¬ oNn p 0 = 6) (hb : xgI σ 37 27 = nI nb) : oPW D R p σ n nb (qFin t n V) t := by
  have hY : qFin t n V = oY D R p := by
    unfold oY
    rw [e, if_neg (fun z => z rfl)]
    by_cases c : oFit w
    · rw [oIf_t c, qFin_f (fun z => (qG_e hV hz hc).mp z c)]
    · rw [oIf_f c, qFin_t ((qG_e hV hz hc).mpr c)]
  refine ⟨hY, (qOf_of ho).1, ⟨fun _ => ?_, fun _ => ?_⟩, fun _ => ?_⟩
  · rw [(qOf_of ho).2, hb, if_neg h6]; rfl
  · rw [(qOf_of ho).2, hb]
  · rw [e]
    unfold oKp
    rw [if_neg h6]
    exact hc
theorem oPW_no {D : oMd} {R : Nat → oRow} {p : Nat → Int32} {σ t : xS} {n nb : Nat} {w : oRow} {y : Int32} (e : oMake D R p = (y, w)) (hy : ¬ y = 0) (ho : qOff n σ t) (hb : xgI σ 37 27 = nI nb) : oPW D R p σ n nb y t := by
  refine ⟨?_, (qOf_of ho).1, ⟨fun z => absurd z hy, fun _ => ?_⟩, fun z => absurd z hy⟩
  · unfold oY
    rw [e, if_pos hy]
  · rw [(qOf_of ho).2, hb]
theorem oQr_sgl {σ : xS} {n v : Nat} {f r : Int64} (h : oQr σ n oNil) : oQr (xsL (xsL σ 52 (8 * n + v) f) 53 n r) n (oSgl v f r (fun _ => false) none) := by
  refine ⟨fun u hu => ?_, ?_, fun b hb => h.2.2.1 b hb, ?_⟩
  · rw [xgL_n (by omega), xgL_i]
    by_cases e : u = v
    · rw [if_pos ⟨rfl, by omega⟩]; show f = if u = v then f else 0; rw [if_pos e]
    · rw [if_neg (by omega), h.1 u hu]; show (0 : Int64) = if u = v then f else 0; rw [if_neg e]
  · rw [xgL_s]; rfl
  · exact oQl_c (σ := σ) h.2.2.2 rfl (by rw [xgL_n (by omega), xgL_n (by omega)])
theorem qRl_F {σ : xS} {n v : Nat} {g : Nat → Int32} : ∀ k, xgL (qRl σ n g k) 52 (8 * n + v) = if v < k then (g v).toInt64 else xgL σ 52 (8 * n + v)
  | 0 => by simp [qRl]
  | k + 1 => by
    rw [qRl, xgL_i, qRl_F k]
    by_cases h : v = k
    · simp [h]
    · by_cases h2 : v < k
      · rw [if_neg (by omega), if_pos h2, if_pos (by omega)]
      · rw [if_neg (by omega), if_neg h2, if_neg (by omega)]
theorem qRl_o {σ : xS} {n a b : Nat} {g : Nat → Int32} (h : a ≠ 52) : ∀ k, xgL (qRl σ n g k) a b = xgL σ a b
  | 0 => rfl
  | k + 1 => by rw [qRl, xgL_n (by omega), qRl_o h k]
theorem qRl_I {σ : xS} {n a b : Nat} {g : Nat → Int32} : ∀ k, xgI (qRl σ n g k) a b = xgI σ a b
  | 0 => rfl
  | k + 1 => by rw [qRl, xgI_L, qRl_I k]
theorem oQr_giv {σ : xS} {n V : Nat} {f g : Nat → Int32} {r : Int64} (hf : ∀ v, v < V → f v = g v) (hz : ∀ v, V ≤ v → g v = 0) (h : oQr σ n oNil) : oQr (xsL (qRl σ n f V) 53 n r) n (fun v => (g v).toInt64, r, fun _ => false, none, none) := by
  refine ⟨fun u hu => ?_, ?_, fun b hb => ?_, ?_⟩
  · rw [xgL_n (by omega), qRl_F]
    by_cases c : u < V
    · rw [if_pos c, hf u c]; rfl
    · rw [if_neg c, h.1 u hu]
      show (0 : Int64) = (g u).toInt64
      rw [hz u (by omega)]
      decide
  · rw [xgL_s]; rfl
  · rw [xgI_L, qRl_I]; exact h.2.2.1 b hb
  · exact oQl_c (σ := σ) h.2.2.2 (by rw [xgI_L, qRl_I]) (by rw [xgL_n (by omega), qRl_o (by omega)])
theorem qTl_L {σ : xS} {n a b : Nat} {g : Nat → Int64} (h : ¬ (a = 53 ∧ b = n)) : ∀ k, xgL (qTl σ n g k) a b = xgL σ a b
  | 0 => rfl
  | k + 1 => by rw [qTl, xgL_n h, qTl_L h k]
theorem qTl_R {σ : xS} {n : Nat} {g g' : Nat → Int64} (h0 : xgL σ 53 n = 0) : ∀ k, (∀ j, j < k → g j = g' j) → xgL (qTl σ n g k) 53 n = oMx g' k
  | 0, _ => h0
  | k + 1, h => by
    have ih := qTl_R (g := g) (g' := g') h0 k (fun j hj => h j (by omega))
    rw [qTl, oMx, xgL_s, ih, h k (by omega)]
    by_cases c : k = 0
    · rw [if_pos c, if_pos (Or.inl c)]
    · rw [if_neg c]
      by_cases d : g' k ≤ oMx g' k
      · rw [if_pos d, if_neg]
        rintro (z | z)
        · exact c z
        · exact xi64_nlt.mpr d z
      · rw [if_neg d, if_pos (Or.inr (xi64_nle.mp d))]
theorem oQr_tab {σ : xS} {n a b P : Nat} {x y : Int64} {g g' : Nat → Int64} (hg : ∀ k, k < P → g k = g' k) (h : oQr σ n oNil) : oQr (qTl (xsL (xsL σ 52 (8 * n + a) x) 52 (8 * n + b) y) n g P) n (fun v => if v = b then y else if v = a then x else 0, oMx g' P, fun _ => false, none, none) := by
  refine ⟨fun u hu => ?_, ?_, fun c hc => ?_, ?_⟩
  · rw [qTl_L (by omega), xgL_i, xgL_i, h.1 u hu]
    show _ = if u = b then y else if u = a then x else 0
    by_cases c : u = b
    · rw [if_pos ⟨rfl, by omega⟩, if_pos c]
    · rw [if_neg (by omega), if_neg c]
      by_cases d : u = a
      · rw [if_pos ⟨rfl, by omega⟩, if_pos d]
      · rw [if_neg (by omega), if_neg d]; rfl
  · exact qTl_R (by rw [xgL_n (by omega), xgL_n (by omega)]; exact h.2.1) P hg
  · rw [qTl_I]; exact h.2.2.1 c hc
  · exact oQl_c (σ := σ) h.2.2.2 (by rw [qTl_I]; rfl) (by rw [qTl_L (by omega), xgL_n (by omega), xgL_n (by omega)])
theorem qSf_F {σ : xS} {n r v : Nat} {o : Int64} (hnr : r ≠ n) (hv : v < 8) : ∀ k, k ≤ 8 → xgL (qSf σ n r o k) 52 (8 * n + v) = (if v < k then xgL σ 52 (8 * n + v) + xgL σ 52 (8 * r + v) * o else xgL σ 52 (8 * n + v)) ∧ xgL (qSf σ n r o k) 52 (8 * r + v) = xgL σ 52 (8 * r + v)
  | 0, _ => by simp [qSf]
  | k + 1, hk => by
    have ih := qSf_F (σ := σ) (o := o) hnr hv k (by omega)
    rw [qSf, xgL_i]
    refine ⟨?_, ?_⟩
    · by_cases h : v = k
      · subst h
        rw [if_pos ⟨rfl, rfl⟩, if_pos (show v < v + 1 by omega), ih.1, ih.2, if_neg (show ¬ v < v by omega)]
      · rw [if_neg (by omega), ih.1]
        by_cases h2 : v < k
        · rw [if_pos h2, if_pos (by omega)]
        · rw [if_neg h2, if_neg (by omega)]
    · rw [xgL_n (by omega)]
      exact ih.2
theorem qSf_o {σ : xS} {n r a b : Nat} {o : Int64} (h : a ≠ 52) : ∀ k, xgL (qSf σ n r o k) a b = xgL σ a b
  | 0 => rfl
  | k + 1 => by rw [qSf, xgL_n (by omega), qSf_o h k]
theorem qSf_I {σ : xS} {n r a b : Nat} {o : Int64} : ∀ k, xgI (qSf σ n r o k) a b = xgI σ a b
  | 0 => rfl
  | k + 1 => by rw [qSf, xgI_L, qSf_I k]
theorem oQr_one {σ : xS} {n r V : Nat} {a b : oRow} {o : Int64} (hn : n < 200) (hnr : r ≠ n) (hV : V ≤ 8) (hza : ∀ v, V ≤ v → oF a v = 0) (hzb : ∀ v, V ≤ v → oF b v = 0) (hb0 : ∀ x, oS b x = true → x < n) (ha : oQr σ n a) (hb : oQr σ r b) : oQr (qSone σ n r V o) n (oAdd a b o) := by
  unfold qSone
  have s1 : oQr (xsL (qSf σ n r o V) 53 n (xgL (qSf σ n r o V) 53 n + xgL (qSf σ n r o V) 53 r * o)) n (fun v => oF a v + o * oF b v, oR a + o * oR b, oS a, oL a, oB a) := by
    refine ⟨fun v hv => ?_, ?_, fun x hx => ?_, ?_⟩
    · rw [xgL_n (by omega), (qSf_F hnr hv V hV).1, ha.1 v hv, hb.1 v hv]
      show _ = oF a v + o * oF b v
      by_cases c : v < V
      · rw [if_pos c, Int64.mul_comm]
      · rw [if_neg c, hza v (by omega), hzb v (by omega), Int64.mul_zero, Int64.add_zero]
    · rw [xgL_s, qSf_o (by omega), qSf_o (by omega), ha.2.1, hb.2.1, Int64.mul_comm]; rfl
    · rw [xgI_L, qSf_I]; exact ha.2.2.1 x hx
    · exact oQl_c (σ := σ) ha.2.2.2 (by rw [xgI_L, qSf_I]) (by rw [xgL_n (by omega), qSf_o (by omega)])
  have o1 : qOff n σ (xsL (qSf σ n r o V) 53 n (xgL (qSf σ n r o V) 53 n + xgL (qSf σ n r o V) 53 r * o)) := (qSf_off V hV).tr qOff.r
  refine oQr_e (oQr_ass (but := -1) hn hnr hb0 s1 (oQr_off hnr o1 hb)) (fun v _ => rfl) rfl (fun x hx => ?_) rfl
  show (oS a x || (oS b x && !decide (nI x = -1))) = (oS a x || oS b x)
  rw [decide_eq_false (nI_m1 hx)]
  simp
theorem oQr_sum {σ : xS} {n V : Nat} {R : Nat → oRow} {p : Nat → Int32} {pr : Nat → Nat} {po : Nat → Int32} (hn : n < 200) (hV : V ≤ 8) (h0 : oQr σ n oNil) : ∀ k, (∀ m, m < k → p (2 + 2 * m) = nI (pr m) ∧ pr m < n ∧ po m = p (2 + 2 * m + 1) ∧ oQr σ (pr m) (R (pr m)) ∧ (∀ v, V ≤ v → oF (R (pr m)) v = 0) ∧ ∀ x, oS (R (pr m)) x = true → x < n) → oQr (qSum σ n V pr po k) n (oSum R p k) ∧ ∀ v, V ≤ v → oF (oSum R p k) v = 0
  | 0, _ => ⟨h0, fun _ _ => rfl⟩
  | k + 1, h => by
    obtain ⟨ih, iz⟩ := oQr_sum (R := R) (p := p) (pr := pr) (po := po) hn hV h0 k (fun m hm => h m (by omega))
    obtain ⟨h1, h2, h3, h4, h5, h6⟩ := h k (by omega)
    rw [qSum, oSum, h1, nI_clamp (by omega), ← h3]
    refine ⟨oQr_one hn (by omega) hV iz h5 h6 ih (oQr_off (by omega) (qSum_off hV (by omega) k) h4), fun v hv => ?_⟩
    show oF (oSum R p k) v + (po k).toInt64 * oF (R (pr k)) v = 0
    rw [iz v hv, h5 v hv, Int64.mul_zero, Int64.add_zero]
theorem qDv_F {σ : xS} {n r v : Nat} {d : Int64} : ∀ k, xgL (qDv σ n r d k) 52 (8 * n + v) = if v < k then xgL σ 52 (8 * r + v) / d else xgL σ 52 (8 * n + v)
  | 0 => by simp [qDv]
  | k + 1 => by
    rw [qDv, xgL_i, qDv_F k]
    by_cases h : v = k
    · simp [h]
    · by_cases h2 : v < k
      · rw [if_neg (by omega), if_pos h2, if_pos (by omega)]
      · rw [if_neg (by omega), if_neg h2, if_neg (by omega)]
theorem qDv_o {σ : xS} {n r a b : Nat} {d : Int64} (h : a ≠ 52) : ∀ k, xgL (qDv σ n r d k) a b = xgL σ a b
  | 0 => rfl
  | k + 1 => by rw [qDv, xgL_n (by omega), qDv_o h k]
theorem qDv_I {σ : xS} {n r a b : Nat} {d : Int64} : ∀ k, xgI (qDv σ n r d k) a b = xgI σ a b
  | 0 => rfl
  | k + 1 => by rw [qDv, xgI_L, qDv_I k]
theorem oQr_div {σ : xS} {n r V : Nat} {d : Int64} {w : oRow} (hn : n < 200) (hnr : r ≠ n) (hV : V ≤ 8) (hd : 0 < d) (hz : ∀ v, V ≤ v → oF w v = 0) (hb0 : ∀ x, oS w x = true → x < n) (h : oQr σ n oNil) (hw : oQr σ r w) : oQr (qDone σ n r V d) n (oDiv w d) := by
  unfold qDone
  have s1 : oQr (xsL (qDv σ n r d V) 53 n (qDown (xgL (qDv σ n r d V) 53 r) d)) n (fun v => oF w v / d, xFd (oR w) d, fun _ => false, none, none) := by
    refine ⟨fun v hv => ?_, ?_, fun x hx => ?_, ?_⟩
    · rw [xgL_n (by omega), qDv_F, h.1 v hv, hw.1 v hv]
      show _ = oF w v / d
      by_cases c : v < V
      · rw [if_pos c]
      · rw [if_neg c, hz v (by omega), Int64.zero_div]; rfl
    · rw [xgL_s, qDv_o (by omega), hw.2.1, ← xFd_q hd]; rfl
    · rw [xgI_L, qDv_I]; exact h.2.2.1 x hx
    · exact oQl_c (σ := σ) h.2.2.2 (by rw [xgI_L, qDv_I]) (by rw [xgL_n (by omega), qDv_o (by omega)])
  have o1 : qOff n σ (xsL (qDv σ n r d V) 53 n (qDown (xgL (qDv σ n r d V) 53 r) d)) := (qDv_off V hV).tr qOff.r
  refine oQr_e (oQr_ass (but := -1) hn hnr hb0 s1 (oQr_off hnr o1 hw)) (fun v _ => rfl) rfl (fun x hx => ?_) (oInh_0 _)
  show (false || (oS w x && !decide (nI x = -1))) = oS w x
  rw [decide_eq_false (nI_m1 hx)]
  simp
theorem qCp_F {σ : xS} {n y v : Nat} : ∀ k, xgL (qCp σ n y k) 52 (8 * n + v) = if v < k then xgL σ 52 (8 * y + v) else xgL σ 52 (8 * n + v)
  | 0 => by simp [qCp]
  | k + 1 => by
    rw [qCp, xgL_i, qCp_F k]
    by_cases h : v = k
    · simp [h]
    · by_cases h2 : v < k
      · rw [if_neg (by omega), if_pos h2, if_pos (by omega)]
      · rw [if_neg (by omega), if_neg h2, if_neg (by omega)]
theorem qCp_o {σ : xS} {n y a b : Nat} (h : a ≠ 52) : ∀ k, xgL (qCp σ n y k) a b = xgL σ a b
  | 0 => rfl
  | k + 1 => by rw [qCp, xgL_n (by omega), qCp_o h k]
theorem qCp_I {σ : xS} {n y a b : Nat} : ∀ k, xgI (qCp σ n y k) a b = xgI σ a b
  | 0 => rfl
  | k + 1 => by rw [qCp, xgI_L, qCp_I k]
/-- c and d are branches: they assume themselves -/
theorem oQr_jf {σ : xS} {n a b c d y V : Nat} {A B C E Y : oRow} (hn : n < 200) (ha : a < n) (hb : b < n) (hc : c < n) (hd : d < n) (hy : y < n) (hV : V ≤ 8) (hz : ∀ v, V ≤ v → oF Y v = 0) (hA0 : ∀ x, oS A x = true → x < n) (hB0 : ∀ x, oS B x = true → x < n) (hC : oS C = fun x => x == c) (hE : oS E = fun x => x == d) (h : oQr σ n oNil) (hA : oQr σ a A) (hB : oQr σ b B) (hY : oQr σ y Y) : oQr (qJf σ n a b c d y V) n (oJn A B C E Y) := by
  unfold qJf
  have s1 : oQr (xsL (qCp σ n y V) 53 n (xgL (qCp σ n y V) 53 y)) n (oF Y, oR Y, fun _ => false, none, none) := by
    refine ⟨fun v hv => ?_, ?_, fun x hx => ?_, ?_⟩
    · rw [xgL_n (by omega), qCp_F, h.1 v hv, hY.1 v hv]
      show _ = oF Y v
      by_cases e : v < V
      · rw [if_pos e]
      · rw [if_neg e, hz v (by omega)]; rfl
    · rw [xgL_s, qCp_o (by omega), hY.2.1]; rfl
    · rw [xgI_L, qCp_I]; exact h.2.2.1 x hx
    · exact oQl_c (σ := σ) h.2.2.2 (by rw [xgI_L, qCp_I]) (by rw [xgL_n (by omega), qCp_o (by omega)])
  have o1 : qOff n σ (xsL (qCp σ n y V) 53 n (xgL (qCp σ n y V) 53 y)) := (qCp_off V hV).tr qOff.r
  have s2 := oQr_ass (but := nI c) hn (by omega) hA0 s1 (oQr_off (by omega) o1 hA)
  have o2 := o1.tr (qAssumes_off (o := a) (but := nI c) (by omega))
  have s3 := oQr_ass (but := nI d) hn (by omega) hB0 s2 (oQr_off (by omega) o2 hB)
  refine oQr_e s3 (fun v _ => rfl) rfl (fun x hx => ?_) ?_
  · show ((false || (oS A x && !decide (nI x = nI c))) || (oS B x && !decide (nI x = nI d))) = ((oS A x && !oS C x) || (oS B x && !oS E x))
    rw [hC, hE]
    have e1 : decide (nI x = nI c) = (x == c) := by
      by_cases e : x = c
      · simp [e]
      · rw [decide_eq_false (fun z => e ((nI_eq (by omega) (by omega)).mp z))]
        simp [e]
    have e2 : decide (nI x = nI d) = (x == d) := by
      by_cases e : x = d
      · simp [e]
      · rw [decide_eq_false (fun z => e ((nI_eq (by omega) (by omega)).mp z))]
        simp [e]
    rw [e1, e2, Bool.false_or]
  · show oInh (oInh none (oL A)) (oL B) = oInh (oL A) (oL B)
    rw [oInh_0]
theorem oQr_bet {D : oMd} {σ : xS} {n p : Nat} (hm : oQm D σ) (hw : oWm D) (hp : p < oNp D) (h : oQr σ n oNil) : oQr (qBet σ n p (oV D)) n (oBet D p) := by
  unfold qBet
  rw [qCost_e hm hw hp]
  have s := oQr_giv (r := oCst D p - 1) (V := oV D) (f := xgI σ 41) (g := oCo D) (fun v hv => (hm.2.1 v hv).2.2) (fun v hv => (hw.2.1 v hv).2.2) h
  refine ⟨fun u hu => ?_, ?_, fun b hb => ?_, ?_, ?_⟩
  · rw [xgL_n (by omega), xgL_I, s.1 u hu]; rfl
  · rw [xgL_n (by omega), xgL_I, s.2.1]; rfl
  · rw [xgI_L, xgI_n (by omega)]; exact s.2.2.1 b hb
  · rw [xgI_L, xgI_s]
  · rw [xgL_s]
theorem qRest_e {D : oMd} {σ : xS} {r w : Nat} {W : oRow} (hm : oQm D σ) (hV : oV D ≤ 8) (h1 : xgL σ 53 r = oR W) (h2 : ∀ v, v < 8 → xgL σ 52 (8 * r + v) = oF W v) : ∀ k, k ≤ oV D → qRest σ r w k = oRst D W w k
  | 0, _ => h1
  | k + 1, hk => by
    rw [qRest, oRst, qRest_e hm hV h1 h2 k (by omega), h2 k (by omega), (hm.2.1 k (by omega)).1, (hm.2.1 k (by omega)).2.1]
    by_cases c : k = w
    · rw [if_pos c, if_pos c]
    · rw [if_neg c, if_neg c]
      by_cases d : oF W k * (oHi D k).toInt64 < oF W k * (oLo D k).toInt64
      · rw [if_pos d, if_pos (Int64.le_of_lt d)]
      · rw [if_neg d]
        by_cases f : oF W k * (oHi D k).toInt64 ≤ oF W k * (oLo D k).toInt64
        · rw [if_pos f, Int64.le_antisymm f (xi64_nlt.mp d)]
        · rw [if_neg f]
theorem oRst_pad {D : oMd} {W : oRow} {w V : Nat} (hz : ∀ v, V ≤ v → oF W v = 0) : ∀ k, V ≤ k → oRst D W w k = oRst D W w V
  | 0, h => by rw [show V = 0 by omega]
  | k + 1, h => by
    by_cases e : V = k + 1
    · rw [e]
    · rw [oRst, oRst_pad hz k (by omega), hz k (by omega)]
      split
      · rfl
      · rw [Int64.zero_mul, Int64.zero_mul, if_neg Int64.lt_irrefl, Int64.sub_zero]
theorem i64_negp {x : Int64} (h : x ≤ 0) (h0 : ¬ x = 0) (hb : -1000000000000 ≤ x) : 0 < -x := by
  rw [Int64.le_iff_toInt_le] at h hb
  rw [Int64.lt_iff_toInt_lt, Int64.toInt_neg]
  rw [show (0 : Int64).toInt = 0 from by decide] at *
  rw [show (-1000000000000 : Int64).toInt = -1000000000000 from by decide] at hb
  have : ¬ x.toInt = 0 := fun z => h0 (Int64.toInt_inj.mp (by rw [z]; decide))
  rw [Int.bmod_eq_of_le (by omega) (by omega)]
  omega
theorem oQr_push {D : oMd} {σ : xS} {n r w : Nat} {W : oRow} (hn : n < 200) (hnr : r ≠ n) (hm : oQm D σ) (hwm : oWm D) (hw : w < oV D) (hz : ∀ v, oV D ≤ v → oF W v = 0) (hb0 : ∀ x, oS W x = true → x < n) (hfit : -1000000000000 ≤ oF W w) (h : oQr σ n oNil) (hW : oQr σ r W) : (qPush σ n r w (oV D)).1 = (oPush D W w).1 ∧ ((oPush D W w).1 = 0 → oQr (qPush σ n r w (oV D)).2 n (oPush D W w).2) := by
  have hV := hwm.1.1
  have fin : ∀ f x : Int64, oQr (qAssumes (xsL (xsL σ 52 (8 * n + w) f) 53 n x) n r (-1)) n (oSgl w f x (oS W) (oL W)) := by
    intro f x
    have s1 := oQr_sgl (v := w) (f := f) (r := x) h
    have o1 : qOff n σ (xsL (xsL σ 52 (8 * n + w) f) 53 n x) := (qOff.f (by omega)).tr qOff.r
    refine oQr_e (oQr_ass (but := -1) hn hnr hb0 s1 (oQr_off hnr o1 hW)) (fun v _ => rfl) rfl (fun y hy => ?_) (oInh_0 _)
    show (false || (oS W y && !decide (nI y = -1))) = oS W y
    rw [decide_eq_false (nI_m1 hy)]
    simp
  unfold qPush oPush
  rw [hW.1 w (by omega), qRest_e hm hV hW.2.1 hW.1 _ (Nat.le_refl _), ← oRst_pad (D := D) (w := w) hz 8 hV]
  by_cases e : oF W w = 0
  · rw [if_pos e, if_pos e]
    exact ⟨rfl, fun z => absurd z (show ¬ (5 : Int32) = 0 by decide)⟩
  · rw [if_neg e, if_neg e]
    by_cases e2 : oF W w ≤ 0
    · rw [if_pos e2, if_pos e2, xFd_q (i64_negp e2 e hfit)]
      exact ⟨rfl, fun _ => fin _ _⟩
    · rw [if_neg e2, if_neg e2, xFd_q (xi64_nle.mp e2)]
      exact ⟨rfl, fun _ => fin _ _⟩
