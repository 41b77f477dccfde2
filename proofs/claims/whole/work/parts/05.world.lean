/-! THE STATE: ints and longs by cell and place, and the two references that change (current, spare) -/
abbrev xS : Type := (Nat → Nat → Int32) × (Nat → Nat → Int64) × Nat × Nat
def xgI (σ : xS) (k j : Nat) : Int32 := σ.1 k j
def xgL (σ : xS) (k j : Nat) : Int64 := σ.2.1 k j
def xgC (σ : xS) : Nat := σ.2.2.1
def xgD (σ : xS) : Nat := σ.2.2.2
def xsI (σ : xS) (k j : Nat) (v : Int32) : xS := (fun a b => if a = k ∧ b = j then v else σ.1 a b, σ.2)
def xsL (σ : xS) (k j : Nat) (v : Int64) : xS := (σ.1, fun a b => if a = k ∧ b = j then v else σ.2.1 a b, σ.2.2)
def xsC (σ : xS) (v : Nat) : xS := (σ.1, σ.2.1, v, σ.2.2.2)
def xsD (σ : xS) (v : Nat) : xS := (σ.1, σ.2.1, σ.2.2.1, v)
theorem xgI_s (σ : xS) (k j : Nat) (v : Int32) : xgI (xsI σ k j v) k j = v := if_pos ⟨rfl, rfl⟩
theorem xgI_i (σ : xS) (k j a b : Nat) (v : Int32) : xgI (xsI σ k j v) a b = if a = k ∧ b = j then v else xgI σ a b := rfl
theorem xgI_n {σ : xS} {k j a b : Nat} {v : Int32} (h : ¬ (a = k ∧ b = j)) : xgI (xsI σ k j v) a b = xgI σ a b := if_neg h
theorem xgL_s (σ : xS) (k j : Nat) (v : Int64) : xgL (xsL σ k j v) k j = v := if_pos ⟨rfl, rfl⟩
theorem xgL_i (σ : xS) (k j a b : Nat) (v : Int64) : xgL (xsL σ k j v) a b = if a = k ∧ b = j then v else xgL σ a b := rfl
theorem xgL_n {σ : xS} {k j a b : Nat} {v : Int64} (h : ¬ (a = k ∧ b = j)) : xgL (xsL σ k j v) a b = xgL σ a b := if_neg h
theorem xgI_L (σ : xS) (k j a b : Nat) (v : Int64) : xgI (xsL σ k j v) a b = xgI σ a b := rfl
theorem xgL_I (σ : xS) (k j a b : Nat) (v : Int32) : xgL (xsI σ k j v) a b = xgL σ a b := rfl
theorem xgI_C (σ : xS) (v a b : Nat) : xgI (xsC σ v) a b = xgI σ a b := rfl
theorem xgI_D (σ : xS) (v a b : Nat) : xgI (xsD σ v) a b = xgI σ a b := rfl
theorem xgL_C (σ : xS) (v a b : Nat) : xgL (xsC σ v) a b = xgL σ a b := rfl
theorem xgL_D (σ : xS) (v a b : Nat) : xgL (xsD σ v) a b = xgL σ a b := rfl
theorem xgC_I (σ : xS) (k j : Nat) (v : Int32) : xgC (xsI σ k j v) = xgC σ := rfl
theorem xgC_L (σ : xS) (k j : Nat) (v : Int64) : xgC (xsL σ k j v) = xgC σ := rfl
theorem xgD_I (σ : xS) (k j : Nat) (v : Int32) : xgD (xsI σ k j v) = xgD σ := rfl
theorem xgD_L (σ : xS) (k j : Nat) (v : Int64) : xgD (xsL σ k j v) = xgD σ := rfl
theorem xgC_C (σ : xS) (v : Nat) : xgC (xsC σ v) = v := rfl
theorem xgC_D (σ : xS) (v : Nat) : xgC (xsD σ v) = xgC σ := rfl
theorem xgD_D (σ : xS) (v : Nat) : xgD (xsD σ v) = v := rfl
theorem xgD_C (σ : xS) (v : Nat) : xgD (xsC σ v) = xgD σ := rfl
/-- the kinds of the fixed cells: 0 to 8 an object of vwCl, 10 int[n], 11 long[n], 12 boolean[n], 13 Row[n], 14 int[n][] -/
def xckT : List (Nat × Nat) := [(7, 0), (6, 0), (10, 1000), (3, 0), (14, 8), (10, 8), (0, 0), (10, 1500), (5, 0), (13, 200), (10, 60), (1, 0), (10, 10), (12, 200), (10, 200), (2, 0), (10, 8), (10, 8), (10, 8), (14, 20), (10, 20), (10, 4), (10, 4), (10, 4), (14, 4), (14, 4), (2, 0), (10, 8), (10, 8), (10, 8), (14, 20), (10, 20), (10, 4), (10, 4), (10, 4), (14, 4), (14, 4), (8, 0), (10, 1000), (10, 8), (10, 8), (10, 8), (10, 160), (10, 20), (10, 4), (10, 4), (10, 4), (10, 80), (10, 80), (10, 64), (10, 1500), (10, 201), (11, 1600), (11, 200), (12, 200), (11, 200), (12, 40000), (12, 200), (10, 200), (10, 1500), (11, 1)]
/-- the kind of cell k: rows 61 to 261 (the last is noRow), their factors 262 to 462, plans 463 .., factors of rules 471 .. (A), 491 .. (B), pairs 511 .. -/
def xck (k : Nat) : Nat × Nat := if k < 61 then xckT.getD k (99, 0) else if k < 262 then (4, 0) else if k < 463 then (11, 8) else if k < 511 then (10, 8) else if k < 527 then (10, 20) else (99, 0)
/-- the kinds of the fields: 0 int, 1 long, 2 a reference, 3 boolean -/
def xfk (c : Nat) : List Nat := match c with
  | 0 => [2, 0, 3, 0, 0, 0, 2, 2, 2, 2]
  | 1 => [2, 0]
  | 2 => [0, 0, 0, 0, 2, 2, 2, 2, 2, 2, 2, 2, 2, 2]
  | 3 => [2, 2, 0]
  | 4 => [2, 1, 1, 3, 1, 0, 0, 0, 0, 0, 0]
  | 5 => [2, 2, 2, 0, 0]
  | 6 => [2, 0, 0, 3]
  | 7 => [2, 2, 2, 3, 2, 2]
  | 8 => [0, 2, 0, 0, 2, 2, 2, 0, 2, 2, 0, 2, 2, 2, 2, 2, 0, 0, 2, 3, 0, 2, 0, 0, 0, 0, 0, 0, 2, 2, 2, 2, 2, 2, 2, 2, 2, 0, 3, 3]
  | _ => []
/-- where the references lead that never change, and the two that do -/
def xrt (σ : xS) (k j : Nat) : Nat := match k with
  | 0 => (match j with | 0 => 1 | 1 => 3 | 2 => 6 | 4 => xgC σ | 5 => xgD σ | _ => 0)
  | 1 => 2
  | 3 => (match j with | 0 => 4 | _ => 5)
  | 4 => 463 + j
  | 6 => (match j with | 0 => 7 | 6 => 8 | 7 => 11 | 8 => 13 | _ => 14)
  | 8 => (match j with | 0 => 9 | 1 => 261 | _ => 10)
  | 9 => 61 + j
  | 11 => 12
  | 15 => 12 + j
  | 19 => 471 + j
  | 24 => 511 + j
  | 25 => 515 + j
  | 26 => 23 + j
  | 30 => 491 + j
  | 35 => 519 + j
  | 36 => 523 + j
  | 37 => (match j with | 1 => 38 | 4 => 39 | 5 => 40 | 6 => 41 | 8 => 42 | 9 => 43 | 11 => 44 | 12 => 45 | 13 => 46 | 14 => 47 | 15 => 48 | 18 => 49 | 21 => 50 | 28 => 51 | 29 => 52 | 30 => 53 | 31 => 54 | 32 => 55 | 33 => 56 | 34 => 57 | 35 => 58 | 36 => 59 | _ => 0)
  | _ => 0
def xrf (σ : xS) (k j : Nat) : Nat := if k < 61 then xrt σ k j else k + 201
abbrev xG : Type := va_G × (Nat → Nat) × (Nat → ClassId)
def xfv (G : xG) (σ : xS) (k j t : Nat) : Value := match t with
  | 1 => .long (xgL σ k j)
  | 2 => .ref (G.2.1 (xrf σ k j))
  | _ => .int (xgI σ k j)
def xfl (G : xG) (σ : xS) (k : Nat) : Nat → List Nat → List Value
  | _, [] => []
  | j, t :: ts => xfv G σ k j t :: xfl G σ k (j + 1) ts
theorem xfl_get (G : xG) (σ : xS) (k : Nat) : ∀ (ts : List Nat) (j i : Nat), (xfl G σ k j ts)[i]? = (ts[i]?).map (fun t => xfv G σ k (j + i) t)
  | [], _, _ => by simp [xfl]
  | t :: ts, j, 0 => by simp [xfl]
  | t :: ts, j, i + 1 => by
    show (xfl G σ k (j + 1) ts)[i]? = _
    rw [xfl_get G σ k ts (j + 1) i]
    simp [Nat.add_assoc, Nat.add_comm 1 i]
theorem xfl_len (G : xG) (σ : xS) (k : Nat) : ∀ (ts : List Nat) (j : Nat), (xfl G σ k j ts).length = ts.length
  | [], _ => rfl
  | t :: ts, j => congrArg (· + 1) (xfl_len G σ k ts (j + 1))
/-- one place of an object changes -/
theorem xfl_set (G : xG) (σ τ : xS) (k i : Nat) (v : Value) (ts : List Nat) {t : Nat} (ht : ts[i]? = some t) (hv : xfv G τ k i t = v) (ho : ∀ j t', j ≠ i → ts[j]? = some t' → xfv G τ k j t' = xfv G σ k j t') : (xfl G σ k 0 ts).set i v = xfl G τ k 0 ts := by
  apply List.ext_getElem?
  intro n
  rw [List.getElem?_set, xfl_get, xfl_get, Nat.zero_add, xfl_len]
  by_cases h : i = n
  · subst h
    have hl := (List.getElem?_eq_some_iff.mp ht).1
    rw [if_pos rfl, if_pos hl, ht]
    simp [hv]
  · rw [if_neg h]
    cases hn : ts[n]? with
    | none => rfl
    | some t' => simp [ho n t' (fun e => h e.symm) hn]
/-- cell k -/
def xcell (G : xG) (σ : xS) (k : Nat) : va_E := match (xck k).1 with
  | 10 => .inl (G.2.2 0, (xck k).2, .inl (xgI σ k))
  | 11 => .inl (G.2.2 1, (xck k).2, .inr (.inl (xgL σ k)))
  | 12 => .inl (G.2.2 2, (xck k).2, .inl (xgI σ k))
  | 13 => .inl (G.2.2 3, (xck k).2, .inr (.inr (.inr (.inr (fun j => some (G.2.1 (xrf σ k j)))))))
  | 14 => .inl (G.2.2 4, (xck k).2, .inr (.inr (.inr (.inr (fun j => some (G.2.1 (xrf σ k j)))))))
  | ci => .inr (ci, xfl G σ k 0 (xfk ci))
theorem xcell_o {G : xG} {σ : xS} {k ci : Nat} (h : xck k = (ci, 0)) (hci : ci < 9) : xcell G σ k = .inr (ci, xfl G σ k 0 (xfk ci)) := by
  unfold xcell
  rw [h]
  rcases (show ci = 0 ∨ ci = 1 ∨ ci = 2 ∨ ci = 3 ∨ ci = 4 ∨ ci = 5 ∨ ci = 6 ∨ ci = 7 ∨ ci = 8 by omega) with rfl | rfl | rfl | rfl | rfl | rfl | rfl | rfl | rfl <;> rfl
theorem xcell_i {G : xG} {σ : xS} {k n : Nat} (h : xck k = (10, n)) : xcell G σ k = .inl (G.2.2 0, n, .inl (xgI σ k)) := by
  unfold xcell
  rw [h]
  rfl
theorem xcell_l {G : xG} {σ : xS} {k n : Nat} (h : xck k = (11, n)) : xcell G σ k = .inl (G.2.2 1, n, .inr (.inl (xgL σ k))) := by
  unfold xcell
  rw [h]
  rfl
theorem xcell_z {G : xG} {σ : xS} {k n : Nat} (h : xck k = (12, n)) : xcell G σ k = .inl (G.2.2 2, n, .inl (xgI σ k)) := by
  unfold xcell
  rw [h]
  rfl
theorem xcell_r {G : xG} {σ : xS} {k n : Nat} (h : xck k = (13, n)) : xcell G σ k = .inl (G.2.2 3, n, .inr (.inr (.inr (.inr (fun j => some (G.2.1 (xrf σ k j))))))) := by
  unfold xcell
  rw [h]
  rfl
theorem xcell_a {G : xG} {σ : xS} {k n : Nat} (h : xck k = (14, n)) : xcell G σ k = .inl (G.2.2 4, n, .inr (.inr (.inr (.inr (fun j => some (G.2.1 (xrf σ k j))))))) := by
  unfold xcell
  rw [h]
  rfl
theorem xfl_congr {G : xG} {σ τ : xS} {k : Nat} (h1 : ∀ j, xgI τ k j = xgI σ k j) (h2 : ∀ j, xgL τ k j = xgL σ k j) (h3 : ∀ j, xrf τ k j = xrf σ k j) : ∀ (ts : List Nat) (j : Nat), xfl G τ k j ts = xfl G σ k j ts
  | [], _ => rfl
  | t :: ts, j => by
    show xfv G τ k j t :: _ = xfv G σ k j t :: _
    rw [xfl_congr h1 h2 h3 ts (j + 1)]
    congr 1
    unfold xfv
    rw [h1, h2, h3]
theorem xcell_congr {G : xG} {σ τ : xS} {k : Nat} (h1 : ∀ j, xgI τ k j = xgI σ k j) (h2 : ∀ j, xgL τ k j = xgL σ k j) (h3 : ∀ j, xrf τ k j = xrf σ k j) : xcell G τ k = xcell G σ k := by
  have e1 : xgI τ k = xgI σ k := funext h1
  have e2 : xgL τ k = xgL σ k := funext h2
  have e3 : xrf τ k = xrf σ k := funext h3
  unfold xcell
  rw [e1, e2, e3]
  have e4 : ∀ ts, xfl G τ k 0 ts = xfl G σ k 0 ts := fun ts => xfl_congr h1 h2 h3 ts 0
  simp only [e4]
theorem xck_lt {k ci n : Nat} (h : xck k = (ci, n)) (hc : ci ≠ 99) : k < 527 := by
  unfold xck at h
  by_cases h1 : k < 527
  · exact h1
  · rw [if_neg (by omega), if_neg (by omega), if_neg (by omega), if_neg (by omega), if_neg h1] at h
    cases h
    exact absurd rfl hc
/-- the world: all cells in their order -/
def xwl (G : xG) (σ : xS) : va_W := (List.range 527).map (fun k => (G.2.1 k, xcell G σ k))
theorem xwl_at {G : xG} {σ : xS} {k : Nat} (h : k < 527) : (xwl G σ)[k]? = some (G.2.1 k, xcell G σ k) := by
  unfold xwl
  rw [List.getElem?_map, List.getElem?_range h]
  rfl
theorem xwl_len {G : xG} {σ : xS} : (xwl G σ).length = 527 := by simp [xwl]
theorem xwl_set {G : xG} {σ τ : xS} {k : Nat} {e : va_E} (h : k < 527) (he : xcell G τ k = e) (ho : ∀ j, j ≠ k → xcell G τ j = xcell G σ j) : (xwl G σ).set k (G.2.1 k, e) = xwl G τ := by
  apply List.ext_getElem?
  intro n
  rw [List.getElem?_set, xwl_len]
  by_cases hn : n < 527
  · rw [xwl_at hn, xwl_at hn]
    by_cases hk : k = n
    · subst hk
      rw [if_pos rfl, if_pos hn, he]
    · rw [if_neg hk, ho n (fun e => hk e.symm)]
  · rw [if_neg (by omega), List.getElem?_eq_none (by rw [xwl_len]; omega), List.getElem?_eq_none (by rw [xwl_len]; omega)]
/-- the world's own addresses -/
def xA (G : xG) : Nat → Prop := fun q => ∃ k, k < 527 ∧ q = G.2.1 k
abbrev xty (G : xG) : List (ClassId × FieldType) := [(G.2.2 0, .int), (G.2.2 1, .long), (G.2.2 2, .boolean), (G.2.2 3, .object "PlanCertificates$Row"), (G.2.2 4, .array .int)]
/-- what the tables say, wherever we are -/
def xK (G : xG) (U : State) : Prop := va_K G.1 vwCl (xty G) U ∧ (∀ w ∈ lw_tbl, goodWord w = true → w.before #[] U = true) ∧ (∀ i j, i < 527 → j < 527 → G.2.1 i = G.2.1 j → i = j)
theorem xK.moved {G : xG} {s U : State} (h : xK G s) (hW : s.WarmedH U.vm) : xK G U := ⟨va_K.moved hW.alike h.1, fun w hw hg => word_at hW (good_of_word hg) (h.2.1 w hw hg), h.2.2⟩
theorem xK.word {G : xG} {s : State} (h : xK G s) {w : Cond} (hw : w ∈ lw_tbl) (hg : goodWord w = true) {args : Array Value} : w.before args s = true := word_at (State.WarmedH.refl s) (good_of_word hg) (h.2.1 w hw hg)
theorem xwl_D {G : xG} {σ : xS} (h : ∀ i j, i < 527 → j < 527 → G.2.1 i = G.2.1 j → i = j) : va_D (xA G) (xwl G σ) := by
  have key : ∀ (k : Nat) (q : Nat × va_E), (xwl G σ)[k]? = some q → k < 527 ∧ q.1 = G.2.1 k := by
    intro k q hq
    have hk := (List.getElem?_eq_some_iff.mp hq).1
    rw [xwl_len] at hk
    rw [xwl_at hk] at hq
    cases hq
    exact ⟨hk, rfl⟩
  refine ⟨fun i j x y hx hy e => ?_, fun k q hq => ⟨k, key k q hq⟩⟩
  obtain ⟨a1, a2⟩ := key i x hx
  obtain ⟨b1, b2⟩ := key j y hy
  exact h i j a1 b1 (a2 ▸ b2 ▸ e)
theorem xlay {G : xG} {s : State} (h : xK G s) {ci N : Nat} {C : String} {T : u_T} (hc : vwCl[ci]? = some (C, T, N)) {args : Array Value} : ∀ w ∈ u_ws C T N, w.before args s = true := by
  have key : ∀ w ∈ u_ws C T N, w ∈ lw_tbl ∧ goodWord w = true := by
    match ci, hc with
    | 0, hc => cases hc; exact wy_0
    | 1, hc => cases hc; exact wy_1
    | 2, hc => cases hc; exact wy_2
    | 3, hc => cases hc; exact wy_3
    | 4, hc => cases hc; exact wy_4
    | 5, hc => cases hc; exact wy_5
    | 6, hc => cases hc; exact wy_6
    | 7, hc => cases hc; exact wy_7
    | 8, hc => cases hc; exact wy_8
    | k + 9, hc => simp [vwCl] at hc
  exact fun w hw => h.word (key w hw).1 (key w hw).2
/-- the heap holds the state -/
def xH (G : xG) (σ : xS) (H : Heap) : Prop := va_P G.1 vwCl (xwl G σ) H
