/-! The reference: rows' questions, taking, reading -/
theorem qCost_0 {σ : xS} {p V j : Nat} {v : Int32} : qCost (xsI σ 37 j v) p V = qCost σ p V := rfl
theorem qSumR_0 {σ : xS} {r p V j : Nat} {v : Int32} : qSumR (xsI σ 37 j v) r p V = qSumR σ r p V := rfl
def qAs (σ : xS) (r : Nat) (i : Int32) : Nat → Nat → Nat → Int32
  | 0, _, _ => -1
  | n + 1, b, c => if xgI σ 56 (200 * r + b) = 0 then qAs σ r i n (b + 1) c else if nI c = i then nI b else qAs σ r i n (b + 1) (c + 1)
theorem qAs_f {σ : xS} {r n b c : Nat} {i : Int32} (hb : b < n) (h : xgI σ 56 (200 * r + b) = 0) : qAs σ r i (n - b) b c = qAs σ r i (n - (b + 1)) (b + 1) c := by
  rw [show n - b = (n - (b + 1)) + 1 by omega, qAs, if_pos h]
theorem qAs_t {σ : xS} {r n b c : Nat} {i : Int32} (hb : b < n) (h : ¬ xgI σ 56 (200 * r + b) = 0) (h2 : nI c = i) : qAs σ r i (n - b) b c = nI b := by
  rw [show n - b = (n - (b + 1)) + 1 by omega, qAs, if_neg h, if_pos h2]
theorem qAs_s {σ : xS} {r n b c : Nat} {i : Int32} (hb : b < n) (h : ¬ xgI σ 56 (200 * r + b) = 0) (h2 : ¬ nI c = i) : qAs σ r i (n - b) b c = qAs σ r i (n - (b + 1)) (b + 1) (c + 1) := by
  rw [show n - b = (n - (b + 1)) + 1 by omega, qAs, if_neg h, if_neg h2]
def qKa (σ : xS) (w j V n : Nat) : Prop := (xgI σ 54 w = 0 ∨ qCost σ j V < xgL σ 55 w) ∧ ∀ b, b < n → ¬ xgI σ 56 (200 * w + b) = 0 → qSumR σ b j V ≤ xgL σ 53 b
noncomputable def qHolds (σ : xS) (w j V : Nat) : Int32 := @ite _ (qKa σ w j V (w + 1)) (Classical.propDecidable _) (xB (qSumR σ w j V ≤ xgL σ 53 w)) 2
def qT1 (σ : xS) (r : Nat) : Nat → Int64
  | 0 => 0
  | k + 1 => if xgI σ 41 k = 0 then qT1 σ r k else if qT1 σ r k = 0 then -(xgL σ 52 (8 * r + k)) / (xgI σ 41 k).toInt64 else qT1 σ r k
def qTm (σ : xS) (r V : Nat) (m : Int64) : Prop := ∀ k, k < V → xgL σ 52 (8 * r + k) = -m * (xgI σ 41 k).toInt64
noncomputable def qTimes (σ : xS) (r V : Nat) : Int64 := if 1 ≤ qT1 σ r V then @ite _ (qTm σ r V (qT1 σ r V)) (Classical.propDecidable _) (qT1 σ r V) 0 else 0
noncomputable def qMm (σ : xS) (V r : Nat) : Int64 := if qCnt σ r (r + 1) = 0 ∧ xgI σ 54 r = 0 then qTimes σ r V else 0
noncomputable def qLe (σ : xS) (V : Nat) : Nat → Option Int64
  | 0 => none
  | r + 1 => if qMm σ V r ≤ 0 then qLe σ V r else some (match qLe σ V r with | none => -(qDown (xgL σ 53 r) (qMm σ V r)) | some b => if -(qDown (xgL σ 53 r) (qMm σ V r)) ≤ b then b else -(qDown (xgL σ 53 r) (qMm σ V r)))
theorem qLe_0 {σ : xS} {V r : Nat} (h : qMm σ V r ≤ 0) : qLe σ V (r + 1) = qLe σ V r := by rw [qLe, if_pos h]
theorem qLe_n {σ : xS} {V r : Nat} (h : ¬ qMm σ V r ≤ 0) (h2 : qLe σ V r = none) : qLe σ V (r + 1) = some (-(qDown (xgL σ 53 r) (qMm σ V r))) := by rw [qLe, if_neg h, h2]
theorem qLe_s {σ : xS} {V r : Nat} {b : Int64} (h : ¬ qMm σ V r ≤ 0) (h2 : qLe σ V r = some b) : qLe σ V (r + 1) = some (if -(qDown (xgL σ 53 r) (qMm σ V r)) ≤ b then b else -(qDown (xgL σ 53 r) (qMm σ V r))) := by rw [qLe, if_neg h, h2]
def qPt (σ : xS) (z : Nat) (x : Int32) : xS := xsI (xsI σ 50 z x) 37 20 (nI (z + 1))
def qKeep (u : xS) (nr f z1 : Nat) : xS := xsI (xsI (xsI u 51 nr (nI f)) 37 26 (nI (nr + 1))) 37 25 (nI z1)
def qTk (PW : Option Value → xS → Prop) (nr f z : Nat) : Option Value → xS → Prop := fun r t => r = none ∧ ∃ (y : Int32) (u : xS), PW (some (.int y)) u ∧ ((¬ y = 0 ∧ t = qFails u y (nI nr) (nI z)) ∨ (y = 0 ∧ t = qKeep u nr f (z + 1)))

set_option maxHeartbeats 4000000 in
set_option maxRecDepth 100000 in
theorem c_X9_told {l : Launch} {G : xG} {σ : xS} {w : Int32} : xFi l G yX9_told cX9_told 2 (Option.some Jvm.ClassFile.FieldType.int) 0 0 [.ref (G.2.1 37), .int w] σ (if w = 0 then xgI σ 37 2 else if w = 1 then xgI σ 37 3 else if w = 2 then xgI σ 37 7 else if w = 3 then xgI σ 37 10 else if w = 4 then xgI σ 37 17 else if w = 5 then xgI σ 37 26 else if w = 6 then xgI σ 37 27 else if w = 7 then xgI σ 37 20 else -3) (xsI σ 37 0 0) := by
  refine xM.of (by decide) (Nat.le_of_ble_eq_true rfl) (fun pp ee ss mm aa bel met kk X => ?_)
  have X : xC pp ss mm met kk cX9_told 2 RX9 (Option.some Jvm.ClassFile.FieldType.int) G := X
  show xW pp l ee { frames := 0, cells := 0, slots := 0, locals := 0 } ss mm aa bel met kk 2 G 0 0 (xQ bel G (fun rv_ tv_ => rv_ = some (.int (if w = 0 then xgI σ 37 2 else if w = 1 then xgI σ 37 3 else if w = 2 then xgI σ 37 7 else if w = 3 then xgI σ 37 10 else if w = 4 then xgI σ 37 17 else if w = 5 then xgI σ 37 26 else if w = 6 then xgI σ 37 27 else if w = 7 then xgI σ 37 20 else -3)) ∧ tv_ = (xsI σ 37 0 0)) aa ss) 0 [(0, .ref (G.2.1 37)), (1, .int w)] [] σ
  refine x_aload_n X dX9_told_0 rfl ?_
  refine x_iconst (v := nI 0) X dX9_told_1 (by decide) ?_
  refine pf_X9_86 X dX9_told_2 rfl ?_
  refine x_iload_n X dX9_told_5 rfl ?_
  by_cases h6 : w.toInt < 0 ∨ 7 < w.toInt
  · skip
    have n0 : ¬ w = 0 := fun z => by rw [z] at h6; exact absurd h6 (by decide)
    have n1 : ¬ w = 1 := fun z => by rw [z] at h6; exact absurd h6 (by decide)
    have n2 : ¬ w = 2 := fun z => by rw [z] at h6; exact absurd h6 (by decide)
    have n3 : ¬ w = 3 := fun z => by rw [z] at h6; exact absurd h6 (by decide)
    have n4 : ¬ w = 4 := fun z => by rw [z] at h6; exact absurd h6 (by decide)
    have n5 : ¬ w = 5 := fun z => by rw [z] at h6; exact absurd h6 (by decide)
    have n6 : ¬ w = 6 := fun z => by rw [z] at h6; exact absurd h6 (by decide)
    have n7 : ¬ w = 7 := fun z => by rw [z] at h6; exact absurd h6 (by decide)
    refine x_tableOut (tgt := 92) X dX9_told_6 h6 (by decide) ?_
    refine x_bipush (v := (-3)) X dX9_told_92 (by decide) ?_
    exact x_iret X dX9_told_94 (xp_i (by first | (rw [hw]; rfl) | rw [if_neg n0, if_neg n1, if_neg n2, if_neg n3, if_neg n4, if_neg n5, if_neg n6, if_neg n7]) (by first | rfl | simp [*]))
  rcases (show w.toInt = 0 ∨ w.toInt = 1 ∨ w.toInt = 2 ∨ w.toInt = 3 ∨ w.toInt = 4 ∨ w.toInt = 5 ∨ w.toInt = 6 ∨ w.toInt = 7 by omega) with g6 | g6 | g6 | g6 | g6 | g6 | g6 | g6
  · skip
    have hw : w = 0 := xi_of g6 (show (0 : Int32).toInt = 0 by decide) rfl
    refine x_tableIn (off := 46) (tgt := 52) X dX9_told_6 (by rw [g6]; decide) (by rw [g6]; decide) (by rw [g6]; rfl) (by decide) ?_
    refine x_aload_n X dX9_told_52 rfl ?_
    refine gf_X9_93 X dX9_told_53 rfl ?_
    rw [xgI_n (by decide)]
    exact x_iret X dX9_told_56 (xp_i (by first | (rw [hw]; rfl) | rw [if_neg n0, if_neg n1, if_neg n2, if_neg n3, if_neg n4, if_neg n5, if_neg n6, if_neg n7]) (by first | rfl | simp [*]))
  · skip
    have hw : w = 1 := xi_of g6 (show (1 : Int32).toInt = 1 by decide) rfl
    refine x_tableIn (off := 51) (tgt := 57) X dX9_told_6 (by rw [g6]; decide) (by rw [g6]; decide) (by rw [g6]; rfl) (by decide) ?_
    refine x_aload_n X dX9_told_57 rfl ?_
    refine gf_X9_112 X dX9_told_58 rfl ?_
    rw [xgI_n (by decide)]
    exact x_iret X dX9_told_61 (xp_i (by first | (rw [hw]; rfl) | rw [if_neg n0, if_neg n1, if_neg n2, if_neg n3, if_neg n4, if_neg n5, if_neg n6, if_neg n7]) (by first | rfl | simp [*]))
  · skip
    have hw : w = 2 := xi_of g6 (show (2 : Int32).toInt = 2 by decide) rfl
    refine x_tableIn (off := 56) (tgt := 62) X dX9_told_6 (by rw [g6]; decide) (by rw [g6]; decide) (by rw [g6]; rfl) (by decide) ?_
    refine x_aload_n X dX9_told_62 rfl ?_
    refine gf_X9_115 X dX9_told_63 rfl ?_
    rw [xgI_n (by decide)]
    exact x_iret X dX9_told_66 (xp_i (by first | (rw [hw]; rfl) | rw [if_neg n0, if_neg n1, if_neg n2, if_neg n3, if_neg n4, if_neg n5, if_neg n6, if_neg n7]) (by first | rfl | simp [*]))
  · skip
    have hw : w = 3 := xi_of g6 (show (3 : Int32).toInt = 3 by decide) rfl
    refine x_tableIn (off := 61) (tgt := 67) X dX9_told_6 (by rw [g6]; decide) (by rw [g6]; decide) (by rw [g6]; rfl) (by decide) ?_
    refine x_aload_n X dX9_told_67 rfl ?_
    refine gf_X9_118 X dX9_told_68 rfl ?_
    rw [xgI_n (by decide)]
    exact x_iret X dX9_told_71 (xp_i (by first | (rw [hw]; rfl) | rw [if_neg n0, if_neg n1, if_neg n2, if_neg n3, if_neg n4, if_neg n5, if_neg n6, if_neg n7]) (by first | rfl | simp [*]))
  · skip
    have hw : w = 4 := xi_of g6 (show (4 : Int32).toInt = 4 by decide) rfl
    refine x_tableIn (off := 66) (tgt := 72) X dX9_told_6 (by rw [g6]; decide) (by rw [g6]; decide) (by rw [g6]; rfl) (by decide) ?_
    refine x_aload_n X dX9_told_72 rfl ?_
    refine gf_X9_127 X dX9_told_73 rfl ?_
    rw [xgI_n (by decide)]
    exact x_iret X dX9_told_76 (xp_i (by first | (rw [hw]; rfl) | rw [if_neg n0, if_neg n1, if_neg n2, if_neg n3, if_neg n4, if_neg n5, if_neg n6, if_neg n7]) (by first | rfl | simp [*]))
  · skip
    have hw : w = 5 := xi_of g6 (show (5 : Int32).toInt = 5 by decide) rfl
    refine x_tableIn (off := 71) (tgt := 77) X dX9_told_6 (by rw [g6]; decide) (by rw [g6]; decide) (by rw [g6]; rfl) (by decide) ?_
    refine x_aload_n X dX9_told_77 rfl ?_
    refine gf_X9_145 X dX9_told_78 rfl ?_
    rw [xgI_n (by decide)]
    exact x_iret X dX9_told_81 (xp_i (by first | (rw [hw]; rfl) | rw [if_neg n0, if_neg n1, if_neg n2, if_neg n3, if_neg n4, if_neg n5, if_neg n6, if_neg n7]) (by first | rfl | simp [*]))
  · skip
    have hw : w = 6 := xi_of g6 (show (6 : Int32).toInt = 6 by decide) rfl
    refine x_tableIn (off := 76) (tgt := 82) X dX9_told_6 (by rw [g6]; decide) (by rw [g6]; decide) (by rw [g6]; rfl) (by decide) ?_
    refine x_aload_n X dX9_told_82 rfl ?_
    refine gf_X9_148 X dX9_told_83 rfl ?_
    rw [xgI_n (by decide)]
    exact x_iret X dX9_told_86 (xp_i (by first | (rw [hw]; rfl) | rw [if_neg n0, if_neg n1, if_neg n2, if_neg n3, if_neg n4, if_neg n5, if_neg n6, if_neg n7]) (by first | rfl | simp [*]))
  · skip
    have hw : w = 7 := xi_of g6 (show (7 : Int32).toInt = 7 by decide) rfl
    refine x_tableIn (off := 81) (tgt := 87) X dX9_told_6 (by rw [g6]; decide) (by rw [g6]; decide) (by rw [g6]; rfl) (by decide) ?_
    refine x_aload_n X dX9_told_87 rfl ?_
    refine gf_X9_136 X dX9_told_88 rfl ?_
    rw [xgI_n (by decide)]
    exact x_iret X dX9_told_91 (xp_i (by first | (rw [hw]; rfl) | rw [if_neg n0, if_neg n1, if_neg n2, if_neg n3, if_neg n4, if_neg n5, if_neg n6, if_neg n7]) (by first | rfl | simp [*]))

set_option maxHeartbeats 4000000 in
set_option maxRecDepth 100000 in
theorem c_X9_rowT {l : Launch} {G : xG} {σ : xS} {x w : Int32} {nr : Nat} (hr : xgI σ 37 26 = nI nr) (hr2 : nr ≤ 200) {V : Nat} (hV : xgI σ 37 3 = nI V) (hV8 : V ≤ 8) (hx : ¬ xLt x nr ∨ (¬ xLt w V ∧ xIn w 8 13 = 0)) : xFl l G yX9_row_ cX9_row_ 3 (Option.some Jvm.ClassFile.FieldType.long) 1 26 [.ref (G.2.1 37), .int x, .int w] σ (0) (xsI σ 37 0 1) := by
  refine xM.of (by decide) (Nat.le_of_ble_eq_true rfl) (fun pp ee ss mm aa bel met kk X => ?_)
  have X : xC pp ss mm met kk cX9_row_ 3 RX9 (Option.some Jvm.ClassFile.FieldType.long) G := X
  show xW pp l ee { frames := 1, cells := 0, slots := 0, locals := 26 } ss mm aa bel met kk 3 G 0 0 (xQ bel G (fun rv_ tv_ => rv_ = some (.long (0)) ∧ tv_ = (xsI σ 37 0 1)) aa ss) 0 [(0, .ref (G.2.1 37)), (1, .int x), (2, .int w)] [] σ
  refine x_aload_n X dX9_row__0 rfl ?_
  refine x_iload_n X dX9_row__1 rfl ?_
  refine x_iconst (v := nI 0) X dX9_row__2 (by decide) ?_
  refine x_aload_n X dX9_row__3 rfl ?_
  refine gf_X9_145 X dX9_row__4 rfl ?_
  rw [hr]
  refine x_iconst (v := nI 1) X dX9_row__7 (by decide) ?_
  refine x_isub X dX9_row__8 ?_
  refine cs_X9_89 X c_X9_in dX9_row__9 ⟨by decide, by decide, by decide, by decide⟩ rfl rfl (Nat.le_of_ble_eq_true rfl) (xk_i ?_)
  rw [xIn_lt (by omega)]
  refine x_ifeq (tgt := 40) X dX9_row__12 (by decide) (fun h12 => ?_) (fun h12 => ?_)
  · skip
    refine x_iconst (v := nI 1) X dX9_row__40 (by decide) ?_
    refine x_goto (tgt := 45) X dX9_row__41 (by decide) ?_
    refine cv_X9_157 X (c_X9_refuses (Or.inr rfl)) dX9_row__45 rfl ⟨by decide, by decide, by decide, by decide⟩ rfl rfl (Nat.le_of_ble_eq_true rfl) (xk_i ?_)
    refine x_ifeq (tgt := 53) X dX9_row__48 (by decide) (fun h48 => ?_) (fun h48 => ?_)
    · skip
      exact absurd h48 (by decide)
    · skip
      refine x_lconst (v := 0) X dX9_row__51 (by decide) ?_
      exact x_lret X dX9_row__52 (xp_l (by first | rfl | simp [*]) (by first | rfl | simp [*]))
  · skip
    have h12b : xLt x nr := Classical.not_not.mp (fun z => h12 (xB_f z))
    refine x_iload_n X dX9_row__15 rfl ?_
    refine x_iconst (v := nI 0) X dX9_row__16 (by decide) ?_
    refine x_aload_n X dX9_row__17 rfl ?_
    refine gf_X9_112 X dX9_row__18 rfl ?_
    rw [hV]
    refine x_iconst (v := nI 1) X dX9_row__21 (by decide) ?_
    refine x_isub X dX9_row__22 ?_
    refine cs_X9_89 X c_X9_in dX9_row__23 ⟨by decide, by decide, by decide, by decide⟩ rfl rfl (Nat.le_of_ble_eq_true rfl) (xk_i ?_)
    rw [xIn_lt (by omega)]
    refine x_ifne (tgt := 44) X dX9_row__26 (by decide) (fun h26 => ?_) (fun h26 => ?_)
    · skip
      exact absurd hx (fun z => z.elim (fun y => y h12b) (fun y => h26 (xB_f y.1)))
    · skip
      refine x_iload_n X dX9_row__29 rfl ?_
      refine x_bipush (v := nI 8) X dX9_row__30 (by decide) ?_
      refine x_bipush (v := nI 13) X dX9_row__32 (by decide) ?_
      refine cs_X9_89 X c_X9_in dX9_row__34 ⟨by decide, by decide, by decide, by decide⟩ rfl rfl (Nat.le_of_ble_eq_true rfl) (xk_i ?_)
      refine x_ifne (tgt := 44) X dX9_row__37 (by decide) (fun h37 => ?_) (fun h37 => ?_)
      · skip
        exact absurd hx (fun z => z.elim (fun y => y h12b) (fun y => h37 y.2))
      · skip
        refine x_iconst (v := nI 1) X dX9_row__40 (by decide) ?_
        refine x_goto (tgt := 45) X dX9_row__41 (by decide) ?_
        refine cv_X9_157 X (c_X9_refuses (Or.inr rfl)) dX9_row__45 rfl ⟨by decide, by decide, by decide, by decide⟩ rfl rfl (Nat.le_of_ble_eq_true rfl) (xk_i ?_)
        refine x_ifeq (tgt := 53) X dX9_row__48 (by decide) (fun h48 => ?_) (fun h48 => ?_)
        · skip
          exact absurd h48 (by decide)
        · skip
          refine x_lconst (v := 0) X dX9_row__51 (by decide) ?_
          exact x_lret X dX9_row__52 (xp_l (by first | rfl | simp [*]) (by first | rfl | simp [*]))

set_option maxHeartbeats 4000000 in
set_option maxRecDepth 100000 in
theorem c_X9_rowF {l : Launch} {G : xG} {σ : xS} {r v : Nat} {nr : Nat} (hr : xgI σ 37 26 = nI nr) (hr2 : nr ≤ 200) {V : Nat} (hV : xgI σ 37 3 = nI V) (hV8 : V ≤ 8) (hj : r < nr) (hv : v < V) : xFl l G yX9_row_ cX9_row_ 3 (Option.some Jvm.ClassFile.FieldType.long) 1 26 [.ref (G.2.1 37), .int (nI r), .int (nI v)] σ (xgL σ 52 (8 * r + v)) (xsI σ 37 0 0) := by
  refine xM.of (by decide) (Nat.le_of_ble_eq_true rfl) (fun pp ee ss mm aa bel met kk X => ?_)
  have X : xC pp ss mm met kk cX9_row_ 3 RX9 (Option.some Jvm.ClassFile.FieldType.long) G := X
  show xW pp l ee { frames := 1, cells := 0, slots := 0, locals := 26 } ss mm aa bel met kk 3 G 0 0 (xQ bel G (fun rv_ tv_ => rv_ = some (.long (xgL σ 52 (8 * r + v))) ∧ tv_ = (xsI σ 37 0 0)) aa ss) 0 [(0, .ref (G.2.1 37)), (1, .int (nI r)), (2, .int (nI v))] [] σ
  refine x_aload_n X dX9_row__0 rfl ?_
  refine x_iload_n X dX9_row__1 rfl ?_
  refine x_iconst (v := nI 0) X dX9_row__2 (by decide) ?_
  refine x_aload_n X dX9_row__3 rfl ?_
  refine gf_X9_145 X dX9_row__4 rfl ?_
  rw [hr]
  refine x_iconst (v := nI 1) X dX9_row__7 (by decide) ?_
  refine x_isub X dX9_row__8 ?_
  refine cs_X9_89 X c_X9_in dX9_row__9 ⟨by decide, by decide, by decide, by decide⟩ rfl rfl (Nat.le_of_ble_eq_true rfl) (xk_i ?_)
  rw [xIn_lt (by omega)]
  refine x_ifeq (tgt := 40) X dX9_row__12 (by decide) (fun h12 => ?_) (fun h12 => ?_)
  · skip
    exact absurd ⟨r, hj, rfl⟩ (xB_0.mp h12)
  · skip
    refine x_iload_n X dX9_row__15 rfl ?_
    refine x_iconst (v := nI 0) X dX9_row__16 (by decide) ?_
    refine x_aload_n X dX9_row__17 rfl ?_
    refine gf_X9_112 X dX9_row__18 rfl ?_
    rw [hV]
    refine x_iconst (v := nI 1) X dX9_row__21 (by decide) ?_
    refine x_isub X dX9_row__22 ?_
    refine cs_X9_89 X c_X9_in dX9_row__23 ⟨by decide, by decide, by decide, by decide⟩ rfl rfl (Nat.le_of_ble_eq_true rfl) (xk_i ?_)
    rw [xIn_lt (by omega)]
    refine x_ifne (tgt := 44) X dX9_row__26 (by decide) (fun h26 => ?_) (fun h26 => ?_)
    · skip
      refine x_iconst (v := nI 0) X dX9_row__44 (by decide) ?_
      refine cv_X9_157 X (c_X9_refuses (Or.inl rfl)) dX9_row__45 rfl ⟨by decide, by decide, by decide, by decide⟩ rfl rfl (Nat.le_of_ble_eq_true rfl) (xk_i ?_)
      refine x_ifeq (tgt := 53) X dX9_row__48 (by decide) (fun h48 => ?_) (fun h48 => ?_)
      · skip
        refine x_iload_n X dX9_row__53 rfl ?_
        by_cases h54 : v < 8 ∨ 13 < v
        · skip
          refine x_tableOut (tgt := 155) X dX9_row__54 (by rw [nI_toInt (by omega)]; omega) (by decide) ?_
          refine x_aload_n X dX9_row__155 rfl ?_
          refine gf_X9_59 (k' := 52) X dX9_row__156 rfl rfl ?_
          refine x_bipush (v := nI 8) X dX9_row__159 (by decide) ?_
          refine x_iload_n X dX9_row__161 rfl ?_
          refine x_imul X dX9_row__162 ?_
          rw [pk_mul 8 r]
          refine x_iload_n X dX9_row__163 rfl ?_
          refine x_iadd X dX9_row__164 ?_
          rw [nI_add (8 * r) v]
          refine x_laldN X dX9_row__165 rfl (by omega) (by omega) ?_
          exact x_lret X dX9_row__166 (xp_l (by first | rfl | simp [*]) (by first | rfl | simp [*]))
        rcases (show v = 8 ∨ v = 9 ∨ v = 10 ∨ v = 11 ∨ v = 12 ∨ v = 13 by omega) with g54 | g54 | g54 | g54 | g54 | g54
        · skip
          exfalso; omega
        · skip
          exfalso; omega
        · skip
          exfalso; omega
        · skip
          exfalso; omega
        · skip
          exfalso; omega
        · skip
          exfalso; omega
      · skip
        exact absurd (by decide) h48
    · skip
      exact absurd ⟨v, hv, rfl⟩ (xB_0.mp h26)

set_option maxHeartbeats 4000000 in
set_option maxRecDepth 100000 in
theorem c_X9_row8 {l : Launch} {G : xG} {σ : xS} {r : Nat} {nr : Nat} (hr : xgI σ 37 26 = nI nr) (hr2 : nr ≤ 200) {V : Nat} (hV : xgI σ 37 3 = nI V) (hV8 : V ≤ 8) (hj : r < nr) : xFl l G yX9_row_ cX9_row_ 3 (Option.some Jvm.ClassFile.FieldType.long) 1 26 [.ref (G.2.1 37), .int (nI r), .int 8] σ (xgL σ 53 r) (xsI σ 37 0 0) := by
  refine xM.of (by decide) (Nat.le_of_ble_eq_true rfl) (fun pp ee ss mm aa bel met kk X => ?_)
  have X : xC pp ss mm met kk cX9_row_ 3 RX9 (Option.some Jvm.ClassFile.FieldType.long) G := X
  show xW pp l ee { frames := 1, cells := 0, slots := 0, locals := 26 } ss mm aa bel met kk 3 G 0 0 (xQ bel G (fun rv_ tv_ => rv_ = some (.long (xgL σ 53 r)) ∧ tv_ = (xsI σ 37 0 0)) aa ss) 0 [(0, .ref (G.2.1 37)), (1, .int (nI r)), (2, .int 8)] [] σ
  refine x_aload_n X dX9_row__0 rfl ?_
  refine x_iload_n X dX9_row__1 rfl ?_
  refine x_iconst (v := nI 0) X dX9_row__2 (by decide) ?_
  refine x_aload_n X dX9_row__3 rfl ?_
  refine gf_X9_145 X dX9_row__4 rfl ?_
  rw [hr]
  refine x_iconst (v := nI 1) X dX9_row__7 (by decide) ?_
  refine x_isub X dX9_row__8 ?_
  refine cs_X9_89 X c_X9_in dX9_row__9 ⟨by decide, by decide, by decide, by decide⟩ rfl rfl (Nat.le_of_ble_eq_true rfl) (xk_i ?_)
  rw [xIn_lt (by omega)]
  refine x_ifeq (tgt := 40) X dX9_row__12 (by decide) (fun h12 => ?_) (fun h12 => ?_)
  · skip
    exact absurd ⟨r, hj, rfl⟩ (xB_0.mp h12)
  · skip
    refine x_iload_n X dX9_row__15 rfl ?_
    refine x_iconst (v := nI 0) X dX9_row__16 (by decide) ?_
    refine x_aload_n X dX9_row__17 rfl ?_
    refine gf_X9_112 X dX9_row__18 rfl ?_
    rw [hV]
    refine x_iconst (v := nI 1) X dX9_row__21 (by decide) ?_
    refine x_isub X dX9_row__22 ?_
    refine cs_X9_89 X c_X9_in dX9_row__23 ⟨by decide, by decide, by decide, by decide⟩ rfl rfl (Nat.le_of_ble_eq_true rfl) (xk_i ?_)
    rw [xIn_lt (by omega)]
    refine x_ifne (tgt := 44) X dX9_row__26 (by decide) (fun h26 => ?_) (fun h26 => ?_)
    · skip
      exact absurd (xB_f (by rintro ⟨i, hi, e⟩; have := (nI_eq (a := 8) (b := i) (by omega) (by omega)).mp e; omega)) h26
    · skip
      refine x_iload_n X dX9_row__29 rfl ?_
      refine x_bipush (v := nI 8) X dX9_row__30 (by decide) ?_
      refine x_bipush (v := nI 13) X dX9_row__32 (by decide) ?_
      refine cs_X9_89 X c_X9_in dX9_row__34 ⟨by decide, by decide, by decide, by decide⟩ rfl rfl (Nat.le_of_ble_eq_true rfl) (xk_i ?_)
      refine x_ifne (tgt := 44) X dX9_row__37 (by decide) (fun h37 => ?_) (fun h37 => ?_)
      · skip
        refine x_iconst (v := nI 0) X dX9_row__44 (by decide) ?_
        refine cv_X9_157 X (c_X9_refuses (Or.inl rfl)) dX9_row__45 rfl ⟨by decide, by decide, by decide, by decide⟩ rfl rfl (Nat.le_of_ble_eq_true rfl) (xk_i ?_)
        refine x_ifeq (tgt := 53) X dX9_row__48 (by decide) (fun h48 => ?_) (fun h48 => ?_)
        · skip
          refine x_iload_n X dX9_row__53 rfl ?_
          refine x_tableIn (off := 38) (tgt := 92) X dX9_row__54 (by decide) (by decide) rfl (by decide) ?_
          refine x_aload_n X dX9_row__92 rfl ?_
          refine gf_X9_63 (k' := 53) X dX9_row__93 rfl rfl ?_
          refine x_iload_n X dX9_row__96 rfl ?_
          refine x_laldN X dX9_row__97 rfl (by omega) (by omega) ?_
          exact x_lret X dX9_row__98 (xp_l (by first | rfl | simp [*]) (by first | rfl | simp [*]))
        · skip
          exact absurd (by decide) h48
      · skip
        exact absurd h37 (by decide)

set_option maxHeartbeats 4000000 in
set_option maxRecDepth 100000 in
theorem c_X9_row9 {l : Launch} {G : xG} {σ : xS} {r : Nat} {nr : Nat} (hr : xgI σ 37 26 = nI nr) (hr2 : nr ≤ 200) {V : Nat} (hV : xgI σ 37 3 = nI V) (hV8 : V ≤ 8) (hj : r < nr) : xFl l G yX9_row_ cX9_row_ 3 (Option.some Jvm.ClassFile.FieldType.long) 1 26 [.ref (G.2.1 37), .int (nI r), .int 9] σ ((nI (qCnt σ r (r + 1))).toInt64) (xsI σ 37 0 0) := by
  refine xM.of (by decide) (Nat.le_of_ble_eq_true rfl) (fun pp ee ss mm aa bel met kk X => ?_)
  have X : xC pp ss mm met kk cX9_row_ 3 RX9 (Option.some Jvm.ClassFile.FieldType.long) G := X
  show xW pp l ee { frames := 1, cells := 0, slots := 0, locals := 26 } ss mm aa bel met kk 3 G 0 0 (xQ bel G (fun rv_ tv_ => rv_ = some (.long ((nI (qCnt σ r (r + 1))).toInt64)) ∧ tv_ = (xsI σ 37 0 0)) aa ss) 0 [(0, .ref (G.2.1 37)), (1, .int (nI r)), (2, .int 9)] [] σ
  refine x_aload_n X dX9_row__0 rfl ?_
  refine x_iload_n X dX9_row__1 rfl ?_
  refine x_iconst (v := nI 0) X dX9_row__2 (by decide) ?_
  refine x_aload_n X dX9_row__3 rfl ?_
  refine gf_X9_145 X dX9_row__4 rfl ?_
  rw [hr]
  refine x_iconst (v := nI 1) X dX9_row__7 (by decide) ?_
  refine x_isub X dX9_row__8 ?_
  refine cs_X9_89 X c_X9_in dX9_row__9 ⟨by decide, by decide, by decide, by decide⟩ rfl rfl (Nat.le_of_ble_eq_true rfl) (xk_i ?_)
  rw [xIn_lt (by omega)]
  refine x_ifeq (tgt := 40) X dX9_row__12 (by decide) (fun h12 => ?_) (fun h12 => ?_)
  · skip
    exact absurd ⟨r, hj, rfl⟩ (xB_0.mp h12)
  · skip
    refine x_iload_n X dX9_row__15 rfl ?_
    refine x_iconst (v := nI 0) X dX9_row__16 (by decide) ?_
    refine x_aload_n X dX9_row__17 rfl ?_
    refine gf_X9_112 X dX9_row__18 rfl ?_
    rw [hV]
    refine x_iconst (v := nI 1) X dX9_row__21 (by decide) ?_
    refine x_isub X dX9_row__22 ?_
    refine cs_X9_89 X c_X9_in dX9_row__23 ⟨by decide, by decide, by decide, by decide⟩ rfl rfl (Nat.le_of_ble_eq_true rfl) (xk_i ?_)
    rw [xIn_lt (by omega)]
    refine x_ifne (tgt := 44) X dX9_row__26 (by decide) (fun h26 => ?_) (fun h26 => ?_)
    · skip
      exact absurd (xB_f (by rintro ⟨i, hi, e⟩; have := (nI_eq (a := 9) (b := i) (by omega) (by omega)).mp e; omega)) h26
    · skip
      refine x_iload_n X dX9_row__29 rfl ?_
      refine x_bipush (v := nI 8) X dX9_row__30 (by decide) ?_
      refine x_bipush (v := nI 13) X dX9_row__32 (by decide) ?_
      refine cs_X9_89 X c_X9_in dX9_row__34 ⟨by decide, by decide, by decide, by decide⟩ rfl rfl (Nat.le_of_ble_eq_true rfl) (xk_i ?_)
      refine x_ifne (tgt := 44) X dX9_row__37 (by decide) (fun h37 => ?_) (fun h37 => ?_)
      · skip
        refine x_iconst (v := nI 0) X dX9_row__44 (by decide) ?_
        refine cv_X9_157 X (c_X9_refuses (Or.inl rfl)) dX9_row__45 rfl ⟨by decide, by decide, by decide, by decide⟩ rfl rfl (Nat.le_of_ble_eq_true rfl) (xk_i ?_)
        refine x_ifeq (tgt := 53) X dX9_row__48 (by decide) (fun h48 => ?_) (fun h48 => ?_)
        · skip
          refine x_iload_n X dX9_row__53 rfl ?_
          refine x_tableIn (off := 45) (tgt := 99) X dX9_row__54 (by decide) (by decide) rfl (by decide) ?_
          refine x_aload_n X dX9_row__99 rfl ?_
          refine x_iload_n X dX9_row__100 rfl ?_
          refine cv_X9_239 X (c_X9_assumptions (by omega)) dX9_row__101 rfl ⟨by decide, by decide, by decide, by decide⟩ rfl rfl (Nat.le_of_ble_eq_true rfl) (xk_i ?_)
          rw [qCnt_0]
          refine x_i2l X dX9_row__104 ?_
          exact x_lret X dX9_row__105 (xp_l (by first | rfl | simp [*]) (by first | rfl | simp [*]))
        · skip
          exact absurd (by decide) h48
      · skip
        exact absurd h37 (by decide)

set_option maxHeartbeats 4000000 in
set_option maxRecDepth 100000 in
theorem c_X9_row10 {l : Launch} {G : xG} {σ : xS} {r : Nat} {nr : Nat} (hr : xgI σ 37 26 = nI nr) (hr2 : nr ≤ 200) {V : Nat} (hV : xgI σ 37 3 = nI V) (hV8 : V ≤ 8) (hj : r < nr) : xFl l G yX9_row_ cX9_row_ 3 (Option.some Jvm.ClassFile.FieldType.long) 1 26 [.ref (G.2.1 37), .int (nI r), .int 10] σ (if xgI σ 54 r = 0 then 0 else 1) (xsI σ 37 0 0) := by
  refine xM.of (by decide) (Nat.le_of_ble_eq_true rfl) (fun pp ee ss mm aa bel met kk X => ?_)
  have X : xC pp ss mm met kk cX9_row_ 3 RX9 (Option.some Jvm.ClassFile.FieldType.long) G := X
  show xW pp l ee { frames := 1, cells := 0, slots := 0, locals := 26 } ss mm aa bel met kk 3 G 0 0 (xQ bel G (fun rv_ tv_ => rv_ = some (.long (if xgI σ 54 r = 0 then 0 else 1)) ∧ tv_ = (xsI σ 37 0 0)) aa ss) 0 [(0, .ref (G.2.1 37)), (1, .int (nI r)), (2, .int 10)] [] σ
  refine x_aload_n X dX9_row__0 rfl ?_
  refine x_iload_n X dX9_row__1 rfl ?_
  refine x_iconst (v := nI 0) X dX9_row__2 (by decide) ?_
  refine x_aload_n X dX9_row__3 rfl ?_
  refine gf_X9_145 X dX9_row__4 rfl ?_
  rw [hr]
  refine x_iconst (v := nI 1) X dX9_row__7 (by decide) ?_
  refine x_isub X dX9_row__8 ?_
  refine cs_X9_89 X c_X9_in dX9_row__9 ⟨by decide, by decide, by decide, by decide⟩ rfl rfl (Nat.le_of_ble_eq_true rfl) (xk_i ?_)
  rw [xIn_lt (by omega)]
  refine x_ifeq (tgt := 40) X dX9_row__12 (by decide) (fun h12 => ?_) (fun h12 => ?_)
  · skip
    exact absurd ⟨r, hj, rfl⟩ (xB_0.mp h12)
  · skip
    refine x_iload_n X dX9_row__15 rfl ?_
    refine x_iconst (v := nI 0) X dX9_row__16 (by decide) ?_
    refine x_aload_n X dX9_row__17 rfl ?_
    refine gf_X9_112 X dX9_row__18 rfl ?_
    rw [hV]
    refine x_iconst (v := nI 1) X dX9_row__21 (by decide) ?_
    refine x_isub X dX9_row__22 ?_
    refine cs_X9_89 X c_X9_in dX9_row__23 ⟨by decide, by decide, by decide, by decide⟩ rfl rfl (Nat.le_of_ble_eq_true rfl) (xk_i ?_)
    rw [xIn_lt (by omega)]
    refine x_ifne (tgt := 44) X dX9_row__26 (by decide) (fun h26 => ?_) (fun h26 => ?_)
    · skip
      exact absurd (xB_f (by rintro ⟨i, hi, e⟩; have := (nI_eq (a := 10) (b := i) (by omega) (by omega)).mp e; omega)) h26
    · skip
      refine x_iload_n X dX9_row__29 rfl ?_
      refine x_bipush (v := nI 8) X dX9_row__30 (by decide) ?_
      refine x_bipush (v := nI 13) X dX9_row__32 (by decide) ?_
      refine cs_X9_89 X c_X9_in dX9_row__34 ⟨by decide, by decide, by decide, by decide⟩ rfl rfl (Nat.le_of_ble_eq_true rfl) (xk_i ?_)
      refine x_ifne (tgt := 44) X dX9_row__37 (by decide) (fun h37 => ?_) (fun h37 => ?_)
      · skip
        refine x_iconst (v := nI 0) X dX9_row__44 (by decide) ?_
        refine cv_X9_157 X (c_X9_refuses (Or.inl rfl)) dX9_row__45 rfl ⟨by decide, by decide, by decide, by decide⟩ rfl rfl (Nat.le_of_ble_eq_true rfl) (xk_i ?_)
        refine x_ifeq (tgt := 53) X dX9_row__48 (by decide) (fun h48 => ?_) (fun h48 => ?_)
        · skip
          refine x_iload_n X dX9_row__53 rfl ?_
          refine x_tableIn (off := 52) (tgt := 106) X dX9_row__54 (by decide) (by decide) rfl (by decide) ?_
          refine x_aload_n X dX9_row__106 rfl ?_
          refine gf_X9_66 (k' := 54) X dX9_row__107 rfl rfl ?_
          refine x_iload_n X dX9_row__110 rfl ?_
          refine x_zaldN X dX9_row__111 rfl (by omega) (by omega) ?_
          rw [xgI_n (by omega)]
          refine x_ifeq (tgt := 119) X dX9_row__112 (by decide) (fun h112 => ?_) (fun h112 => ?_)
          · skip
            refine x_lconst (v := 0) X dX9_row__119 (by decide) ?_
            exact x_lret X dX9_row__120 (xp_l (by first | rfl | simp [*]) (by first | rfl | simp [*]))
          · skip
            refine x_lconst (v := 1) X dX9_row__115 (by decide) ?_
            refine x_goto (tgt := 120) X dX9_row__116 (by decide) ?_
            exact x_lret X dX9_row__120 (xp_l (by first | rfl | simp [*]) (by first | rfl | simp [*]))
        · skip
          exact absurd (by decide) h48
      · skip
        exact absurd h37 (by decide)

set_option maxHeartbeats 4000000 in
set_option maxRecDepth 100000 in
theorem c_X9_row11 {l : Launch} {G : xG} {σ : xS} {r : Nat} {nr : Nat} (hr : xgI σ 37 26 = nI nr) (hr2 : nr ≤ 200) {V : Nat} (hV : xgI σ 37 3 = nI V) (hV8 : V ≤ 8) (hj : r < nr) : xFl l G yX9_row_ cX9_row_ 3 (Option.some Jvm.ClassFile.FieldType.long) 1 26 [.ref (G.2.1 37), .int (nI r), .int 11] σ (if xgI σ 54 r = 0 then 0 else xgL σ 55 r) (xsI σ 37 0 0) := by
  refine xM.of (by decide) (Nat.le_of_ble_eq_true rfl) (fun pp ee ss mm aa bel met kk X => ?_)
  have X : xC pp ss mm met kk cX9_row_ 3 RX9 (Option.some Jvm.ClassFile.FieldType.long) G := X
  show xW pp l ee { frames := 1, cells := 0, slots := 0, locals := 26 } ss mm aa bel met kk 3 G 0 0 (xQ bel G (fun rv_ tv_ => rv_ = some (.long (if xgI σ 54 r = 0 then 0 else xgL σ 55 r)) ∧ tv_ = (xsI σ 37 0 0)) aa ss) 0 [(0, .ref (G.2.1 37)), (1, .int (nI r)), (2, .int 11)] [] σ
  refine x_aload_n X dX9_row__0 rfl ?_
  refine x_iload_n X dX9_row__1 rfl ?_
  refine x_iconst (v := nI 0) X dX9_row__2 (by decide) ?_
  refine x_aload_n X dX9_row__3 rfl ?_
  refine gf_X9_145 X dX9_row__4 rfl ?_
  rw [hr]
  refine x_iconst (v := nI 1) X dX9_row__7 (by decide) ?_
  refine x_isub X dX9_row__8 ?_
  refine cs_X9_89 X c_X9_in dX9_row__9 ⟨by decide, by decide, by decide, by decide⟩ rfl rfl (Nat.le_of_ble_eq_true rfl) (xk_i ?_)
  rw [xIn_lt (by omega)]
  refine x_ifeq (tgt := 40) X dX9_row__12 (by decide) (fun h12 => ?_) (fun h12 => ?_)
  · skip
    exact absurd ⟨r, hj, rfl⟩ (xB_0.mp h12)
  · skip
    refine x_iload_n X dX9_row__15 rfl ?_
    refine x_iconst (v := nI 0) X dX9_row__16 (by decide) ?_
    refine x_aload_n X dX9_row__17 rfl ?_
    refine gf_X9_112 X dX9_row__18 rfl ?_
    rw [hV]
    refine x_iconst (v := nI 1) X dX9_row__21 (by decide) ?_
    refine x_isub X dX9_row__22 ?_
    refine cs_X9_89 X c_X9_in dX9_row__23 ⟨by decide, by decide, by decide, by decide⟩ rfl rfl (Nat.le_of_ble_eq_true rfl) (xk_i ?_)
    rw [xIn_lt (by omega)]
    refine x_ifne (tgt := 44) X dX9_row__26 (by decide) (fun h26 => ?_) (fun h26 => ?_)
    · skip
      exact absurd (xB_f (by rintro ⟨i, hi, e⟩; have := (nI_eq (a := 11) (b := i) (by omega) (by omega)).mp e; omega)) h26
    · skip
      refine x_iload_n X dX9_row__29 rfl ?_
      refine x_bipush (v := nI 8) X dX9_row__30 (by decide) ?_
      refine x_bipush (v := nI 13) X dX9_row__32 (by decide) ?_
      refine cs_X9_89 X c_X9_in dX9_row__34 ⟨by decide, by decide, by decide, by decide⟩ rfl rfl (Nat.le_of_ble_eq_true rfl) (xk_i ?_)
      refine x_ifne (tgt := 44) X dX9_row__37 (by decide) (fun h37 => ?_) (fun h37 => ?_)
      · skip
        refine x_iconst (v := nI 0) X dX9_row__44 (by decide) ?_
        refine cv_X9_157 X (c_X9_refuses (Or.inl rfl)) dX9_row__45 rfl ⟨by decide, by decide, by decide, by decide⟩ rfl rfl (Nat.le_of_ble_eq_true rfl) (xk_i ?_)
        refine x_ifeq (tgt := 53) X dX9_row__48 (by decide) (fun h48 => ?_) (fun h48 => ?_)
        · skip
          refine x_iload_n X dX9_row__53 rfl ?_
          refine x_tableIn (off := 67) (tgt := 121) X dX9_row__54 (by decide) (by decide) rfl (by decide) ?_
          refine x_aload_n X dX9_row__121 rfl ?_
          refine gf_X9_66 (k' := 54) X dX9_row__122 rfl rfl ?_
          refine x_iload_n X dX9_row__125 rfl ?_
          refine x_zaldN X dX9_row__126 rfl (by omega) (by omega) ?_
          rw [xgI_n (by omega)]
          refine x_ifeq (tgt := 139) X dX9_row__127 (by decide) (fun h127 => ?_) (fun h127 => ?_)
          · skip
            refine x_lconst (v := 0) X dX9_row__139 (by decide) ?_
            exact x_lret X dX9_row__140 (xp_l (by first | rfl | simp [*]) (by first | rfl | simp [*]))
          · skip
            refine x_aload_n X dX9_row__130 rfl ?_
            refine gf_X9_70 (k' := 55) X dX9_row__131 rfl rfl ?_
            refine x_iload_n X dX9_row__134 rfl ?_
            refine x_laldN X dX9_row__135 rfl (by omega) (by omega) ?_
            rw [xgL_I]
            refine x_goto (tgt := 140) X dX9_row__136 (by decide) ?_
            exact x_lret X dX9_row__140 (xp_l (by first | rfl | simp [*]) (by first | rfl | simp [*]))
        · skip
          exact absurd (by decide) h48
      · skip
        exact absurd h37 (by decide)

set_option maxHeartbeats 4000000 in
set_option maxRecDepth 100000 in
theorem c_X9_row12 {l : Launch} {G : xG} {σ : xS} {r : Nat} {nr : Nat} (hr : xgI σ 37 26 = nI nr) (hr2 : nr ≤ 200) {V : Nat} (hV : xgI σ 37 3 = nI V) (hV8 : V ≤ 8) (hj : r < nr) {s0 : Nat} (hs : xgI σ 51 r = nI s0) (hs2 : s0 < 1500) : xFl l G yX9_row_ cX9_row_ 3 (Option.some Jvm.ClassFile.FieldType.long) 1 26 [.ref (G.2.1 37), .int (nI r), .int 12] σ ((xgI σ 50 s0).toInt64) (xsI σ 37 0 0) := by
  refine xM.of (by decide) (Nat.le_of_ble_eq_true rfl) (fun pp ee ss mm aa bel met kk X => ?_)
  have X : xC pp ss mm met kk cX9_row_ 3 RX9 (Option.some Jvm.ClassFile.FieldType.long) G := X
  show xW pp l ee { frames := 1, cells := 0, slots := 0, locals := 26 } ss mm aa bel met kk 3 G 0 0 (xQ bel G (fun rv_ tv_ => rv_ = some (.long ((xgI σ 50 s0).toInt64)) ∧ tv_ = (xsI σ 37 0 0)) aa ss) 0 [(0, .ref (G.2.1 37)), (1, .int (nI r)), (2, .int 12)] [] σ
  refine x_aload_n X dX9_row__0 rfl ?_
  refine x_iload_n X dX9_row__1 rfl ?_
  refine x_iconst (v := nI 0) X dX9_row__2 (by decide) ?_
  refine x_aload_n X dX9_row__3 rfl ?_
  refine gf_X9_145 X dX9_row__4 rfl ?_
  rw [hr]
  refine x_iconst (v := nI 1) X dX9_row__7 (by decide) ?_
  refine x_isub X dX9_row__8 ?_
  refine cs_X9_89 X c_X9_in dX9_row__9 ⟨by decide, by decide, by decide, by decide⟩ rfl rfl (Nat.le_of_ble_eq_true rfl) (xk_i ?_)
  rw [xIn_lt (by omega)]
  refine x_ifeq (tgt := 40) X dX9_row__12 (by decide) (fun h12 => ?_) (fun h12 => ?_)
  · skip
    exact absurd ⟨r, hj, rfl⟩ (xB_0.mp h12)
  · skip
    refine x_iload_n X dX9_row__15 rfl ?_
    refine x_iconst (v := nI 0) X dX9_row__16 (by decide) ?_
    refine x_aload_n X dX9_row__17 rfl ?_
    refine gf_X9_112 X dX9_row__18 rfl ?_
    rw [hV]
    refine x_iconst (v := nI 1) X dX9_row__21 (by decide) ?_
    refine x_isub X dX9_row__22 ?_
    refine cs_X9_89 X c_X9_in dX9_row__23 ⟨by decide, by decide, by decide, by decide⟩ rfl rfl (Nat.le_of_ble_eq_true rfl) (xk_i ?_)
    rw [xIn_lt (by omega)]
    refine x_ifne (tgt := 44) X dX9_row__26 (by decide) (fun h26 => ?_) (fun h26 => ?_)
    · skip
      exact absurd (xB_f (by rintro ⟨i, hi, e⟩; have := (nI_eq (a := 12) (b := i) (by omega) (by omega)).mp e; omega)) h26
    · skip
      refine x_iload_n X dX9_row__29 rfl ?_
      refine x_bipush (v := nI 8) X dX9_row__30 (by decide) ?_
      refine x_bipush (v := nI 13) X dX9_row__32 (by decide) ?_
      refine cs_X9_89 X c_X9_in dX9_row__34 ⟨by decide, by decide, by decide, by decide⟩ rfl rfl (Nat.le_of_ble_eq_true rfl) (xk_i ?_)
      refine x_ifne (tgt := 44) X dX9_row__37 (by decide) (fun h37 => ?_) (fun h37 => ?_)
      · skip
        refine x_iconst (v := nI 0) X dX9_row__44 (by decide) ?_
        refine cv_X9_157 X (c_X9_refuses (Or.inl rfl)) dX9_row__45 rfl ⟨by decide, by decide, by decide, by decide⟩ rfl rfl (Nat.le_of_ble_eq_true rfl) (xk_i ?_)
        refine x_ifeq (tgt := 53) X dX9_row__48 (by decide) (fun h48 => ?_) (fun h48 => ?_)
        · skip
          refine x_iload_n X dX9_row__53 rfl ?_
          refine x_tableIn (off := 87) (tgt := 141) X dX9_row__54 (by decide) (by decide) rfl (by decide) ?_
          refine x_aload_n X dX9_row__141 rfl ?_
          refine x_iload_n X dX9_row__142 rfl ?_
          refine cv_X9_233 X (c_X9_kind (by omega) ((xgI_n (by omega)).trans hs) hs2) dX9_row__143 rfl ⟨by decide, by decide, by decide, by decide⟩ rfl rfl (Nat.le_of_ble_eq_true rfl) (xk_i ?_)
          rw [xgI_n (by omega)]
          refine x_i2l X dX9_row__146 ?_
          exact x_lret X dX9_row__147 (xp_l (by first | rfl | simp [*]) (by first | rfl | simp [*]))
        · skip
          exact absurd (by decide) h48
      · skip
        exact absurd h37 (by decide)

set_option maxHeartbeats 4000000 in
set_option maxRecDepth 100000 in
theorem c_X9_assumesT {l : Launch} {G : xG} {σ : xS} {x i : Int32} {nr : Nat} (hr : xgI σ 37 26 = nI nr) (hr2 : nr ≤ 200) (hx : ¬ xLt x nr) : xFi l G yX9_assumes_ cX9_assumes_ 5 (Option.some Jvm.ClassFile.FieldType.int) 1 22 [.ref (G.2.1 37), .int x, .int i] σ (0) (xsI σ 37 0 1) := by
  refine xM.of (by decide) (Nat.le_of_ble_eq_true rfl) (fun pp ee ss mm aa bel met kk X => ?_)
  have X : xC pp ss mm met kk cX9_assumes_ 5 RX9 (Option.some Jvm.ClassFile.FieldType.int) G := X
  show xW pp l ee { frames := 1, cells := 0, slots := 0, locals := 22 } ss mm aa bel met kk 5 G 0 0 (xQ bel G (fun rv_ tv_ => rv_ = some (.int (0)) ∧ tv_ = (xsI σ 37 0 1)) aa ss) 0 [(0, .ref (G.2.1 37)), (1, .int x), (2, .int i)] [] σ
  refine x_aload_n X dX9_assumes__0 rfl ?_
  refine x_iload_n X dX9_assumes__1 rfl ?_
  refine x_iconst (v := nI 0) X dX9_assumes__2 (by decide) ?_
  refine x_aload_n X dX9_assumes__3 rfl ?_
  refine gf_X9_145 X dX9_assumes__4 rfl ?_
  rw [hr]
  refine x_iconst (v := nI 1) X dX9_assumes__7 (by decide) ?_
  refine x_isub X dX9_assumes__8 ?_
  refine cs_X9_89 X c_X9_in dX9_assumes__9 ⟨by decide, by decide, by decide, by decide⟩ rfl rfl (Nat.le_of_ble_eq_true rfl) (xk_i ?_)
  rw [xIn_lt (by omega)]
  refine x_ifne (tgt := 19) X dX9_assumes__12 (by decide) (fun h12 => ?_) (fun h12 => ?_)
  · skip
    exact absurd (xB_f hx) h12
  · skip
    refine x_iconst (v := nI 1) X dX9_assumes__15 (by decide) ?_
    refine x_goto (tgt := 20) X dX9_assumes__16 (by decide) ?_
    refine cv_X9_157 X (c_X9_refuses (Or.inr rfl)) dX9_assumes__20 rfl ⟨by decide, by decide, by decide, by decide⟩ rfl rfl (Nat.le_of_ble_eq_true rfl) (xk_i ?_)
    refine x_ifeq (tgt := 28) X dX9_assumes__23 (by decide) (fun h23 => ?_) (fun h23 => ?_)
    · skip
      exact absurd h23 (by decide)
    · skip
      refine x_iconst (v := nI 0) X dX9_assumes__26 (by decide) ?_
      exact x_iret X dX9_assumes__27 (xp_i (by first | rfl | simp [*]) (by first | rfl | simp [*]))

set_option maxHeartbeats 4000000 in
set_option maxRecDepth 100000 in
theorem c_X9_assumesI {l : Launch} {G : xG} {σ : xS} {r : Nat} {i : Int32} {nr : Nat} (hr : xgI σ 37 26 = nI nr) (hr2 : nr ≤ 200) (hj : r < nr) : xFi l G yX9_assumes_ cX9_assumes_ 5 (Option.some Jvm.ClassFile.FieldType.int) 1 22 [.ref (G.2.1 37), .int (nI r), .int i] σ (qAs σ r i (r + 1) 0 0) (xsI σ 37 0 0) := by
  refine xM.of (by decide) (Nat.le_of_ble_eq_true rfl) (fun pp ee ss mm aa bel met kk X => ?_)
  have X : xC pp ss mm met kk cX9_assumes_ 5 RX9 (Option.some Jvm.ClassFile.FieldType.int) G := X
  show xW pp l ee { frames := 1, cells := 0, slots := 0, locals := 22 } ss mm aa bel met kk 5 G 0 0 (xQ bel G (fun rv_ tv_ => rv_ = some (.int (qAs σ r i (r + 1) 0 0)) ∧ tv_ = (xsI σ 37 0 0)) aa ss) 0 [(0, .ref (G.2.1 37)), (1, .int (nI r)), (2, .int i)] [] σ
  refine x_aload_n X dX9_assumes__0 rfl ?_
  refine x_iload_n X dX9_assumes__1 rfl ?_
  refine x_iconst (v := nI 0) X dX9_assumes__2 (by decide) ?_
  refine x_aload_n X dX9_assumes__3 rfl ?_
  refine gf_X9_145 X dX9_assumes__4 rfl ?_
  rw [hr]
  refine x_iconst (v := nI 1) X dX9_assumes__7 (by decide) ?_
  refine x_isub X dX9_assumes__8 ?_
  refine cs_X9_89 X c_X9_in dX9_assumes__9 ⟨by decide, by decide, by decide, by decide⟩ rfl rfl (Nat.le_of_ble_eq_true rfl) (xk_i ?_)
  rw [xIn_lt (by omega)]
  refine x_ifne (tgt := 19) X dX9_assumes__12 (by decide) (fun h12 => ?_) (fun h12 => ?_)
  · skip
    refine x_iconst (v := nI 0) X dX9_assumes__19 (by decide) ?_
    refine cv_X9_157 X (c_X9_refuses (Or.inl rfl)) dX9_assumes__20 rfl ⟨by decide, by decide, by decide, by decide⟩ rfl rfl (Nat.le_of_ble_eq_true rfl) (xk_i ?_)
    refine x_ifeq (tgt := 28) X dX9_assumes__23 (by decide) (fun h23 => ?_) (fun h23 => ?_)
    · skip
      refine x_iconst (v := nI 0) X dX9_assumes__28 (by decide) ?_
      refine x_istore_n (lv' := [(3, .int (nI 0)), (0, .ref (G.2.1 37)), (1, .int (nI r)), (2, .int i)]) X dX9_assumes__29 rfl (by decide) rfl ?_
      refine x_iconst (v := nI 0) X dX9_assumes__30 (by decide) ?_
      refine x_istore (lv' := [(4, .int (nI 0)), (3, .int (nI 0)), (0, .ref (G.2.1 37)), (1, .int (nI r)), (2, .int i)]) X dX9_assumes__31 (by decide) rfl ?_
      have lp33 : ∀ (NN33 : Nat) (n : Nat) (hn : n ≤ r + 1) (c : Nat) (hw : qAs σ r i (r + 1) 0 0 = qAs σ r i (r + 1 - n) n c), r + 1 - n = NN33 → xW pp l ee { frames := 1, cells := 0, slots := 0, locals := 22 } ss mm aa bel met kk 5 G 0 0 (xQ bel G (fun rv_ tv_ => rv_ = some (.int (qAs σ r i (r + 1) 0 0)) ∧ tv_ = (xsI σ 37 0 0)) aa ss) 33 [(4, .int (nI n)), (3, .int (nI c)), (2, .int i), (1, .int (nI r)), (0, .ref (G.2.1 37))] [] (xsI σ 37 0 0) := by
        intro NN33
        induction NN33 using Nat.strongRecOn with
        | ind NN33 ih33 =>
          intro n hn c hw hNN33
          refine x_iload X dX9_assumes__33 rfl ?_
          refine x_iload_n X dX9_assumes__35 rfl ?_
          refine x_icmpgt (tgt := 72) X dX9_assumes__36 (by decide) (fun h36 => ?_) (fun h36 => ?_)
          · skip
            rw [xb_gt (x := nI n) (y := nI r) (a := n) (b := r) rfl rfl (by omega) (by omega)] at h36
            rw [show n = r + 1 by omega] at hw
            refine x_iconst (v := (-1)) X dX9_assumes__72 (by decide) ?_
            exact x_iret X dX9_assumes__73 (xp_i (by rw [hw, show r + 1 - (r + 1) = 0 by omega]; rfl) (by first | rfl | simp [*]))
          · skip
            rw [xb_gt (x := nI n) (y := nI r) (a := n) (b := r) rfl rfl (by omega) (by omega)] at h36
            refine x_aload_n X dX9_assumes__39 rfl ?_
            refine gf_X9_74 (k' := 56) X dX9_assumes__40 rfl rfl ?_
            refine x_sipush (v := nI 200) X dX9_assumes__43 (by decide) ?_
            refine x_iload_n X dX9_assumes__46 rfl ?_
            refine x_imul X dX9_assumes__47 ?_
            rw [pk_mul 200 r]
            refine x_iload X dX9_assumes__48 rfl ?_
            refine x_iadd X dX9_assumes__50 ?_
            rw [nI_add (200 * r) n]
            refine x_zaldN X dX9_assumes__51 rfl (by omega) (by omega) ?_
            rw [xgI_n (by omega)]
            refine x_ifeq (tgt := 66) X dX9_assumes__52 (by decide) (fun h52 => ?_) (fun h52 => ?_)
            · skip
              have hw2 := hw.trans (qAs_f (by omega) h52)
              refine x_iinc (k := 0) (v := nI (n + 1)) (lv' := [(4, .int (nI (n + 1))), (3, .int (nI c)), (2, .int i), (1, .int (nI r)), (0, .ref (G.2.1 37))]) X dX9_assumes__66 rfl (xn_inc _) (by decide) rfl ?_
              refine x_goto (tgt := 33) X dX9_assumes__69 (by decide) ?_
              refine x_pick [0, 1, 2, 3, 4] rfl ?_
              exact ih33 _ (by omega) (n + 1) (by omega) _ hw2 rfl
            · skip
              refine x_iload_n X dX9_assumes__55 rfl ?_
              refine x_iload_n X dX9_assumes__56 rfl ?_
              refine x_icmpne (tgt := 63) X dX9_assumes__57 (by decide) (fun h57 => ?_) (fun h57 => ?_)
              · skip
                have hw2 := hw.trans (qAs_s (by omega) h52 h57)
                refine x_iinc (k := 1) (v := nI (c + 1)) (lv' := [(3, .int (nI (c + 1))), (4, .int (nI n)), (2, .int i), (1, .int (nI r)), (0, .ref (G.2.1 37))]) X dX9_assumes__63 rfl (xn_inc _) (by decide) rfl ?_
                refine x_iinc (k := 1) (v := nI (n + 1)) (lv' := [(4, .int (nI (n + 1))), (3, .int (nI (c + 1))), (2, .int i), (1, .int (nI r)), (0, .ref (G.2.1 37))]) X dX9_assumes__66 rfl (xn_inc _) (by decide) rfl ?_
                refine x_goto (tgt := 33) X dX9_assumes__69 (by decide) ?_
                refine x_pick [0, 1, 2, 3, 4] rfl ?_
                exact ih33 _ (by omega) (n + 1) (by omega) _ hw2 rfl
              · skip
                refine x_iload X dX9_assumes__60 rfl ?_
                exact x_iret X dX9_assumes__62 (xp_i (by rw [hw, qAs_t (by omega) h52 h57]) (by first | rfl | simp [*]))
      refine x_pick [0, 1, 4, 3, 2] rfl ?_
      exact lp33 _ 0 (by omega) 0 rfl rfl
    · skip
      exact absurd (by decide) h23
  · skip
    exact absurd ⟨r, hj, rfl⟩ (xB_0.mp h12)

set_option maxHeartbeats 4000000 in
set_option maxRecDepth 100000 in
theorem c_X9_holdsT {l : Launch} {G : xG} {σ : xS} {x y : Int32} {nr : Nat} (hr : xgI σ 37 26 = nI nr) (hr2 : nr ≤ 200) {np : Nat} (hp : np ≤ 8) (hc : xgI σ 37 17 = nI np) (hx : ¬ xLt x nr ∨ ¬ xLt y np) : xFi l G yX9_holds cX9_holds 5 (Option.some Jvm.ClassFile.FieldType.int) 1 25 [.ref (G.2.1 37), .int x, .int y] σ (0) (xsI σ 37 0 1) := by
  refine xM.of (by decide) (Nat.le_of_ble_eq_true rfl) (fun pp ee ss mm aa bel met kk X => ?_)
  have X : xC pp ss mm met kk cX9_holds 5 RX9 (Option.some Jvm.ClassFile.FieldType.int) G := X
  show xW pp l ee { frames := 1, cells := 0, slots := 0, locals := 25 } ss mm aa bel met kk 5 G 0 0 (xQ bel G (fun rv_ tv_ => rv_ = some (.int (0)) ∧ tv_ = (xsI σ 37 0 1)) aa ss) 0 [(0, .ref (G.2.1 37)), (1, .int x), (2, .int y)] [] σ
  refine x_aload_n X dX9_holds_0 rfl ?_
  refine x_iload_n X dX9_holds_1 rfl ?_
  refine x_iconst (v := nI 0) X dX9_holds_2 (by decide) ?_
  refine x_aload_n X dX9_holds_3 rfl ?_
  refine gf_X9_145 X dX9_holds_4 rfl ?_
  rw [hr]
  refine x_iconst (v := nI 1) X dX9_holds_7 (by decide) ?_
  refine x_isub X dX9_holds_8 ?_
  refine cs_X9_89 X c_X9_in dX9_holds_9 ⟨by decide, by decide, by decide, by decide⟩ rfl rfl (Nat.le_of_ble_eq_true rfl) (xk_i ?_)
  rw [xIn_lt (by omega)]
  refine x_ifeq (tgt := 29) X dX9_holds_12 (by decide) (fun h12 => ?_) (fun h12 => ?_)
  · skip
    refine x_iconst (v := nI 1) X dX9_holds_29 (by decide) ?_
    refine x_goto (tgt := 34) X dX9_holds_30 (by decide) ?_
    refine cv_X9_157 X (c_X9_refuses (Or.inr rfl)) dX9_holds_34 rfl ⟨by decide, by decide, by decide, by decide⟩ rfl rfl (Nat.le_of_ble_eq_true rfl) (xk_i ?_)
    refine x_ifeq (tgt := 42) X dX9_holds_37 (by decide) (fun h37 => ?_) (fun h37 => ?_)
    · skip
      exact absurd h37 (by decide)
    · skip
      refine x_iconst (v := nI 0) X dX9_holds_40 (by decide) ?_
      exact x_iret X dX9_holds_41 (xp_i (by first | rfl | simp [*]) (by first | rfl | simp [*]))
  · skip
    have h12b : xLt x nr := Classical.not_not.mp (fun z => h12 (xB_f z))
    refine x_iload_n X dX9_holds_15 rfl ?_
    refine x_iconst (v := nI 0) X dX9_holds_16 (by decide) ?_
    refine x_aload_n X dX9_holds_17 rfl ?_
    refine gf_X9_127 X dX9_holds_18 rfl ?_
    rw [hc]
    refine x_iconst (v := nI 1) X dX9_holds_21 (by decide) ?_
    refine x_isub X dX9_holds_22 ?_
    refine cs_X9_89 X c_X9_in dX9_holds_23 ⟨by decide, by decide, by decide, by decide⟩ rfl rfl (Nat.le_of_ble_eq_true rfl) (xk_i ?_)
    rw [xIn_lt (by omega)]
    refine x_ifne (tgt := 33) X dX9_holds_26 (by decide) (fun h26 => ?_) (fun h26 => ?_)
    · skip
      exact absurd hx (fun z => z.elim (fun y => y h12b) (fun y => h26 (xB_f y)))
    · skip
      refine x_iconst (v := nI 1) X dX9_holds_29 (by decide) ?_
      refine x_goto (tgt := 34) X dX9_holds_30 (by decide) ?_
      refine cv_X9_157 X (c_X9_refuses (Or.inr rfl)) dX9_holds_34 rfl ⟨by decide, by decide, by decide, by decide⟩ rfl rfl (Nat.le_of_ble_eq_true rfl) (xk_i ?_)
      refine x_ifeq (tgt := 42) X dX9_holds_37 (by decide) (fun h37 => ?_) (fun h37 => ?_)
      · skip
        exact absurd h37 (by decide)
      · skip
        refine x_iconst (v := nI 0) X dX9_holds_40 (by decide) ?_
        exact x_iret X dX9_holds_41 (xp_i (by first | rfl | simp [*]) (by first | rfl | simp [*]))

set_option maxHeartbeats 4000000 in
set_option maxRecDepth 100000 in
theorem c_X9_holds {l : Launch} {G : xG} {σ : xS} {w j : Nat} {nr : Nat} (hr : xgI σ 37 26 = nI nr) (hr2 : nr ≤ 200) {V : Nat} (hV : xgI σ 37 3 = nI V) (hV8 : V ≤ 8) {np : Nat} (hp : np ≤ 8) (hc : xgI σ 37 17 = nI np) (hw : w < nr) (hj : j < np) : xFi l G yX9_holds cX9_holds 5 (Option.some Jvm.ClassFile.FieldType.int) 1 25 [.ref (G.2.1 37), .int (nI w), .int (nI j)] σ (qHolds σ w j V) (xsI σ 37 0 0) := by
  refine xM.of (by decide) (Nat.le_of_ble_eq_true rfl) (fun pp ee ss mm aa bel met kk X => ?_)
  have X : xC pp ss mm met kk cX9_holds 5 RX9 (Option.some Jvm.ClassFile.FieldType.int) G := X
  show xW pp l ee { frames := 1, cells := 0, slots := 0, locals := 25 } ss mm aa bel met kk 5 G 0 0 (xQ bel G (fun rv_ tv_ => rv_ = some (.int (qHolds σ w j V)) ∧ tv_ = (xsI σ 37 0 0)) aa ss) 0 [(0, .ref (G.2.1 37)), (1, .int (nI w)), (2, .int (nI j))] [] σ
  refine x_aload_n X dX9_holds_0 rfl ?_
  refine x_iload_n X dX9_holds_1 rfl ?_
  refine x_iconst (v := nI 0) X dX9_holds_2 (by decide) ?_
  refine x_aload_n X dX9_holds_3 rfl ?_
  refine gf_X9_145 X dX9_holds_4 rfl ?_
  rw [hr]
  refine x_iconst (v := nI 1) X dX9_holds_7 (by decide) ?_
  refine x_isub X dX9_holds_8 ?_
  refine cs_X9_89 X c_X9_in dX9_holds_9 ⟨by decide, by decide, by decide, by decide⟩ rfl rfl (Nat.le_of_ble_eq_true rfl) (xk_i ?_)
  rw [xIn_lt (by omega)]
  refine x_ifeq (tgt := 29) X dX9_holds_12 (by decide) (fun h12 => ?_) (fun h12 => ?_)
  · skip
    exact absurd ⟨w, hw, rfl⟩ (xB_0.mp h12)
  · skip
    refine x_iload_n X dX9_holds_15 rfl ?_
    refine x_iconst (v := nI 0) X dX9_holds_16 (by decide) ?_
    refine x_aload_n X dX9_holds_17 rfl ?_
    refine gf_X9_127 X dX9_holds_18 rfl ?_
    rw [hc]
    refine x_iconst (v := nI 1) X dX9_holds_21 (by decide) ?_
    refine x_isub X dX9_holds_22 ?_
    refine cs_X9_89 X c_X9_in dX9_holds_23 ⟨by decide, by decide, by decide, by decide⟩ rfl rfl (Nat.le_of_ble_eq_true rfl) (xk_i ?_)
    rw [xIn_lt (by omega)]
    refine x_ifne (tgt := 33) X dX9_holds_26 (by decide) (fun h26 => ?_) (fun h26 => ?_)
    · skip
      refine x_iconst (v := nI 0) X dX9_holds_33 (by decide) ?_
      refine cv_X9_157 X (c_X9_refuses (Or.inl rfl)) dX9_holds_34 rfl ⟨by decide, by decide, by decide, by decide⟩ rfl rfl (Nat.le_of_ble_eq_true rfl) (xk_i ?_)
      refine x_ifeq (tgt := 42) X dX9_holds_37 (by decide) (fun h37 => ?_) (fun h37 => ?_)
      · skip
        refine x_aload_n X dX9_holds_42 rfl ?_
        refine gf_X9_66 (k' := 54) X dX9_holds_43 rfl rfl ?_
        refine x_iload_n X dX9_holds_46 rfl ?_
        refine x_zaldN X dX9_holds_47 rfl (by omega) (by omega) ?_
        rw [xgI_n (by omega)]
        refine x_ifeq (tgt := 66) X dX9_holds_48 (by decide) (fun h48 => ?_) (fun h48 => ?_)
        · skip
          have hi0 : nI 1 = xB (qKa σ w j V 0) := (xB_t ⟨Or.inl h48, fun b hb => by omega⟩).symm
          refine x_iconst (v := nI 1) X dX9_holds_66 (by decide) ?_
          refine x_goto (tgt := 71) X dX9_holds_67 (by decide) ?_
          refine x_istore_n (lv' := [(3, .int (nI 1)), (0, .ref (G.2.1 37)), (1, .int (nI w)), (2, .int (nI j))]) X dX9_holds_71 rfl (by decide) rfl ?_
          refine x_iconst (v := nI 0) X dX9_holds_72 (by decide) ?_
          refine x_istore (lv' := [(4, .int (nI 0)), (3, .int (nI 1)), (0, .ref (G.2.1 37)), (1, .int (nI w)), (2, .int (nI j))]) X dX9_holds_73 (by decide) rfl ?_
          have lp75 : ∀ (NN75 : Nat) (n : Nat) (hn : n ≤ w + 1) (is0 : Int32) (his : is0 = xB (qKa σ w j V n)), w + 1 - n = NN75 → xW pp l ee { frames := 1, cells := 0, slots := 0, locals := 25 } ss mm aa bel met kk 5 G 0 0 (xQ bel G (fun rv_ tv_ => rv_ = some (.int (qHolds σ w j V)) ∧ tv_ = (xsI σ 37 0 0)) aa ss) 75 [(4, .int (nI n)), (3, .int is0), (2, .int (nI j)), (1, .int (nI w)), (0, .ref (G.2.1 37))] [] (xsI σ 37 0 0) := by
            intro NN75
            induction NN75 using Nat.strongRecOn with
            | ind NN75 ih75 =>
              intro n hn is0 his hNN75
              refine x_iload X dX9_holds_75 rfl ?_
              refine x_iload_n X dX9_holds_77 rfl ?_
              refine x_icmpgt (tgt := 131) X dX9_holds_78 (by decide) (fun h78 => ?_) (fun h78 => ?_)
              · skip
                rw [xb_gt (x := nI n) (y := nI w) (a := n) (b := w) rfl rfl (by omega) (by omega)] at h78
                rw [show n = w + 1 by omega] at his
                refine x_iload_n X dX9_holds_131 rfl ?_
                refine x_ifne (tgt := 139) X dX9_holds_132 (by decide) (fun h132 => ?_) (fun h132 => ?_)
                · skip
                  have hq : qKa σ w j V (w + 1) := Classical.not_not.mp (fun z => h132 (by rw [his, xB_f z]))
                  refine x_aload_n X dX9_holds_139 rfl ?_
                  refine x_iload_n X dX9_holds_140 rfl ?_
                  refine x_iload_n X dX9_holds_141 rfl ?_
                  refine cv_X9_245 X (c_X9_sum (by omega) (by omega) ((xgI_n (by decide)).trans hV) hV8) dX9_holds_142 rfl ⟨by decide, by decide, by decide, by decide⟩ rfl rfl (Nat.le_of_ble_eq_true rfl) (xk_l ?_)
                  rw [qSumR_0]
                  refine x_aload_n X dX9_holds_145 rfl ?_
                  refine gf_X9_63 (k' := 53) X dX9_holds_146 rfl rfl ?_
                  refine x_iload_n X dX9_holds_149 rfl ?_
                  refine x_laldN X dX9_holds_150 rfl (by omega) (by omega) ?_
                  refine x_lcmp X dX9_holds_151 ?_
                  refine x_ifgt (tgt := 159) X dX9_holds_152 (by decide) (fun h152 => ?_) (fun h152 => ?_)
                  · skip
                    rw [lg_cmp_gt] at h152
                    refine x_iconst (v := nI 0) X dX9_holds_159 (by decide) ?_
                    exact x_iret X dX9_holds_160 (xp_i (by unfold qHolds; first | (rw [if_neg hq]; rfl) | (rw [if_pos hq]; exact (xB_f (xi64_nle.mpr h152)).symm) | (rw [if_pos hq]; exact (xB_t (Classical.not_not.mp (fun q => h152 (xi64_nle.mp q)))).symm)) (by first | rfl | simp [*]))
                  · skip
                    rw [lg_cmp_gt] at h152
                    refine x_iconst (v := nI 1) X dX9_holds_155 (by decide) ?_
                    refine x_goto (tgt := 160) X dX9_holds_156 (by decide) ?_
                    exact x_iret X dX9_holds_160 (xp_i (by unfold qHolds; first | (rw [if_neg hq]; rfl) | (rw [if_pos hq]; exact (xB_f (xi64_nle.mpr h152)).symm) | (rw [if_pos hq]; exact (xB_t (Classical.not_not.mp (fun q => h152 (xi64_nle.mp q)))).symm)) (by first | rfl | simp [*]))
                · skip
                  have hq : ¬ qKa σ w j V (w + 1) := xB_0.mp (his ▸ h132)
                  refine x_iconst (v := nI 2) X dX9_holds_135 (by decide) ?_
                  refine x_goto (tgt := 160) X dX9_holds_136 (by decide) ?_
                  exact x_iret X dX9_holds_160 (xp_i (by unfold qHolds; first | (rw [if_neg hq]; rfl) | (rw [if_pos hq]; exact (xB_f (xi64_nle.mpr h152)).symm) | (rw [if_pos hq]; exact (xB_t (Classical.not_not.mp (fun q => h152 (xi64_nle.mp q)))).symm)) (by first | rfl | simp [*]))
              · skip
                rw [xb_gt (x := nI n) (y := nI w) (a := n) (b := w) rfl rfl (by omega) (by omega)] at h78
                refine x_iload_n X dX9_holds_81 rfl ?_
                refine x_ifeq (tgt := 123) X dX9_holds_82 (by decide) (fun h82 => ?_) (fun h82 => ?_)
                · skip
                  have his9 : nI 0 = xB (qKa σ w j V (n + 1)) := (xB_f (fun z => (xB_0.mp (his ▸ h82)) ⟨z.1, fun b hb => z.2 b (by omega)⟩)).symm
                  refine x_iconst (v := nI 0) X dX9_holds_123 (by decide) ?_
                  refine x_istore_n (lv' := [(3, .int (nI 0)), (4, .int (nI n)), (2, .int (nI j)), (1, .int (nI w)), (0, .ref (G.2.1 37))]) X dX9_holds_124 rfl (by decide) rfl ?_
                  refine x_iinc (k := 1) (v := nI (n + 1)) (lv' := [(4, .int (nI (n + 1))), (3, .int (nI 0)), (2, .int (nI j)), (1, .int (nI w)), (0, .ref (G.2.1 37))]) X dX9_holds_125 rfl (xn_inc _) (by decide) rfl ?_
                  refine x_goto (tgt := 75) X dX9_holds_128 (by decide) ?_
                  refine x_pick [0, 1, 2, 3, 4] rfl ?_
                  exact ih75 _ (by omega) (n + 1) (by omega) _ his9 rfl
                · skip
                  have hq : qKa σ w j V n := Classical.not_not.mp (fun z => h82 (by rw [his, xB_f z]))
                  refine x_aload_n X dX9_holds_85 rfl ?_
                  refine gf_X9_74 (k' := 56) X dX9_holds_86 rfl rfl ?_
                  refine x_sipush (v := nI 200) X dX9_holds_89 (by decide) ?_
                  refine x_iload_n X dX9_holds_92 rfl ?_
                  refine x_imul X dX9_holds_93 ?_
                  rw [pk_mul 200 w]
                  refine x_iload X dX9_holds_94 rfl ?_
                  refine x_iadd X dX9_holds_96 ?_
                  rw [nI_add (200 * w) n]
                  refine x_zaldN X dX9_holds_97 rfl (by omega) (by omega) ?_
                  rw [xgI_n (by omega)]
                  refine x_ifeq (tgt := 119) X dX9_holds_98 (by decide) (fun h98 => ?_) (fun h98 => ?_)
                  · skip
                    have his9 : nI 1 = xB (qKa σ w j V (n + 1)) := (xB_t ⟨hq.1, lt_s hq.2 (fun z => absurd h98 z)⟩).symm
                    refine x_iconst (v := nI 1) X dX9_holds_119 (by decide) ?_
                    refine x_goto (tgt := 124) X dX9_holds_120 (by decide) ?_
                    refine x_istore_n (lv' := [(3, .int (nI 1)), (4, .int (nI n)), (2, .int (nI j)), (1, .int (nI w)), (0, .ref (G.2.1 37))]) X dX9_holds_124 rfl (by decide) rfl ?_
                    refine x_iinc (k := 1) (v := nI (n + 1)) (lv' := [(4, .int (nI (n + 1))), (3, .int (nI 1)), (2, .int (nI j)), (1, .int (nI w)), (0, .ref (G.2.1 37))]) X dX9_holds_125 rfl (xn_inc _) (by decide) rfl ?_
                    refine x_goto (tgt := 75) X dX9_holds_128 (by decide) ?_
                    refine x_pick [0, 1, 2, 3, 4] rfl ?_
                    exact ih75 _ (by omega) (n + 1) (by omega) _ his9 rfl
                  · skip
                    refine x_aload_n X dX9_holds_101 rfl ?_
                    refine x_iload X dX9_holds_102 rfl ?_
                    refine x_iload_n X dX9_holds_104 rfl ?_
                    refine cv_X9_245 X (c_X9_sum (by omega) (by omega) ((xgI_n (by decide)).trans hV) hV8) dX9_holds_105 rfl ⟨by decide, by decide, by decide, by decide⟩ rfl rfl (Nat.le_of_ble_eq_true rfl) (xk_l ?_)
                    rw [qSumR_0]
                    refine x_aload_n X dX9_holds_108 rfl ?_
                    refine gf_X9_63 (k' := 53) X dX9_holds_109 rfl rfl ?_
                    refine x_iload X dX9_holds_112 rfl ?_
                    refine x_laldN X dX9_holds_114 rfl (by omega) (by omega) ?_
                    refine x_lcmp X dX9_holds_115 ?_
                    refine x_ifgt (tgt := 123) X dX9_holds_116 (by decide) (fun h116 => ?_) (fun h116 => ?_)
                    · skip
                      rw [lg_cmp_gt] at h116
                      have his9 : nI 0 = xB (qKa σ w j V (n + 1)) := (xB_f (fun z => xi64_nle.mpr h116 (z.2 n (by omega) h98))).symm
                      refine x_iconst (v := nI 0) X dX9_holds_123 (by decide) ?_
                      refine x_istore_n (lv' := [(3, .int (nI 0)), (4, .int (nI n)), (2, .int (nI j)), (1, .int (nI w)), (0, .ref (G.2.1 37))]) X dX9_holds_124 rfl (by decide) rfl ?_
                      refine x_iinc (k := 1) (v := nI (n + 1)) (lv' := [(4, .int (nI (n + 1))), (3, .int (nI 0)), (2, .int (nI j)), (1, .int (nI w)), (0, .ref (G.2.1 37))]) X dX9_holds_125 rfl (xn_inc _) (by decide) rfl ?_
                      refine x_goto (tgt := 75) X dX9_holds_128 (by decide) ?_
                      refine x_pick [0, 1, 2, 3, 4] rfl ?_
                      exact ih75 _ (by omega) (n + 1) (by omega) _ his9 rfl
                    · skip
                      rw [lg_cmp_gt] at h116
                      have his9 : nI 1 = xB (qKa σ w j V (n + 1)) := (xB_t ⟨hq.1, lt_s hq.2 (fun _ => Classical.not_not.mp (fun q => h116 (xi64_nle.mp q)))⟩).symm
                      refine x_iconst (v := nI 1) X dX9_holds_119 (by decide) ?_
                      refine x_goto (tgt := 124) X dX9_holds_120 (by decide) ?_
                      refine x_istore_n (lv' := [(3, .int (nI 1)), (4, .int (nI n)), (2, .int (nI j)), (1, .int (nI w)), (0, .ref (G.2.1 37))]) X dX9_holds_124 rfl (by decide) rfl ?_
                      refine x_iinc (k := 1) (v := nI (n + 1)) (lv' := [(4, .int (nI (n + 1))), (3, .int (nI 1)), (2, .int (nI j)), (1, .int (nI w)), (0, .ref (G.2.1 37))]) X dX9_holds_125 rfl (xn_inc _) (by decide) rfl ?_
                      refine x_goto (tgt := 75) X dX9_holds_128 (by decide) ?_
                      refine x_pick [0, 1, 2, 3, 4] rfl ?_
                      exact ih75 _ (by omega) (n + 1) (by omega) _ his9 rfl
          refine x_pick [0, 1, 4, 3, 2] rfl ?_
          exact lp75 _ 0 (by omega) _ hi0 rfl
        · skip
          refine x_aload_n X dX9_holds_51 rfl ?_
          refine x_iload_n X dX9_holds_52 rfl ?_
          refine cv_X9_161 X (c_X9_costOf (by omega) ((xgI_n (by decide)).trans hV) hV8) dX9_holds_53 rfl ⟨by decide, by decide, by decide, by decide⟩ rfl rfl (Nat.le_of_ble_eq_true rfl) (xk_l ?_)
          rw [qCost_0]
          refine x_aload_n X dX9_holds_56 rfl ?_
          refine gf_X9_70 (k' := 55) X dX9_holds_57 rfl rfl ?_
          refine x_iload_n X dX9_holds_60 rfl ?_
          refine x_laldN X dX9_holds_61 rfl (by omega) (by omega) ?_
          refine x_lcmp X dX9_holds_62 ?_
          refine x_ifge (tgt := 70) X dX9_holds_63 (by decide) (fun h63 => ?_) (fun h63 => ?_)
          · skip
            rw [lg_cmp_ge] at h63
            have h63c : ¬ qCost σ j V < xgL σ 55 w := fun z => xi64_nle.mpr z h63
            have hi0 : nI 0 = xB (qKa σ w j V 0) := (xB_f (fun z => z.1.elim h48 h63c)).symm
            refine x_iconst (v := nI 0) X dX9_holds_70 (by decide) ?_
            refine x_istore_n (lv' := [(3, .int (nI 0)), (0, .ref (G.2.1 37)), (1, .int (nI w)), (2, .int (nI j))]) X dX9_holds_71 rfl (by decide) rfl ?_
            refine x_iconst (v := nI 0) X dX9_holds_72 (by decide) ?_
            refine x_istore (lv' := [(4, .int (nI 0)), (3, .int (nI 0)), (0, .ref (G.2.1 37)), (1, .int (nI w)), (2, .int (nI j))]) X dX9_holds_73 (by decide) rfl ?_
            have lp75 : ∀ (NN75 : Nat) (n : Nat) (hn : n ≤ w + 1) (is0 : Int32) (his : is0 = xB (qKa σ w j V n)), w + 1 - n = NN75 → xW pp l ee { frames := 1, cells := 0, slots := 0, locals := 25 } ss mm aa bel met kk 5 G 0 0 (xQ bel G (fun rv_ tv_ => rv_ = some (.int (qHolds σ w j V)) ∧ tv_ = (xsI σ 37 0 0)) aa ss) 75 [(4, .int (nI n)), (3, .int is0), (2, .int (nI j)), (1, .int (nI w)), (0, .ref (G.2.1 37))] [] (xsI σ 37 0 0) := by
              intro NN75
              induction NN75 using Nat.strongRecOn with
              | ind NN75 ih75 =>
                intro n hn is0 his hNN75
                refine x_iload X dX9_holds_75 rfl ?_
                refine x_iload_n X dX9_holds_77 rfl ?_
                refine x_icmpgt (tgt := 131) X dX9_holds_78 (by decide) (fun h78 => ?_) (fun h78 => ?_)
                · skip
                  rw [xb_gt (x := nI n) (y := nI w) (a := n) (b := w) rfl rfl (by omega) (by omega)] at h78
                  rw [show n = w + 1 by omega] at his
                  refine x_iload_n X dX9_holds_131 rfl ?_
                  refine x_ifne (tgt := 139) X dX9_holds_132 (by decide) (fun h132 => ?_) (fun h132 => ?_)
                  · skip
                    have hq : qKa σ w j V (w + 1) := Classical.not_not.mp (fun z => h132 (by rw [his, xB_f z]))
                    refine x_aload_n X dX9_holds_139 rfl ?_
                    refine x_iload_n X dX9_holds_140 rfl ?_
                    refine x_iload_n X dX9_holds_141 rfl ?_
                    refine cv_X9_245 X (c_X9_sum (by omega) (by omega) ((xgI_n (by decide)).trans hV) hV8) dX9_holds_142 rfl ⟨by decide, by decide, by decide, by decide⟩ rfl rfl (Nat.le_of_ble_eq_true rfl) (xk_l ?_)
                    rw [qSumR_0]
                    refine x_aload_n X dX9_holds_145 rfl ?_
                    refine gf_X9_63 (k' := 53) X dX9_holds_146 rfl rfl ?_
                    refine x_iload_n X dX9_holds_149 rfl ?_
                    refine x_laldN X dX9_holds_150 rfl (by omega) (by omega) ?_
                    refine x_lcmp X dX9_holds_151 ?_
                    refine x_ifgt (tgt := 159) X dX9_holds_152 (by decide) (fun h152 => ?_) (fun h152 => ?_)
                    · skip
                      rw [lg_cmp_gt] at h152
                      refine x_iconst (v := nI 0) X dX9_holds_159 (by decide) ?_
                      exact x_iret X dX9_holds_160 (xp_i (by unfold qHolds; first | (rw [if_neg hq]; rfl) | (rw [if_pos hq]; exact (xB_f (xi64_nle.mpr h152)).symm) | (rw [if_pos hq]; exact (xB_t (Classical.not_not.mp (fun q => h152 (xi64_nle.mp q)))).symm)) (by first | rfl | simp [*]))
                    · skip
                      rw [lg_cmp_gt] at h152
                      refine x_iconst (v := nI 1) X dX9_holds_155 (by decide) ?_
                      refine x_goto (tgt := 160) X dX9_holds_156 (by decide) ?_
                      exact x_iret X dX9_holds_160 (xp_i (by unfold qHolds; first | (rw [if_neg hq]; rfl) | (rw [if_pos hq]; exact (xB_f (xi64_nle.mpr h152)).symm) | (rw [if_pos hq]; exact (xB_t (Classical.not_not.mp (fun q => h152 (xi64_nle.mp q)))).symm)) (by first | rfl | simp [*]))
                  · skip
                    have hq : ¬ qKa σ w j V (w + 1) := xB_0.mp (his ▸ h132)
                    refine x_iconst (v := nI 2) X dX9_holds_135 (by decide) ?_
                    refine x_goto (tgt := 160) X dX9_holds_136 (by decide) ?_
                    exact x_iret X dX9_holds_160 (xp_i (by unfold qHolds; first | (rw [if_neg hq]; rfl) | (rw [if_pos hq]; exact (xB_f (xi64_nle.mpr h152)).symm) | (rw [if_pos hq]; exact (xB_t (Classical.not_not.mp (fun q => h152 (xi64_nle.mp q)))).symm)) (by first | rfl | simp [*]))
                · skip
                  rw [xb_gt (x := nI n) (y := nI w) (a := n) (b := w) rfl rfl (by omega) (by omega)] at h78
                  refine x_iload_n X dX9_holds_81 rfl ?_
                  refine x_ifeq (tgt := 123) X dX9_holds_82 (by decide) (fun h82 => ?_) (fun h82 => ?_)
                  · skip
                    have his9 : nI 0 = xB (qKa σ w j V (n + 1)) := (xB_f (fun z => (xB_0.mp (his ▸ h82)) ⟨z.1, fun b hb => z.2 b (by omega)⟩)).symm
                    refine x_iconst (v := nI 0) X dX9_holds_123 (by decide) ?_
                    refine x_istore_n (lv' := [(3, .int (nI 0)), (4, .int (nI n)), (2, .int (nI j)), (1, .int (nI w)), (0, .ref (G.2.1 37))]) X dX9_holds_124 rfl (by decide) rfl ?_
                    refine x_iinc (k := 1) (v := nI (n + 1)) (lv' := [(4, .int (nI (n + 1))), (3, .int (nI 0)), (2, .int (nI j)), (1, .int (nI w)), (0, .ref (G.2.1 37))]) X dX9_holds_125 rfl (xn_inc _) (by decide) rfl ?_
                    refine x_goto (tgt := 75) X dX9_holds_128 (by decide) ?_
                    refine x_pick [0, 1, 2, 3, 4] rfl ?_
                    exact ih75 _ (by omega) (n + 1) (by omega) _ his9 rfl
                  · skip
                    have hq : qKa σ w j V n := Classical.not_not.mp (fun z => h82 (by rw [his, xB_f z]))
                    refine x_aload_n X dX9_holds_85 rfl ?_
                    refine gf_X9_74 (k' := 56) X dX9_holds_86 rfl rfl ?_
                    refine x_sipush (v := nI 200) X dX9_holds_89 (by decide) ?_
                    refine x_iload_n X dX9_holds_92 rfl ?_
                    refine x_imul X dX9_holds_93 ?_
                    rw [pk_mul 200 w]
                    refine x_iload X dX9_holds_94 rfl ?_
                    refine x_iadd X dX9_holds_96 ?_
                    rw [nI_add (200 * w) n]
                    refine x_zaldN X dX9_holds_97 rfl (by omega) (by omega) ?_
                    rw [xgI_n (by omega)]
                    refine x_ifeq (tgt := 119) X dX9_holds_98 (by decide) (fun h98 => ?_) (fun h98 => ?_)
                    · skip
                      have his9 : nI 1 = xB (qKa σ w j V (n + 1)) := (xB_t ⟨hq.1, lt_s hq.2 (fun z => absurd h98 z)⟩).symm
                      refine x_iconst (v := nI 1) X dX9_holds_119 (by decide) ?_
                      refine x_goto (tgt := 124) X dX9_holds_120 (by decide) ?_
                      refine x_istore_n (lv' := [(3, .int (nI 1)), (4, .int (nI n)), (2, .int (nI j)), (1, .int (nI w)), (0, .ref (G.2.1 37))]) X dX9_holds_124 rfl (by decide) rfl ?_
                      refine x_iinc (k := 1) (v := nI (n + 1)) (lv' := [(4, .int (nI (n + 1))), (3, .int (nI 1)), (2, .int (nI j)), (1, .int (nI w)), (0, .ref (G.2.1 37))]) X dX9_holds_125 rfl (xn_inc _) (by decide) rfl ?_
                      refine x_goto (tgt := 75) X dX9_holds_128 (by decide) ?_
                      refine x_pick [0, 1, 2, 3, 4] rfl ?_
                      exact ih75 _ (by omega) (n + 1) (by omega) _ his9 rfl
                    · skip
                      refine x_aload_n X dX9_holds_101 rfl ?_
                      refine x_iload X dX9_holds_102 rfl ?_
                      refine x_iload_n X dX9_holds_104 rfl ?_
                      refine cv_X9_245 X (c_X9_sum (by omega) (by omega) ((xgI_n (by decide)).trans hV) hV8) dX9_holds_105 rfl ⟨by decide, by decide, by decide, by decide⟩ rfl rfl (Nat.le_of_ble_eq_true rfl) (xk_l ?_)
                      rw [qSumR_0]
                      refine x_aload_n X dX9_holds_108 rfl ?_
                      refine gf_X9_63 (k' := 53) X dX9_holds_109 rfl rfl ?_
                      refine x_iload X dX9_holds_112 rfl ?_
                      refine x_laldN X dX9_holds_114 rfl (by omega) (by omega) ?_
                      refine x_lcmp X dX9_holds_115 ?_
                      refine x_ifgt (tgt := 123) X dX9_holds_116 (by decide) (fun h116 => ?_) (fun h116 => ?_)
                      · skip
                        rw [lg_cmp_gt] at h116
                        have his9 : nI 0 = xB (qKa σ w j V (n + 1)) := (xB_f (fun z => xi64_nle.mpr h116 (z.2 n (by omega) h98))).symm
                        refine x_iconst (v := nI 0) X dX9_holds_123 (by decide) ?_
                        refine x_istore_n (lv' := [(3, .int (nI 0)), (4, .int (nI n)), (2, .int (nI j)), (1, .int (nI w)), (0, .ref (G.2.1 37))]) X dX9_holds_124 rfl (by decide) rfl ?_
                        refine x_iinc (k := 1) (v := nI (n + 1)) (lv' := [(4, .int (nI (n + 1))), (3, .int (nI 0)), (2, .int (nI j)), (1, .int (nI w)), (0, .ref (G.2.1 37))]) X dX9_holds_125 rfl (xn_inc _) (by decide) rfl ?_
                        refine x_goto (tgt := 75) X dX9_holds_128 (by decide) ?_
                        refine x_pick [0, 1, 2, 3, 4] rfl ?_
                        exact ih75 _ (by omega) (n + 1) (by omega) _ his9 rfl
                      · skip
                        rw [lg_cmp_gt] at h116
                        have his9 : nI 1 = xB (qKa σ w j V (n + 1)) := (xB_t ⟨hq.1, lt_s hq.2 (fun _ => Classical.not_not.mp (fun q => h116 (xi64_nle.mp q)))⟩).symm
                        refine x_iconst (v := nI 1) X dX9_holds_119 (by decide) ?_
                        refine x_goto (tgt := 124) X dX9_holds_120 (by decide) ?_
                        refine x_istore_n (lv' := [(3, .int (nI 1)), (4, .int (nI n)), (2, .int (nI j)), (1, .int (nI w)), (0, .ref (G.2.1 37))]) X dX9_holds_124 rfl (by decide) rfl ?_
                        refine x_iinc (k := 1) (v := nI (n + 1)) (lv' := [(4, .int (nI (n + 1))), (3, .int (nI 1)), (2, .int (nI j)), (1, .int (nI w)), (0, .ref (G.2.1 37))]) X dX9_holds_125 rfl (xn_inc _) (by decide) rfl ?_
                        refine x_goto (tgt := 75) X dX9_holds_128 (by decide) ?_
                        refine x_pick [0, 1, 2, 3, 4] rfl ?_
                        exact ih75 _ (by omega) (n + 1) (by omega) _ his9 rfl
            refine x_pick [0, 1, 4, 3, 2] rfl ?_
            exact lp75 _ 0 (by omega) _ hi0 rfl
          · skip
            rw [lg_cmp_ge] at h63
            have hi0 : nI 1 = xB (qKa σ w j V 0) := (xB_t ⟨Or.inr (xi64_nle.mp h63), fun b hb => by omega⟩).symm
            refine x_iconst (v := nI 1) X dX9_holds_66 (by decide) ?_
            refine x_goto (tgt := 71) X dX9_holds_67 (by decide) ?_
            refine x_istore_n (lv' := [(3, .int (nI 1)), (0, .ref (G.2.1 37)), (1, .int (nI w)), (2, .int (nI j))]) X dX9_holds_71 rfl (by decide) rfl ?_
            refine x_iconst (v := nI 0) X dX9_holds_72 (by decide) ?_
            refine x_istore (lv' := [(4, .int (nI 0)), (3, .int (nI 1)), (0, .ref (G.2.1 37)), (1, .int (nI w)), (2, .int (nI j))]) X dX9_holds_73 (by decide) rfl ?_
            have lp75 : ∀ (NN75 : Nat) (n : Nat) (hn : n ≤ w + 1) (is0 : Int32) (his : is0 = xB (qKa σ w j V n)), w + 1 - n = NN75 → xW pp l ee { frames := 1, cells := 0, slots := 0, locals := 25 } ss mm aa bel met kk 5 G 0 0 (xQ bel G (fun rv_ tv_ => rv_ = some (.int (qHolds σ w j V)) ∧ tv_ = (xsI σ 37 0 0)) aa ss) 75 [(4, .int (nI n)), (3, .int is0), (2, .int (nI j)), (1, .int (nI w)), (0, .ref (G.2.1 37))] [] (xsI σ 37 0 0) := by
              intro NN75
              induction NN75 using Nat.strongRecOn with
              | ind NN75 ih75 =>
                intro n hn is0 his hNN75
                refine x_iload X dX9_holds_75 rfl ?_
                refine x_iload_n X dX9_holds_77 rfl ?_
                refine x_icmpgt (tgt := 131) X dX9_holds_78 (by decide) (fun h78 => ?_) (fun h78 => ?_)
                · skip
                  rw [xb_gt (x := nI n) (y := nI w) (a := n) (b := w) rfl rfl (by omega) (by omega)] at h78
                  rw [show n = w + 1 by omega] at his
                  refine x_iload_n X dX9_holds_131 rfl ?_
                  refine x_ifne (tgt := 139) X dX9_holds_132 (by decide) (fun h132 => ?_) (fun h132 => ?_)
                  · skip
                    have hq : qKa σ w j V (w + 1) := Classical.not_not.mp (fun z => h132 (by rw [his, xB_f z]))
                    refine x_aload_n X dX9_holds_139 rfl ?_
                    refine x_iload_n X dX9_holds_140 rfl ?_
                    refine x_iload_n X dX9_holds_141 rfl ?_
                    refine cv_X9_245 X (c_X9_sum (by omega) (by omega) ((xgI_n (by decide)).trans hV) hV8) dX9_holds_142 rfl ⟨by decide, by decide, by decide, by decide⟩ rfl rfl (Nat.le_of_ble_eq_true rfl) (xk_l ?_)
                    rw [qSumR_0]
                    refine x_aload_n X dX9_holds_145 rfl ?_
                    refine gf_X9_63 (k' := 53) X dX9_holds_146 rfl rfl ?_
                    refine x_iload_n X dX9_holds_149 rfl ?_
                    refine x_laldN X dX9_holds_150 rfl (by omega) (by omega) ?_
                    refine x_lcmp X dX9_holds_151 ?_
                    refine x_ifgt (tgt := 159) X dX9_holds_152 (by decide) (fun h152 => ?_) (fun h152 => ?_)
                    · skip
                      rw [lg_cmp_gt] at h152
                      refine x_iconst (v := nI 0) X dX9_holds_159 (by decide) ?_
                      exact x_iret X dX9_holds_160 (xp_i (by unfold qHolds; first | (rw [if_neg hq]; rfl) | (rw [if_pos hq]; exact (xB_f (xi64_nle.mpr h152)).symm) | (rw [if_pos hq]; exact (xB_t (Classical.not_not.mp (fun q => h152 (xi64_nle.mp q)))).symm)) (by first | rfl | simp [*]))
                    · skip
                      rw [lg_cmp_gt] at h152
                      refine x_iconst (v := nI 1) X dX9_holds_155 (by decide) ?_
                      refine x_goto (tgt := 160) X dX9_holds_156 (by decide) ?_
                      exact x_iret X dX9_holds_160 (xp_i (by unfold qHolds; first | (rw [if_neg hq]; rfl) | (rw [if_pos hq]; exact (xB_f (xi64_nle.mpr h152)).symm) | (rw [if_pos hq]; exact (xB_t (Classical.not_not.mp (fun q => h152 (xi64_nle.mp q)))).symm)) (by first | rfl | simp [*]))
                  · skip
                    have hq : ¬ qKa σ w j V (w + 1) := xB_0.mp (his ▸ h132)
                    refine x_iconst (v := nI 2) X dX9_holds_135 (by decide) ?_
                    refine x_goto (tgt := 160) X dX9_holds_136 (by decide) ?_
                    exact x_iret X dX9_holds_160 (xp_i (by unfold qHolds; first | (rw [if_neg hq]; rfl) | (rw [if_pos hq]; exact (xB_f (xi64_nle.mpr h152)).symm) | (rw [if_pos hq]; exact (xB_t (Classical.not_not.mp (fun q => h152 (xi64_nle.mp q)))).symm)) (by first | rfl | simp [*]))
                · skip
                  rw [xb_gt (x := nI n) (y := nI w) (a := n) (b := w) rfl rfl (by omega) (by omega)] at h78
                  refine x_iload_n X dX9_holds_81 rfl ?_
                  refine x_ifeq (tgt := 123) X dX9_holds_82 (by decide) (fun h82 => ?_) (fun h82 => ?_)
                  · skip
                    have his9 : nI 0 = xB (qKa σ w j V (n + 1)) := (xB_f (fun z => (xB_0.mp (his ▸ h82)) ⟨z.1, fun b hb => z.2 b (by omega)⟩)).symm
                    refine x_iconst (v := nI 0) X dX9_holds_123 (by decide) ?_
                    refine x_istore_n (lv' := [(3, .int (nI 0)), (4, .int (nI n)), (2, .int (nI j)), (1, .int (nI w)), (0, .ref (G.2.1 37))]) X dX9_holds_124 rfl (by decide) rfl ?_
                    refine x_iinc (k := 1) (v := nI (n + 1)) (lv' := [(4, .int (nI (n + 1))), (3, .int (nI 0)), (2, .int (nI j)), (1, .int (nI w)), (0, .ref (G.2.1 37))]) X dX9_holds_125 rfl (xn_inc _) (by decide) rfl ?_
                    refine x_goto (tgt := 75) X dX9_holds_128 (by decide) ?_
                    refine x_pick [0, 1, 2, 3, 4] rfl ?_
                    exact ih75 _ (by omega) (n + 1) (by omega) _ his9 rfl
                  · skip
                    have hq : qKa σ w j V n := Classical.not_not.mp (fun z => h82 (by rw [his, xB_f z]))
                    refine x_aload_n X dX9_holds_85 rfl ?_
                    refine gf_X9_74 (k' := 56) X dX9_holds_86 rfl rfl ?_
                    refine x_sipush (v := nI 200) X dX9_holds_89 (by decide) ?_
                    refine x_iload_n X dX9_holds_92 rfl ?_
                    refine x_imul X dX9_holds_93 ?_
                    rw [pk_mul 200 w]
                    refine x_iload X dX9_holds_94 rfl ?_
                    refine x_iadd X dX9_holds_96 ?_
                    rw [nI_add (200 * w) n]
                    refine x_zaldN X dX9_holds_97 rfl (by omega) (by omega) ?_
                    rw [xgI_n (by omega)]
                    refine x_ifeq (tgt := 119) X dX9_holds_98 (by decide) (fun h98 => ?_) (fun h98 => ?_)
                    · skip
                      have his9 : nI 1 = xB (qKa σ w j V (n + 1)) := (xB_t ⟨hq.1, lt_s hq.2 (fun z => absurd h98 z)⟩).symm
                      refine x_iconst (v := nI 1) X dX9_holds_119 (by decide) ?_
                      refine x_goto (tgt := 124) X dX9_holds_120 (by decide) ?_
                      refine x_istore_n (lv' := [(3, .int (nI 1)), (4, .int (nI n)), (2, .int (nI j)), (1, .int (nI w)), (0, .ref (G.2.1 37))]) X dX9_holds_124 rfl (by decide) rfl ?_
                      refine x_iinc (k := 1) (v := nI (n + 1)) (lv' := [(4, .int (nI (n + 1))), (3, .int (nI 1)), (2, .int (nI j)), (1, .int (nI w)), (0, .ref (G.2.1 37))]) X dX9_holds_125 rfl (xn_inc _) (by decide) rfl ?_
                      refine x_goto (tgt := 75) X dX9_holds_128 (by decide) ?_
                      refine x_pick [0, 1, 2, 3, 4] rfl ?_
                      exact ih75 _ (by omega) (n + 1) (by omega) _ his9 rfl
                    · skip
                      refine x_aload_n X dX9_holds_101 rfl ?_
                      refine x_iload X dX9_holds_102 rfl ?_
                      refine x_iload_n X dX9_holds_104 rfl ?_
                      refine cv_X9_245 X (c_X9_sum (by omega) (by omega) ((xgI_n (by decide)).trans hV) hV8) dX9_holds_105 rfl ⟨by decide, by decide, by decide, by decide⟩ rfl rfl (Nat.le_of_ble_eq_true rfl) (xk_l ?_)
                      rw [qSumR_0]
                      refine x_aload_n X dX9_holds_108 rfl ?_
                      refine gf_X9_63 (k' := 53) X dX9_holds_109 rfl rfl ?_
                      refine x_iload X dX9_holds_112 rfl ?_
                      refine x_laldN X dX9_holds_114 rfl (by omega) (by omega) ?_
                      refine x_lcmp X dX9_holds_115 ?_
                      refine x_ifgt (tgt := 123) X dX9_holds_116 (by decide) (fun h116 => ?_) (fun h116 => ?_)
                      · skip
                        rw [lg_cmp_gt] at h116
                        have his9 : nI 0 = xB (qKa σ w j V (n + 1)) := (xB_f (fun z => xi64_nle.mpr h116 (z.2 n (by omega) h98))).symm
                        refine x_iconst (v := nI 0) X dX9_holds_123 (by decide) ?_
                        refine x_istore_n (lv' := [(3, .int (nI 0)), (4, .int (nI n)), (2, .int (nI j)), (1, .int (nI w)), (0, .ref (G.2.1 37))]) X dX9_holds_124 rfl (by decide) rfl ?_
                        refine x_iinc (k := 1) (v := nI (n + 1)) (lv' := [(4, .int (nI (n + 1))), (3, .int (nI 0)), (2, .int (nI j)), (1, .int (nI w)), (0, .ref (G.2.1 37))]) X dX9_holds_125 rfl (xn_inc _) (by decide) rfl ?_
                        refine x_goto (tgt := 75) X dX9_holds_128 (by decide) ?_
                        refine x_pick [0, 1, 2, 3, 4] rfl ?_
                        exact ih75 _ (by omega) (n + 1) (by omega) _ his9 rfl
                      · skip
                        rw [lg_cmp_gt] at h116
                        have his9 : nI 1 = xB (qKa σ w j V (n + 1)) := (xB_t ⟨hq.1, lt_s hq.2 (fun _ => Classical.not_not.mp (fun q => h116 (xi64_nle.mp q)))⟩).symm
                        refine x_iconst (v := nI 1) X dX9_holds_119 (by decide) ?_
                        refine x_goto (tgt := 124) X dX9_holds_120 (by decide) ?_
                        refine x_istore_n (lv' := [(3, .int (nI 1)), (4, .int (nI n)), (2, .int (nI j)), (1, .int (nI w)), (0, .ref (G.2.1 37))]) X dX9_holds_124 rfl (by decide) rfl ?_
                        refine x_iinc (k := 1) (v := nI (n + 1)) (lv' := [(4, .int (nI (n + 1))), (3, .int (nI 1)), (2, .int (nI j)), (1, .int (nI w)), (0, .ref (G.2.1 37))]) X dX9_holds_125 rfl (xn_inc _) (by decide) rfl ?_
                        refine x_goto (tgt := 75) X dX9_holds_128 (by decide) ?_
                        refine x_pick [0, 1, 2, 3, 4] rfl ?_
                        exact ih75 _ (by omega) (n + 1) (by omega) _ his9 rfl
            refine x_pick [0, 1, 4, 3, 2] rfl ?_
            exact lp75 _ 0 (by omega) _ hi0 rfl
      · skip
        exact absurd (by decide) h37
    · skip
      exact absurd ⟨j, hj, rfl⟩ (xB_0.mp h26)
