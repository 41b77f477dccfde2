/-! The reference: the rows that it makes; n is the row that is made -/
/-- all as before but in row n (and its assumptions) -/
def qOff (n : Nat) (σ τ : xS) : Prop := (∀ a b, a ≠ 54 → a ≠ 56 → xgI τ a b = xgI σ a b) ∧ (∀ b, b ≠ n → xgI τ 54 b = xgI σ 54 b) ∧ (∀ b, (b < 200 * n ∨ 200 * n + 200 ≤ b) → xgI τ 56 b = xgI σ 56 b) ∧ (∀ a b, a ≠ 52 → a ≠ 53 → a ≠ 55 → xgL τ a b = xgL σ a b) ∧ (∀ b, (b < 8 * n ∨ 8 * n + 8 ≤ b) → xgL τ 52 b = xgL σ 52 b) ∧ (∀ b, b ≠ n → xgL τ 53 b = xgL σ 53 b ∧ xgL τ 55 b = xgL σ 55 b) ∧ xgC τ = xgC σ ∧ xgD τ = xgD σ
theorem qOff.rf {n : Nat} {σ : xS} : qOff n σ σ := ⟨fun _ _ _ _ => rfl, fun _ _ => rfl, fun _ _ => rfl, fun _ _ _ _ _ => rfl, fun _ _ => rfl, fun _ _ => ⟨rfl, rfl⟩, rfl, rfl⟩
theorem qOff.tr {n : Nat} {σ τ ρ : xS} (h : qOff n σ τ) (k : qOff n τ ρ) : qOff n σ ρ := ⟨fun a b h1 h2 => (k.1 a b h1 h2).trans (h.1 a b h1 h2), fun b hb => (k.2.1 b hb).trans (h.2.1 b hb), fun b hb => (k.2.2.1 b hb).trans (h.2.2.1 b hb), fun a b h1 h2 h3 => (k.2.2.2.1 a b h1 h2 h3).trans (h.2.2.2.1 a b h1 h2 h3), fun b hb => (k.2.2.2.2.1 b hb).trans (h.2.2.2.2.1 b hb), fun b hb => ⟨((k.2.2.2.2.2.1 b hb).1).trans (h.2.2.2.2.2.1 b hb).1, ((k.2.2.2.2.2.1 b hb).2).trans (h.2.2.2.2.2.1 b hb).2⟩, k.2.2.2.2.2.2.1.trans h.2.2.2.2.2.2.1, k.2.2.2.2.2.2.2.trans h.2.2.2.2.2.2.2⟩
theorem qOff.f {n v : Nat} {σ : xS} {x : Int64} (hv : v < 8) : qOff n σ (xsL σ 52 (8 * n + v) x) := ⟨fun _ _ _ _ => rfl, fun _ _ => rfl, fun _ _ => rfl, fun _ _ h _ _ => xgL_n (fun q => h q.1), fun b hb => xgL_n (by omega), fun b hb => ⟨xgL_n (by omega), xgL_n (by omega)⟩, rfl, rfl⟩
theorem qOff.r {n : Nat} {σ : xS} {x : Int64} : qOff n σ (xsL σ 53 n x) := ⟨fun _ _ _ _ => rfl, fun _ _ => rfl, fun _ _ => rfl, fun _ _ _ h _ => xgL_n (fun q => h q.1), fun b hb => xgL_n (by omega), fun b hb => ⟨xgL_n (by omega), xgL_n (by omega)⟩, rfl, rfl⟩
theorem qOff.l {n : Nat} {σ : xS} {x : Int64} : qOff n σ (xsL σ 55 n x) := ⟨fun _ _ _ _ => rfl, fun _ _ => rfl, fun _ _ => rfl, fun _ _ _ _ h => xgL_n (fun q => h q.1), fun b hb => xgL_n (by omega), fun b hb => ⟨xgL_n (by omega), xgL_n (by omega)⟩, rfl, rfl⟩
theorem qOff.h {n : Nat} {σ : xS} {x : Int32} : qOff n σ (xsI σ 54 n x) := ⟨fun _ _ h _ => xgI_n (fun q => h q.1), fun b hb => xgI_n (by omega), fun b hb => xgI_n (by omega), fun _ _ _ _ _ => rfl, fun _ _ => rfl, fun _ _ => ⟨rfl, rfl⟩, rfl, rfl⟩
theorem qOff.a {n b : Nat} {σ : xS} {x : Int32} (hb : b < 200) : qOff n σ (xsI σ 56 (200 * n + b) x) := ⟨fun _ _ _ h => xgI_n (fun q => h q.1), fun b hb => xgI_n (by omega), fun b hb => xgI_n (by omega), fun _ _ _ _ _ => rfl, fun _ _ => rfl, fun _ _ => ⟨rfl, rfl⟩, rfl, rfl⟩
theorem qAss_off {σ : xS} {n o : Nat} {but : Int32} : ∀ k, k ≤ 200 → qOff n σ (qAss σ n o but k)
  | 0, _ => qOff.rf
  | k + 1, h => (qAss_off k (by omega)).tr (qOff.a (by omega))
theorem qLim_off {σ : xS} {n o : Nat} : qOff n σ (qLim σ n o) := by
  unfold qLim
  split
  · exact qOff.rf
  · exact qOff.l.tr qOff.h
theorem qAssumes_off {σ : xS} {n o : Nat} {but : Int32} (hn : n ≤ 200) : qOff n σ (qAssumes σ n o but) := (qAss_off n hn).tr qLim_off
def qTl (σ : xS) (n : Nat) (g : Nat → Int64) : Nat → xS
  | 0 => σ
  | k + 1 => xsL (qTl σ n g k) 53 n (if k = 0 then g k else if g k ≤ xgL (qTl σ n g k) 53 n then xgL (qTl σ n g k) 53 n else g k)
theorem qTl_off {σ : xS} {n : Nat} {g : Nat → Int64} : ∀ k, qOff n σ (qTl σ n g k)
  | 0 => qOff.rf
  | k + 1 => (qTl_off k).tr qOff.r
theorem qTl_I {σ : xS} {n : Nat} {g : Nat → Int64} (a b : Nat) : ∀ k, xgI (qTl σ n g k) a b = xgI σ a b
  | 0 => rfl
  | k + 1 => qTl_I a b k
def qTg (σ : xS) (t f : Nat) (k : Nat) : Int64 := (xgI σ 50 (f + 2)).toInt64 * (xgI σ 47 (20 * t + k)).toInt64 + (xgI σ 50 (f + 3)).toInt64 * (xgI σ 48 (20 * t + k)).toInt64
def qTab (σ : xS) (n t f a b P : Nat) : xS := qTl (xsL (xsL σ 52 (8 * n + a) (xgI σ 50 (f + 2)).toInt64) 52 (8 * n + b) (xgI σ 50 (f + 3)).toInt64) n (qTg σ t f) P
def qDv (σ : xS) (n r : Nat) (d : Int64) : Nat → xS
  | 0 => σ
  | k + 1 => xsL (qDv σ n r d k) 52 (8 * n + k) (xgL σ 52 (8 * r + k) / d)
theorem qDv_off {σ : xS} {n r : Nat} {d : Int64} : ∀ k, k ≤ 8 → qOff n σ (qDv σ n r d k)
  | 0, _ => qOff.rf
  | k + 1, h => (qDv_off k (by omega)).tr (qOff.f (by omega))
def qDivs (σ : xS) (r V : Nat) (d : Int64) : Prop := ∀ v, v < V → xgL σ 52 (8 * r + v) - xgL σ 52 (8 * r + v) / d * d = 0
def qDone (σ : xS) (n r V : Nat) (d : Int64) : xS := qAssumes (xsL (qDv σ n r d V) 53 n (qDown (xgL (qDv σ n r d V) 53 r) d)) n r (-1)
def qRest (σ : xS) (r w : Nat) : Nat → Int64
  | 0 => xgL σ 53 r
  | k + 1 => if k = w then qRest σ r w k else qRest σ r w k - (if xgL σ 52 (8 * r + k) * (xgI σ 40 k).toInt64 ≤ xgL σ 52 (8 * r + k) * (xgI σ 39 k).toInt64 then xgL σ 52 (8 * r + k) * (xgI σ 40 k).toInt64 else xgL σ 52 (8 * r + k) * (xgI σ 39 k).toInt64)
def qPush (σ : xS) (n r w V : Nat) : Int32 × xS := if xgL σ 52 (8 * r + w) = 0 then (5, σ) else if xgL σ 52 (8 * r + w) ≤ 0 then (0, qAssumes (xsL (xsL σ 52 (8 * n + w) (-1)) 53 n (qDown (qRest σ r w V) (-xgL σ 52 (8 * r + w)))) n r (-1)) else (0, qAssumes (xsL (xsL σ 52 (8 * n + w) 1) 53 n (qDown (qRest σ r w V) (xgL σ 52 (8 * r + w)))) n r (-1))

set_option maxHeartbeats 4000000 in
set_option maxRecDepth 100000 in
theorem c_X9_assumes {l : Launch} {G : xG} {σ : xS} {n o : Nat} {bt : Int32} (hn : n < 200) (ho : o < 200) : xFv l G yX9_assumes cX9_assumes 5 (Option.none : Option Jvm.ClassFile.FieldType) 0 0 [.ref (G.2.1 37), .int (nI n), .int (nI o), .int bt] σ (qAssumes σ n o bt) := by
  refine xM.of (by decide) (Nat.le_of_ble_eq_true rfl) (fun pp ee ss mm aa bel met kk X => ?_)
  have X : xC pp ss mm met kk cX9_assumes 5 RX9 (Option.none : Option Jvm.ClassFile.FieldType) G := X
  show xW pp l ee { frames := 0, cells := 0, slots := 0, locals := 0 } ss mm aa bel met kk 5 G 0 0 (xQ bel G (fun rv_ tv_ => rv_ = none ∧ tv_ = (qAssumes σ n o bt)) aa ss) 0 [(0, .ref (G.2.1 37)), (1, .int (nI n)), (2, .int (nI o)), (3, .int bt)] [] σ
  refine x_iconst (v := nI 0) X dX9_assumes_0 (by decide) ?_
  refine x_istore (lv' := [(4, .int (nI 0)), (0, .ref (G.2.1 37)), (1, .int (nI n)), (2, .int (nI o)), (3, .int bt)]) X dX9_assumes_1 (by decide) rfl ?_
  have lp3 : ∀ (NN3 : Nat) (b : Nat) (hb : b ≤ n), n - b = NN3 → xW pp l ee { frames := 0, cells := 0, slots := 0, locals := 0 } ss mm aa bel met kk 5 G 0 0 (xQ bel G (fun rv_ tv_ => rv_ = none ∧ tv_ = (qAssumes σ n o bt)) aa ss) 3 [(4, .int (nI b)), (3, .int bt), (2, .int (nI o)), (1, .int (nI n)), (0, .ref (G.2.1 37))] [] (qAss σ n o bt b) := by
    intro NN3
    induction NN3 using Nat.strongRecOn with
    | ind NN3 ih3 =>
      intro b hb hNN3
      refine x_iload X dX9_assumes_3 rfl ?_
      refine x_iload_n X dX9_assumes_5 rfl ?_
      refine x_icmpge (tgt := 71) X dX9_assumes_6 (by decide) (fun h6 => ?_) (fun h6 => ?_)
      · skip
        rw [xb_ge (x := nI b) (y := nI n) (a := b) (b := n) rfl rfl (by omega) (by omega)] at h6
        obtain ⟨τ, hτ⟩ : ∃ z : xS, z = qAss σ n o bt n := ⟨_, rfl⟩
        have hbn : b = n := by omega
        rw [show qAss σ n o bt b = τ by rw [hbn, hτ]]
        refine x_aload_n X dX9_assumes_71 rfl ?_
        refine gf_X9_66 (k' := 54) X dX9_assumes_72 rfl rfl ?_
        refine x_iload_n X dX9_assumes_75 rfl ?_
        refine x_zaldN X dX9_assumes_76 rfl (by omega) (by omega) ?_
        refine x_ifeq (tgt := 133) X dX9_assumes_77 (by decide) (fun h77 => ?_) (fun h77 => ?_)
        · skip
          exact x_vret X dX9_assumes_133 (⟨rfl, by unfold qAssumes; rw [← hτ]; unfold qLim; first | exact (if_pos h77).symm | (rw [if_neg h77, if_pos h91]; rfl) | (rw [if_neg h77, if_neg h91, if_pos h107]; rfl) | (rw [if_neg h77, if_neg h91, if_neg h107]; rfl)⟩)
        · skip
          refine x_aload_n X dX9_assumes_80 rfl ?_
          refine gf_X9_70 (k' := 55) X dX9_assumes_81 rfl rfl ?_
          refine x_iload_n X dX9_assumes_84 rfl ?_
          refine x_aload_n X dX9_assumes_85 rfl ?_
          refine gf_X9_66 (k' := 54) X dX9_assumes_86 rfl rfl ?_
          refine x_iload_n X dX9_assumes_89 rfl ?_
          refine x_zaldN X dX9_assumes_90 rfl (by omega) (by omega) ?_
          refine x_ifeq (tgt := 119) X dX9_assumes_91 (by decide) (fun h91 => ?_) (fun h91 => ?_)
          · skip
            refine x_aload_n X dX9_assumes_119 rfl ?_
            refine gf_X9_70 (k' := 55) X dX9_assumes_120 rfl rfl ?_
            refine x_iload_n X dX9_assumes_123 rfl ?_
            refine x_laldN X dX9_assumes_124 rfl (by omega) (by omega) ?_
            refine x_lastN X dX9_assumes_125 rfl (by omega) (by omega) ?_
            refine x_aload_n X dX9_assumes_126 rfl ?_
            refine gf_X9_66 (k' := 54) X dX9_assumes_127 rfl rfl ?_
            refine x_iload_n X dX9_assumes_130 rfl ?_
            refine x_iconst (v := nI 1) X dX9_assumes_131 (by decide) ?_
            refine x_zastN X dX9_assumes_132 rfl (by omega) (by omega) (Or.inr rfl) ?_
            exact x_vret X dX9_assumes_133 (⟨rfl, by unfold qAssumes; rw [← hτ]; unfold qLim; first | exact (if_pos h77).symm | (rw [if_neg h77, if_pos h91]; rfl) | (rw [if_neg h77, if_neg h91, if_pos h107]; rfl) | (rw [if_neg h77, if_neg h91, if_neg h107]; rfl)⟩)
          · skip
            refine x_aload_n X dX9_assumes_94 rfl ?_
            refine gf_X9_70 (k' := 55) X dX9_assumes_95 rfl rfl ?_
            refine x_iload_n X dX9_assumes_98 rfl ?_
            refine x_laldN X dX9_assumes_99 rfl (by omega) (by omega) ?_
            refine x_aload_n X dX9_assumes_100 rfl ?_
            refine gf_X9_70 (k' := 55) X dX9_assumes_101 rfl rfl ?_
            refine x_iload_n X dX9_assumes_104 rfl ?_
            refine x_laldN X dX9_assumes_105 rfl (by omega) (by omega) ?_
            refine x_lcmp X dX9_assumes_106 ?_
            refine x_ifge (tgt := 119) X dX9_assumes_107 (by decide) (fun h107 => ?_) (fun h107 => ?_)
            · skip
              rw [lg_cmp_ge] at h107
              refine x_aload_n X dX9_assumes_119 rfl ?_
              refine gf_X9_70 (k' := 55) X dX9_assumes_120 rfl rfl ?_
              refine x_iload_n X dX9_assumes_123 rfl ?_
              refine x_laldN X dX9_assumes_124 rfl (by omega) (by omega) ?_
              refine x_lastN X dX9_assumes_125 rfl (by omega) (by omega) ?_
              refine x_aload_n X dX9_assumes_126 rfl ?_
              refine gf_X9_66 (k' := 54) X dX9_assumes_127 rfl rfl ?_
              refine x_iload_n X dX9_assumes_130 rfl ?_
              refine x_iconst (v := nI 1) X dX9_assumes_131 (by decide) ?_
              refine x_zastN X dX9_assumes_132 rfl (by omega) (by omega) (Or.inr rfl) ?_
              exact x_vret X dX9_assumes_133 (⟨rfl, by unfold qAssumes; rw [← hτ]; unfold qLim; first | exact (if_pos h77).symm | (rw [if_neg h77, if_pos h91]; rfl) | (rw [if_neg h77, if_neg h91, if_pos h107]; rfl) | (rw [if_neg h77, if_neg h91, if_neg h107]; rfl)⟩)
            · skip
              rw [lg_cmp_ge] at h107
              refine x_aload_n X dX9_assumes_110 rfl ?_
              refine gf_X9_70 (k' := 55) X dX9_assumes_111 rfl rfl ?_
              refine x_iload_n X dX9_assumes_114 rfl ?_
              refine x_laldN X dX9_assumes_115 rfl (by omega) (by omega) ?_
              refine x_goto (tgt := 125) X dX9_assumes_116 (by decide) ?_
              refine x_lastN X dX9_assumes_125 rfl (by omega) (by omega) ?_
              refine x_aload_n X dX9_assumes_126 rfl ?_
              refine gf_X9_66 (k' := 54) X dX9_assumes_127 rfl rfl ?_
              refine x_iload_n X dX9_assumes_130 rfl ?_
              refine x_iconst (v := nI 1) X dX9_assumes_131 (by decide) ?_
              refine x_zastN X dX9_assumes_132 rfl (by omega) (by omega) (Or.inr rfl) ?_
              exact x_vret X dX9_assumes_133 (⟨rfl, by unfold qAssumes; rw [← hτ]; unfold qLim; first | exact (if_pos h77).symm | (rw [if_neg h77, if_pos h91]; rfl) | (rw [if_neg h77, if_neg h91, if_pos h107]; rfl) | (rw [if_neg h77, if_neg h91, if_neg h107]; rfl)⟩)
      · skip
        rw [xb_ge (x := nI b) (y := nI n) (a := b) (b := n) rfl rfl (by omega) (by omega)] at h6
        refine x_aload_n X dX9_assumes_9 rfl ?_
        refine gf_X9_74 (k' := 56) X dX9_assumes_10 rfl rfl ?_
        refine x_sipush (v := nI 200) X dX9_assumes_13 (by decide) ?_
        refine x_iload_n X dX9_assumes_16 rfl ?_
        refine x_imul X dX9_assumes_17 ?_
        rw [pk_mul 200 n]
        refine x_iload X dX9_assumes_18 rfl ?_
        refine x_iadd X dX9_assumes_20 ?_
        rw [nI_add (200 * n) b]
        refine x_aload_n X dX9_assumes_21 rfl ?_
        refine gf_X9_74 (k' := 56) X dX9_assumes_22 rfl rfl ?_
        refine x_sipush (v := nI 200) X dX9_assumes_25 (by decide) ?_
        refine x_iload_n X dX9_assumes_28 rfl ?_
        refine x_imul X dX9_assumes_29 ?_
        rw [pk_mul 200 n]
        refine x_iload X dX9_assumes_30 rfl ?_
        refine x_iadd X dX9_assumes_32 ?_
        rw [nI_add (200 * n) b]
        refine x_zaldN X dX9_assumes_33 rfl (by omega) (by omega) ?_
        refine x_ifne (tgt := 59) X dX9_assumes_34 (by decide) (fun h34 => ?_) (fun h34 => ?_)
        · skip
          have hse : xsI (qAss σ n o bt b) 56 (200 * n + b) (nI 1) = qAss σ n o bt (b + 1) := by rw [qAss, if_neg h34]; rfl
          refine x_iconst (v := nI 1) X dX9_assumes_59 (by decide) ?_
          refine x_goto (tgt := 64) X dX9_assumes_60 (by decide) ?_
          refine x_zastN X dX9_assumes_64 rfl (by omega) (by omega) (Or.inr rfl) ?_
          rw [hse]
          refine x_iinc (k := 0) (v := nI (b + 1)) (lv' := [(4, .int (nI (b + 1))), (3, .int bt), (2, .int (nI o)), (1, .int (nI n)), (0, .ref (G.2.1 37))]) X dX9_assumes_65 rfl (xn_inc _) (by decide) rfl ?_
          refine x_goto (tgt := 3) X dX9_assumes_68 (by decide) ?_
          refine x_pick [0, 1, 2, 3, 4] rfl ?_
          exact ih3 _ (by omega) (b + 1) (by omega) rfl
        · skip
          refine x_aload_n X dX9_assumes_37 rfl ?_
          refine gf_X9_74 (k' := 56) X dX9_assumes_38 rfl rfl ?_
          refine x_sipush (v := nI 200) X dX9_assumes_41 (by decide) ?_
          refine x_iload_n X dX9_assumes_44 rfl ?_
          refine x_imul X dX9_assumes_45 ?_
          rw [pk_mul 200 o]
          refine x_iload X dX9_assumes_46 rfl ?_
          refine x_iadd X dX9_assumes_48 ?_
          rw [nI_add (200 * o) b]
          refine x_zaldN X dX9_assumes_49 rfl (by omega) (by omega) ?_
          refine x_ifeq (tgt := 63) X dX9_assumes_50 (by decide) (fun h50 => ?_) (fun h50 => ?_)
          · skip
            have hse : xsI (qAss σ n o bt b) 56 (200 * n + b) (nI 0) = qAss σ n o bt (b + 1) := by rw [qAss, if_pos h34, if_pos h50]; rfl
            refine x_iconst (v := nI 0) X dX9_assumes_63 (by decide) ?_
            refine x_zastN X dX9_assumes_64 rfl (by omega) (by omega) (Or.inl rfl) ?_
            rw [hse]
            refine x_iinc (k := 0) (v := nI (b + 1)) (lv' := [(4, .int (nI (b + 1))), (3, .int bt), (2, .int (nI o)), (1, .int (nI n)), (0, .ref (G.2.1 37))]) X dX9_assumes_65 rfl (xn_inc _) (by decide) rfl ?_
            refine x_goto (tgt := 3) X dX9_assumes_68 (by decide) ?_
            refine x_pick [0, 1, 2, 3, 4] rfl ?_
            exact ih3 _ (by omega) (b + 1) (by omega) rfl
          · skip
            refine x_iload X dX9_assumes_53 rfl ?_
            refine x_iload_n X dX9_assumes_55 rfl ?_
            refine x_icmpeq (tgt := 63) X dX9_assumes_56 (by decide) (fun h56 => ?_) (fun h56 => ?_)
            · skip
              have hse : xsI (qAss σ n o bt b) 56 (200 * n + b) (nI 0) = qAss σ n o bt (b + 1) := by rw [qAss, if_pos h34, if_neg h50, if_pos h56]; rfl
              refine x_iconst (v := nI 0) X dX9_assumes_63 (by decide) ?_
              refine x_zastN X dX9_assumes_64 rfl (by omega) (by omega) (Or.inl rfl) ?_
              rw [hse]
              refine x_iinc (k := 0) (v := nI (b + 1)) (lv' := [(4, .int (nI (b + 1))), (3, .int bt), (2, .int (nI o)), (1, .int (nI n)), (0, .ref (G.2.1 37))]) X dX9_assumes_65 rfl (xn_inc _) (by decide) rfl ?_
              refine x_goto (tgt := 3) X dX9_assumes_68 (by decide) ?_
              refine x_pick [0, 1, 2, 3, 4] rfl ?_
              exact ih3 _ (by omega) (b + 1) (by omega) rfl
            · skip
              have hse : xsI (qAss σ n o bt b) 56 (200 * n + b) (nI 1) = qAss σ n o bt (b + 1) := by rw [qAss, if_pos h34, if_neg h50, if_neg h56]; rfl
              refine x_iconst (v := nI 1) X dX9_assumes_59 (by decide) ?_
              refine x_goto (tgt := 64) X dX9_assumes_60 (by decide) ?_
              refine x_zastN X dX9_assumes_64 rfl (by omega) (by omega) (Or.inr rfl) ?_
              rw [hse]
              refine x_iinc (k := 0) (v := nI (b + 1)) (lv' := [(4, .int (nI (b + 1))), (3, .int bt), (2, .int (nI o)), (1, .int (nI n)), (0, .ref (G.2.1 37))]) X dX9_assumes_65 rfl (xn_inc _) (by decide) rfl ?_
              refine x_goto (tgt := 3) X dX9_assumes_68 (by decide) ?_
              refine x_pick [0, 1, 2, 3, 4] rfl ?_
              exact ih3 _ (by omega) (b + 1) (by omega) rfl
  refine x_pick [0, 4, 3, 2, 1] rfl ?_
  exact lp3 _ 0 (by omega) rfl

set_option maxHeartbeats 4000000 in
set_option maxRecDepth 100000 in
theorem c_X9_table {l : Launch} {G : xG} {σ : xS} {n f t0 a b P : Nat} (hn : n < 200) (hf : xgI σ 37 25 = nI f) (hf2 : f + 4 ≤ 1500) (ht : xgI σ 50 (f + 1) = nI t0) (ht2 : t0 < 4) (ha : xgI σ 44 t0 = nI a) (ha8 : a < 8) (hb : xgI σ 45 t0 = nI b) (hb8 : b < 8) (hP : xgI σ 46 t0 = nI P) (hP2 : P ≤ 20) : xFv l G yX9_table cX9_table 6 (Option.none : Option Jvm.ClassFile.FieldType) 1 24 [.ref (G.2.1 37), .int (nI n)] σ (qTab σ n t0 f a b P) := by
  refine xM.of (by decide) (Nat.le_of_ble_eq_true rfl) (fun pp ee ss mm aa bel met kk X => ?_)
  have X : xC pp ss mm met kk cX9_table 6 RX9 (Option.none : Option Jvm.ClassFile.FieldType) G := X
  show xW pp l ee { frames := 1, cells := 0, slots := 0, locals := 24 } ss mm aa bel met kk 6 G 0 0 (xQ bel G (fun rv_ tv_ => rv_ = none ∧ tv_ = (qTab σ n t0 f a b P)) aa ss) 0 [(0, .ref (G.2.1 37)), (1, .int (nI n))] [] σ
  refine x_aload_n X dX9_table_0 rfl ?_
  refine x_iconst (v := nI 1) X dX9_table_1 (by decide) ?_
  refine cv_X9_187 X (c_X9_of (k := 1) hf (by omega)) dX9_table_2 rfl ⟨by decide, by decide, by decide, by decide⟩ rfl rfl (Nat.le_of_ble_eq_true rfl) (xk_i ?_)
  rw [ht]
  refine x_istore_n (lv' := [(2, .int (nI t0)), (0, .ref (G.2.1 37)), (1, .int (nI n))]) X dX9_table_5 rfl (by decide) rfl ?_
  refine x_aload_n X dX9_table_6 rfl ?_
  refine x_iload_n X dX9_table_7 rfl ?_
  refine x_aload_n X dX9_table_8 rfl ?_
  refine gf_X9_28 (k' := 44) X dX9_table_9 rfl rfl ?_
  refine x_iload_n X dX9_table_12 rfl ?_
  refine x_ialdN X dX9_table_13 rfl (by omega) (by omega) ?_
  rw [ha]
  refine x_aload_n X dX9_table_14 rfl ?_
  refine x_iconst (v := nI 2) X dX9_table_15 (by decide) ?_
  refine cv_X9_187 X (c_X9_of (k := 2) hf (by omega)) dX9_table_16 rfl ⟨by decide, by decide, by decide, by decide⟩ rfl rfl (Nat.le_of_ble_eq_true rfl) (xk_i ?_)
  refine x_i2l X dX9_table_19 ?_
  refine cv_X9_200 X (c_X9_says hn ha8) dX9_table_20 rfl ⟨by decide, by decide, by decide, by decide⟩ rfl rfl (Nat.le_of_ble_eq_true rfl) (xk_v ?_)
  refine x_aload_n X dX9_table_23 rfl ?_
  refine x_iload_n X dX9_table_24 rfl ?_
  refine x_aload_n X dX9_table_25 rfl ?_
  refine gf_X9_31 (k' := 45) X dX9_table_26 rfl rfl ?_
  refine x_iload_n X dX9_table_29 rfl ?_
  refine x_ialdN X dX9_table_30 rfl (by omega) (by omega) ?_
  rw [xgI_L, hb]
  refine x_aload_n X dX9_table_31 rfl ?_
  refine x_iconst (v := nI 3) X dX9_table_32 (by decide) ?_
  refine cv_X9_187 X (c_X9_of (k := 3) hf (by omega)) dX9_table_33 rfl ⟨by decide, by decide, by decide, by decide⟩ rfl rfl (Nat.le_of_ble_eq_true rfl) (xk_i ?_)
  rw [xgI_L]
  refine x_i2l X dX9_table_36 ?_
  refine cv_X9_200 X (c_X9_says hn hb8) dX9_table_37 rfl ⟨by decide, by decide, by decide, by decide⟩ rfl rfl (Nat.le_of_ble_eq_true rfl) (xk_v ?_)
  refine x_iconst (v := nI 0) X dX9_table_40 (by decide) ?_
  refine x_istore_n (lv' := [(3, .int (nI 0)), (2, .int (nI t0)), (0, .ref (G.2.1 37)), (1, .int (nI n))]) X dX9_table_41 rfl (by decide) rfl ?_
  have lp42 : ∀ (NN42 : Nat) (k : Nat) (hk : k ≤ P), P - k = NN42 → xW pp l ee { frames := 1, cells := 0, slots := 0, locals := 24 } ss mm aa bel met kk 6 G 0 0 (xQ bel G (fun rv_ tv_ => rv_ = none ∧ tv_ = (qTab σ n t0 f a b P)) aa ss) 42 [(3, .int (nI k)), (2, .int (nI t0)), (1, .int (nI n)), (0, .ref (G.2.1 37))] [] (qTl (xsL (xsL σ 52 (8 * n + a) (xgI σ 50 (f + 2)).toInt64) 52 (8 * n + b) (xgI σ 50 (f + 3)).toInt64) n (qTg σ t0 f) k) := by
    intro NN42
    induction NN42 using Nat.strongRecOn with
    | ind NN42 ih42 =>
      intro k hk hNN42
      refine x_iload_n X dX9_table_42 rfl ?_
      refine x_aload_n X dX9_table_43 rfl ?_
      refine gf_X9_34 (k' := 46) X dX9_table_44 rfl rfl ?_
      refine x_iload_n X dX9_table_47 rfl ?_
      refine x_ialdN X dX9_table_48 rfl (by omega) (by omega) ?_
      rw [qTl_I, xgI_L, xgI_L, hP]
      refine x_icmpge (tgt := 132) X dX9_table_49 (by decide) (fun h49 => ?_) (fun h49 => ?_)
      · skip
        rw [xb_ge (x := nI k) (y := nI P) (a := k) (b := P) rfl rfl (by omega) (by omega)] at h49
        obtain rfl : k = P := by omega
        exact x_vret X dX9_table_132 (⟨rfl, by first | rfl | simp [*]⟩)
      · skip
        rw [xb_ge (x := nI k) (y := nI P) (a := k) (b := P) rfl rfl (by omega) (by omega)] at h49
        refine x_aload_n X dX9_table_52 rfl ?_
        refine x_iconst (v := nI 2) X dX9_table_53 (by decide) ?_
        refine cv_X9_187 X (c_X9_of (k := 2) ((qTl_I 37 25 k).trans hf) (by omega)) dX9_table_54 rfl ⟨by decide, by decide, by decide, by decide⟩ rfl rfl (Nat.le_of_ble_eq_true rfl) (xk_i ?_)
        rw [qTl_I, xgI_L, xgI_L]
        refine x_i2l X dX9_table_57 ?_
        refine x_aload_n X dX9_table_58 rfl ?_
        refine gf_X9_37 (k' := 47) X dX9_table_59 rfl rfl ?_
        refine x_bipush (v := nI 20) X dX9_table_62 (by decide) ?_
        refine x_iload_n X dX9_table_64 rfl ?_
        refine x_imul X dX9_table_65 ?_
        rw [pk_mul 20 t0]
        refine x_iload_n X dX9_table_66 rfl ?_
        refine x_iadd X dX9_table_67 ?_
        rw [nI_add (20 * t0) k]
        refine x_ialdN X dX9_table_68 rfl (by omega) (by omega) ?_
        rw [qTl_I, xgI_L, xgI_L]
        refine x_i2l X dX9_table_69 ?_
        refine x_lmul X dX9_table_70 ?_
        refine x_aload_n X dX9_table_71 rfl ?_
        refine x_iconst (v := nI 3) X dX9_table_72 (by decide) ?_
        refine cv_X9_187 X (c_X9_of (k := 3) ((qTl_I 37 25 k).trans hf) (by omega)) dX9_table_73 rfl ⟨by decide, by decide, by decide, by decide⟩ rfl rfl (Nat.le_of_ble_eq_true rfl) (xk_i ?_)
        rw [qTl_I, xgI_L, xgI_L]
        refine x_i2l X dX9_table_76 ?_
        refine x_aload_n X dX9_table_77 rfl ?_
        refine gf_X9_40 (k' := 48) X dX9_table_78 rfl rfl ?_
        refine x_bipush (v := nI 20) X dX9_table_81 (by decide) ?_
        refine x_iload_n X dX9_table_83 rfl ?_
        refine x_imul X dX9_table_84 ?_
        rw [pk_mul 20 t0]
        refine x_iload_n X dX9_table_85 rfl ?_
        refine x_iadd X dX9_table_86 ?_
        rw [nI_add (20 * t0) k]
        refine x_ialdN X dX9_table_87 rfl (by omega) (by omega) ?_
        rw [qTl_I, xgI_L, xgI_L]
        refine x_i2l X dX9_table_88 ?_
        refine x_lmul X dX9_table_89 ?_
        refine x_ladd X dX9_table_90 ?_
        refine x_topl (fun vv hvv => ?_)
        refine x_lstore (lv' := [(4, .long vv), (3, .int (nI k)), (2, .int (nI t0)), (1, .int (nI n)), (0, .ref (G.2.1 37))]) X dX9_table_91 (by decide) rfl ?_
        have hvv : vv = qTg σ t0 f k := hvv
        refine x_aload_n X dX9_table_93 rfl ?_
        refine gf_X9_63 (k' := 53) X dX9_table_94 rfl rfl ?_
        refine x_iload_n X dX9_table_97 rfl ?_
        refine x_iload_n X dX9_table_98 rfl ?_
        refine x_ifeq (tgt := 114) X dX9_table_99 (by decide) (fun h99 => ?_) (fun h99 => ?_)
        · skip
          rw [xb_eq (x := nI k) (y := 0) (a := k) (b := 0) rfl rfl (by omega) (by omega)] at h99
          have hse : xsL (qTl (xsL (xsL σ 52 (8 * n + a) (xgI σ 50 (f + 2)).toInt64) 52 (8 * n + b) (xgI σ 50 (f + 3)).toInt64) n (qTg σ t0 f) k) 53 n vv = qTl (xsL (xsL σ 52 (8 * n + a) (xgI σ 50 (f + 2)).toInt64) 52 (8 * n + b) (xgI σ 50 (f + 3)).toInt64) n (qTg σ t0 f) (k + 1) := by rw [hvv, qTl, if_pos h99]
          refine x_lload X dX9_table_114 rfl ?_
          refine x_goto (tgt := 125) X dX9_table_116 (by decide) ?_
          refine x_lastN X dX9_table_125 rfl (by omega) (by omega) ?_
          rw [hse]
          refine x_iinc (k := 1) (v := nI (k + 1)) (lv' := [(3, .int (nI (k + 1))), (4, .long vv), (2, .int (nI t0)), (1, .int (nI n)), (0, .ref (G.2.1 37))]) X dX9_table_126 rfl (xn_inc _) (by decide) rfl ?_
          refine x_goto (tgt := 42) X dX9_table_129 (by decide) ?_
          refine x_pick [0, 2, 3, 4] rfl ?_
          exact ih42 _ (by omega) (k + 1) (by omega) rfl
        · skip
          rw [xb_eq (x := nI k) (y := 0) (a := k) (b := 0) rfl rfl (by omega) (by omega)] at h99
          refine x_lload X dX9_table_102 rfl ?_
          refine x_aload_n X dX9_table_104 rfl ?_
          refine gf_X9_63 (k' := 53) X dX9_table_105 rfl rfl ?_
          refine x_iload_n X dX9_table_108 rfl ?_
          refine x_laldN X dX9_table_109 rfl (by omega) (by omega) ?_
          refine x_lcmp X dX9_table_110 ?_
          refine x_ifle (tgt := 119) X dX9_table_111 (by decide) (fun h111 => ?_) (fun h111 => ?_)
          · skip
            rw [lg_cmp_le] at h111
            have hse : xsL (qTl (xsL (xsL σ 52 (8 * n + a) (xgI σ 50 (f + 2)).toInt64) 52 (8 * n + b) (xgI σ 50 (f + 3)).toInt64) n (qTg σ t0 f) k) 53 n (xgL (qTl (xsL (xsL σ 52 (8 * n + a) (xgI σ 50 (f + 2)).toInt64) 52 (8 * n + b) (xgI σ 50 (f + 3)).toInt64) n (qTg σ t0 f) k) 53 n) = qTl (xsL (xsL σ 52 (8 * n + a) (xgI σ 50 (f + 2)).toInt64) 52 (8 * n + b) (xgI σ 50 (f + 3)).toInt64) n (qTg σ t0 f) (k + 1) := by rw [qTl, if_neg h99, if_pos (hvv ▸ h111)]
            refine x_aload_n X dX9_table_119 rfl ?_
            refine gf_X9_63 (k' := 53) X dX9_table_120 rfl rfl ?_
            refine x_iload_n X dX9_table_123 rfl ?_
            refine x_laldN X dX9_table_124 rfl (by omega) (by omega) ?_
            refine x_lastN X dX9_table_125 rfl (by omega) (by omega) ?_
            rw [hse]
            refine x_iinc (k := 1) (v := nI (k + 1)) (lv' := [(3, .int (nI (k + 1))), (4, .long vv), (2, .int (nI t0)), (1, .int (nI n)), (0, .ref (G.2.1 37))]) X dX9_table_126 rfl (xn_inc _) (by decide) rfl ?_
            refine x_goto (tgt := 42) X dX9_table_129 (by decide) ?_
            refine x_pick [0, 2, 3, 4] rfl ?_
            exact ih42 _ (by omega) (k + 1) (by omega) rfl
          · skip
            rw [lg_cmp_le] at h111
            have hse : xsL (qTl (xsL (xsL σ 52 (8 * n + a) (xgI σ 50 (f + 2)).toInt64) 52 (8 * n + b) (xgI σ 50 (f + 3)).toInt64) n (qTg σ t0 f) k) 53 n vv = qTl (xsL (xsL σ 52 (8 * n + a) (xgI σ 50 (f + 2)).toInt64) 52 (8 * n + b) (xgI σ 50 (f + 3)).toInt64) n (qTg σ t0 f) (k + 1) := by rw [qTl, if_neg h99, if_neg (hvv ▸ h111), hvv]
            refine x_lload X dX9_table_114 rfl ?_
            refine x_goto (tgt := 125) X dX9_table_116 (by decide) ?_
            refine x_lastN X dX9_table_125 rfl (by omega) (by omega) ?_
            rw [hse]
            refine x_iinc (k := 1) (v := nI (k + 1)) (lv' := [(3, .int (nI (k + 1))), (4, .long vv), (2, .int (nI t0)), (1, .int (nI n)), (0, .ref (G.2.1 37))]) X dX9_table_126 rfl (xn_inc _) (by decide) rfl ?_
            refine x_goto (tgt := 42) X dX9_table_129 (by decide) ?_
            refine x_pick [0, 2, 3, 4] rfl ?_
            exact ih42 _ (by omega) (k + 1) (by omega) rfl
  refine x_pick [0, 1, 3, 2] rfl ?_
  exact lp42 _ 0 (by omega) rfl

set_option maxHeartbeats 4000000 in
set_option maxRecDepth 100000 in
theorem c_X9_divides {l : Launch} {G : xG} {σ : xS} {n f r0 d V : Nat} (hn : n < 200) (hf : xgI σ 37 25 = nI f) (hf2 : f + 3 ≤ 1500) (hr : xgI σ 50 (f + 1) = nI r0) (hr2 : r0 < n) (hd : xgI σ 50 (f + 2) = nI d) (hd2 : 2 ≤ d) (hd3 : d ≤ 1000) (hV : xgI σ 37 3 = nI V) (hV8 : V ≤ 8) : xM l G yX9_divides cX9_divides 6 (Option.some Jvm.ClassFile.FieldType.int) 1 25 [.ref (G.2.1 37), .int (nI n)] σ (fun r t => (qDivs σ r0 V (nI d).toInt64 ∧ r = some (.int 0) ∧ t = qDone σ n r0 V (nI d).toInt64) ∨ (¬ qDivs σ r0 V (nI d).toInt64 ∧ r = some (.int 5) ∧ qOff n σ t)) := by
  refine xM.of (by decide) (Nat.le_of_ble_eq_true rfl) (fun pp ee ss mm aa bel met kk X => ?_)
  have X : xC pp ss mm met kk cX9_divides 6 RX9 (Option.some Jvm.ClassFile.FieldType.int) G := X
  show xW pp l ee { frames := 1, cells := 0, slots := 0, locals := 25 } ss mm aa bel met kk 6 G 0 0 (xQ bel G (fun r t => (qDivs σ r0 V (nI d).toInt64 ∧ r = some (.int 0) ∧ t = qDone σ n r0 V (nI d).toInt64) ∨ (¬ qDivs σ r0 V (nI d).toInt64 ∧ r = some (.int 5) ∧ qOff n σ t)) aa ss) 0 [(0, .ref (G.2.1 37)), (1, .int (nI n))] [] σ
  refine x_aload_n X dX9_divides_0 rfl ?_
  refine x_iconst (v := nI 1) X dX9_divides_1 (by decide) ?_
  refine cv_X9_187 X (c_X9_of (k := 1) hf (by omega)) dX9_divides_2 rfl ⟨by decide, by decide, by decide, by decide⟩ rfl rfl (Nat.le_of_ble_eq_true rfl) (xk_i ?_)
  rw [hr]
  refine x_istore_n (lv' := [(2, .int (nI r0)), (0, .ref (G.2.1 37)), (1, .int (nI n))]) X dX9_divides_5 rfl (by decide) rfl ?_
  refine x_aload_n X dX9_divides_6 rfl ?_
  refine x_iconst (v := nI 2) X dX9_divides_7 (by decide) ?_
  refine cv_X9_187 X (c_X9_of (k := 2) hf (by omega)) dX9_divides_8 rfl ⟨by decide, by decide, by decide, by decide⟩ rfl rfl (Nat.le_of_ble_eq_true rfl) (xk_i ?_)
  rw [hd]
  refine x_i2l X dX9_divides_11 ?_
  refine x_topl (fun by0 hby0 => ?_)
  refine x_lstore_n (lv' := [(3, .long by0), (2, .int (nI r0)), (0, .ref (G.2.1 37)), (1, .int (nI n))]) X dX9_divides_12 rfl (by decide) rfl ?_
  refine x_iconst (v := nI 0) X dX9_divides_13 (by decide) ?_
  refine x_istore (lv' := [(5, .int (nI 0)), (3, .long by0), (2, .int (nI r0)), (0, .ref (G.2.1 37)), (1, .int (nI n))]) X dX9_divides_14 (by decide) rfl ?_
  have lp16 : ∀ (NN16 : Nat) (k : Nat) (hk : k ≤ V) (hz : ∀ v, v < k → xgL σ 52 (8 * r0 + v) - xgL σ 52 (8 * r0 + v) / (nI d).toInt64 * (nI d).toInt64 = 0), V - k = NN16 → xW pp l ee { frames := 1, cells := 0, slots := 0, locals := 25 } ss mm aa bel met kk 6 G 0 0 (xQ bel G (fun r t => (qDivs σ r0 V (nI d).toInt64 ∧ r = some (.int 0) ∧ t = qDone σ n r0 V (nI d).toInt64) ∨ (¬ qDivs σ r0 V (nI d).toInt64 ∧ r = some (.int 5) ∧ qOff n σ t)) aa ss) 16 [(5, .int (nI k)), (3, .long by0), (2, .int (nI r0)), (1, .int (nI n)), (0, .ref (G.2.1 37))] [] (qDv σ n r0 (nI d).toInt64 k) := by
    intro NN16
    induction NN16 using Nat.strongRecOn with
    | ind NN16 ih16 =>
      intro k hk hz hNN16
      refine x_iload X dX9_divides_16 rfl ?_
      refine x_aload_n X dX9_divides_18 rfl ?_
      refine gf_X9_112 X dX9_divides_19 rfl ?_
      rw [(qDv_off k (by omega)).1 37 3 (by omega) (by omega), hV]
      refine x_icmpge (tgt := 73) X dX9_divides_22 (by decide) (fun h22 => ?_) (fun h22 => ?_)
      · skip
        rw [xb_ge (x := nI k) (y := nI V) (a := k) (b := V) rfl rfl (by omega) (by omega)] at h22
        obtain rfl : k = V := by omega
        refine x_aload_n X dX9_divides_73 rfl ?_
        refine gf_X9_63 (k' := 53) X dX9_divides_74 rfl rfl ?_
        refine x_iload_n X dX9_divides_77 rfl ?_
        refine x_aload_n X dX9_divides_78 rfl ?_
        refine gf_X9_63 (k' := 53) X dX9_divides_79 rfl rfl ?_
        refine x_iload_n X dX9_divides_82 rfl ?_
        refine x_laldN X dX9_divides_83 rfl (by omega) (by omega) ?_
        refine x_lload_n X dX9_divides_84 rfl ?_
        refine cs_X9_229 X (c_X9_down (hby0 ▸ xi_ne (nI_ne0 (by omega) (by omega)))) dX9_divides_85 ⟨by decide, by decide, by decide, by decide⟩ rfl rfl (Nat.le_of_ble_eq_true rfl) (xk_l ?_)
        refine x_lastN X dX9_divides_88 rfl (by omega) (by omega) ?_
        refine x_aload_n X dX9_divides_89 rfl ?_
        refine x_iload_n X dX9_divides_90 rfl ?_
        refine x_iload_n X dX9_divides_91 rfl ?_
        refine x_iconst (v := (-1)) X dX9_divides_92 (by decide) ?_
        refine cv_X9_209 X (c_X9_assumes hn (by omega)) dX9_divides_93 rfl ⟨by decide, by decide, by decide, by decide⟩ rfl rfl (Nat.le_of_ble_eq_true rfl) (xk_v ?_)
        refine x_iconst (v := nI 0) X dX9_divides_96 (by decide) ?_
        exact x_iret X dX9_divides_97 (Or.inl ⟨hz, rfl, by rw [hby0]; rfl⟩)
      · skip
        rw [xb_ge (x := nI k) (y := nI V) (a := k) (b := V) rfl rfl (by omega) (by omega)] at h22
        refine x_aload_n X dX9_divides_25 rfl ?_
        refine gf_X9_59 (k' := 52) X dX9_divides_26 rfl rfl ?_
        refine x_bipush (v := nI 8) X dX9_divides_29 (by decide) ?_
        refine x_iload_n X dX9_divides_31 rfl ?_
        refine x_imul X dX9_divides_32 ?_
        rw [pk_mul 8 r0]
        refine x_iload X dX9_divides_33 rfl ?_
        refine x_iadd X dX9_divides_35 ?_
        rw [nI_add (8 * r0) k]
        refine x_laldN X dX9_divides_36 rfl (by omega) (by omega) ?_
        rw [(qDv_off k (by omega)).2.2.2.2.1 _ (by omega)]
        refine x_lload_n X dX9_divides_37 rfl ?_
        refine x_lrem X dX9_divides_38 (hby0 ▸ xi_ne (nI_ne0 (by omega) (by omega))) ?_
        refine x_lconst (v := 0) X dX9_divides_39 (by decide) ?_
        refine x_lcmp X dX9_divides_40 ?_
        refine x_ifeq (tgt := 46) X dX9_divides_41 (by decide) (fun h41 => ?_) (fun h41 => ?_)
        · skip
          rw [lg_cmp_eq] at h41
          have hz2 := lt_s hz (hby0 ▸ h41)
          refine x_aload_n X dX9_divides_46 rfl ?_
          refine x_iload_n X dX9_divides_47 rfl ?_
          refine x_iload X dX9_divides_48 rfl ?_
          refine x_aload_n X dX9_divides_50 rfl ?_
          refine gf_X9_59 (k' := 52) X dX9_divides_51 rfl rfl ?_
          refine x_bipush (v := nI 8) X dX9_divides_54 (by decide) ?_
          refine x_iload_n X dX9_divides_56 rfl ?_
          refine x_imul X dX9_divides_57 ?_
          rw [pk_mul 8 r0]
          refine x_iload X dX9_divides_58 rfl ?_
          refine x_iadd X dX9_divides_60 ?_
          rw [nI_add (8 * r0) k]
          refine x_laldN X dX9_divides_61 rfl (by omega) (by omega) ?_
          rw [(qDv_off k (by omega)).2.2.2.2.1 _ (by omega)]
          refine x_lload_n X dX9_divides_62 rfl ?_
          refine x_ldiv X dX9_divides_63 (hby0 ▸ xi_ne (nI_ne0 (by omega) (by omega))) ?_
          refine cv_X9_200 X (c_X9_says hn (by omega)) dX9_divides_64 rfl ⟨by decide, by decide, by decide, by decide⟩ rfl rfl (Nat.le_of_ble_eq_true rfl) (xk_v ?_)
          rw [show xsL (qDv σ n r0 (nI d).toInt64 k) 52 (8 * n + k) (xgL σ 52 (8 * r0 + k) / by0) = qDv σ n r0 (nI d).toInt64 (k + 1) by rw [hby0]; rfl]
          refine x_iinc (k := 0) (v := nI (k + 1)) (lv' := [(5, .int (nI (k + 1))), (3, .long by0), (2, .int (nI r0)), (1, .int (nI n)), (0, .ref (G.2.1 37))]) X dX9_divides_67 rfl (xn_inc _) (by decide) rfl ?_
          refine x_goto (tgt := 16) X dX9_divides_70 (by decide) ?_
          refine x_pick [0, 1, 2, 3, 4] rfl ?_
          exact ih16 _ (by omega) (k + 1) (by omega) hz2 rfl
        · skip
          rw [lg_cmp_eq] at h41
          refine x_iconst (v := nI 5) X dX9_divides_44 (by decide) ?_
          exact x_iret X dX9_divides_45 (Or.inr ⟨fun z => h41 (hby0 ▸ z k (by omega)), rfl, qDv_off k (by omega)⟩)
  refine x_pick [0, 1, 2, 4, 3] rfl ?_
  exact lp16 _ 0 (by omega) lt_0 rfl

set_option maxHeartbeats 4000000 in
set_option maxRecDepth 100000 in
theorem c_X9_pushes {l : Launch} {G : xG} {σ : xS} {n f r0 w V : Nat} (hn : n < 200) (hf : xgI σ 37 25 = nI f) (hf2 : f + 3 ≤ 1500) (hr : xgI σ 50 (f + 1) = nI r0) (hr2 : r0 < n) (hw : xgI σ 50 (f + 2) = nI w) (hw2 : w < 8) (hV : xgI σ 37 3 = nI V) (hV8 : V ≤ 8) : xFi l G yX9_pushes cX9_pushes 11 (Option.some Jvm.ClassFile.FieldType.int) 1 25 [.ref (G.2.1 37), .int (nI n)] σ ((qPush σ n r0 w V).1) ((qPush σ n r0 w V).2) := by
  refine xM.of (by decide) (Nat.le_of_ble_eq_true rfl) (fun pp ee ss mm aa bel met kk X => ?_)
  have X : xC pp ss mm met kk cX9_pushes 11 RX9 (Option.some Jvm.ClassFile.FieldType.int) G := X
  show xW pp l ee { frames := 1, cells := 0, slots := 0, locals := 25 } ss mm aa bel met kk 11 G 0 0 (xQ bel G (fun rv_ tv_ => rv_ = some (.int ((qPush σ n r0 w V).1)) ∧ tv_ = ((qPush σ n r0 w V).2)) aa ss) 0 [(0, .ref (G.2.1 37)), (1, .int (nI n))] [] σ
  refine x_aload_n X dX9_pushes_0 rfl ?_
  refine x_iconst (v := nI 1) X dX9_pushes_1 (by decide) ?_
  refine cv_X9_187 X (c_X9_of (k := 1) hf (by omega)) dX9_pushes_2 rfl ⟨by decide, by decide, by decide, by decide⟩ rfl rfl (Nat.le_of_ble_eq_true rfl) (xk_i ?_)
  rw [hr]
  refine x_istore_n (lv' := [(2, .int (nI r0)), (0, .ref (G.2.1 37)), (1, .int (nI n))]) X dX9_pushes_5 rfl (by decide) rfl ?_
  refine x_aload_n X dX9_pushes_6 rfl ?_
  refine x_iconst (v := nI 2) X dX9_pushes_7 (by decide) ?_
  refine cv_X9_187 X (c_X9_of (k := 2) hf (by omega)) dX9_pushes_8 rfl ⟨by decide, by decide, by decide, by decide⟩ rfl rfl (Nat.le_of_ble_eq_true rfl) (xk_i ?_)
  rw [hw]
  refine x_istore_n (lv' := [(3, .int (nI w)), (2, .int (nI r0)), (0, .ref (G.2.1 37)), (1, .int (nI n))]) X dX9_pushes_11 rfl (by decide) rfl ?_
  refine x_aload_n X dX9_pushes_12 rfl ?_
  refine gf_X9_59 (k' := 52) X dX9_pushes_13 rfl rfl ?_
  refine x_bipush (v := nI 8) X dX9_pushes_16 (by decide) ?_
  refine x_iload_n X dX9_pushes_18 rfl ?_
  refine x_imul X dX9_pushes_19 ?_
  rw [pk_mul 8 r0]
  refine x_iload_n X dX9_pushes_20 rfl ?_
  refine x_iadd X dX9_pushes_21 ?_
  rw [nI_add (8 * r0) w]
  refine x_laldN X dX9_pushes_22 rfl (by omega) (by omega) ?_
  refine x_topl (fun fa hfa => ?_)
  refine x_lstore (lv' := [(4, .long fa), (3, .int (nI w)), (2, .int (nI r0)), (0, .ref (G.2.1 37)), (1, .int (nI n))]) X dX9_pushes_23 (by decide) rfl ?_
  refine x_lload X dX9_pushes_25 rfl ?_
  refine x_lconst (v := 0) X dX9_pushes_27 (by decide) ?_
  refine x_lcmp X dX9_pushes_28 ?_
  refine x_ifne (tgt := 34) X dX9_pushes_29 (by decide) (fun h29 => ?_) (fun h29 => ?_)
  · skip
    rw [lg_cmp_eq] at h29
    refine x_aload_n X dX9_pushes_34 rfl ?_
    refine gf_X9_63 (k' := 53) X dX9_pushes_35 rfl rfl ?_
    refine x_iload_n X dX9_pushes_38 rfl ?_
    refine x_laldN X dX9_pushes_39 rfl (by omega) (by omega) ?_
    refine x_topl (fun l0 hl0 => ?_)
    refine x_lstore (lv' := [(6, .long l0), (4, .long fa), (3, .int (nI w)), (2, .int (nI r0)), (0, .ref (G.2.1 37)), (1, .int (nI n))]) X dX9_pushes_40 (by decide) rfl ?_
    refine x_iconst (v := nI 0) X dX9_pushes_42 (by decide) ?_
    refine x_istore (lv' := [(8, .int (nI 0)), (6, .long l0), (4, .long fa), (3, .int (nI w)), (2, .int (nI r0)), (0, .ref (G.2.1 37)), (1, .int (nI n))]) X dX9_pushes_43 (by decide) rfl ?_
    have lp45 : ∀ (NN45 : Nat) (k : Nat) (hk : k ≤ V), V - k = NN45 → xW pp l ee { frames := 1, cells := 0, slots := 0, locals := 25 } ss mm aa bel met kk 11 G 0 0 (xQ bel G (fun rv_ tv_ => rv_ = some (.int ((qPush σ n r0 w V).1)) ∧ tv_ = ((qPush σ n r0 w V).2)) aa ss) 45 [(8, .int (nI k)), (6, .long (qRest σ r0 w k)), (4, .long fa), (3, .int (nI w)), (2, .int (nI r0)), (1, .int (nI n)), (0, .ref (G.2.1 37))] [] (σ) := by
      intro NN45
      induction NN45 using Nat.strongRecOn with
      | ind NN45 ih45 =>
        intro k hk hNN45
        refine x_iload X dX9_pushes_45 rfl ?_
        refine x_aload_n X dX9_pushes_47 rfl ?_
        refine gf_X9_112 X dX9_pushes_48 rfl ?_
        rw [hV]
        refine x_icmpge (tgt := 136) X dX9_pushes_51 (by decide) (fun h51 => ?_) (fun h51 => ?_)
        · skip
          rw [xb_ge (x := nI k) (y := nI V) (a := k) (b := V) rfl rfl (by omega) (by omega)] at h51
          obtain rfl : k = V := by omega
          refine x_aload_n X dX9_pushes_136 rfl ?_
          refine x_iload_n X dX9_pushes_137 rfl ?_
          refine x_iload_n X dX9_pushes_138 rfl ?_
          refine x_lload X dX9_pushes_139 rfl ?_
          refine x_lconst (v := 0) X dX9_pushes_141 (by decide) ?_
          refine x_lcmp X dX9_pushes_142 ?_
          refine x_ifle (tgt := 150) X dX9_pushes_143 (by decide) (fun h143 => ?_) (fun h143 => ?_)
          · skip
            rw [lg_cmp_le] at h143
            refine x_ldc2 X dX9_pushes_150 wk_X9_204 ?_
            refine cv_X9_200 X (c_X9_says hn hw2) dX9_pushes_153 rfl ⟨by decide, by decide, by decide, by decide⟩ rfl rfl (Nat.le_of_ble_eq_true rfl) (xk_v ?_)
            refine x_aload_n X dX9_pushes_156 rfl ?_
            refine gf_X9_63 (k' := 53) X dX9_pushes_157 rfl rfl ?_
            refine x_iload_n X dX9_pushes_160 rfl ?_
            refine x_lload X dX9_pushes_161 rfl ?_
            refine x_lload X dX9_pushes_163 rfl ?_
            refine x_lconst (v := 0) X dX9_pushes_165 (by decide) ?_
            refine x_lcmp X dX9_pushes_166 ?_
            refine x_ifle (tgt := 175) X dX9_pushes_167 (by decide) (fun h167 => ?_) (fun h167 => ?_)
            · skip
              rw [lg_cmp_le] at h167
              refine x_lload X dX9_pushes_175 rfl ?_
              refine x_lneg X dX9_pushes_177 ?_
              refine cs_X9_229 X (c_X9_down (by first | exact h29 | exact xi_neg h167 h29)) dX9_pushes_178 ⟨by decide, by decide, by decide, by decide⟩ rfl rfl (Nat.le_of_ble_eq_true rfl) (xk_l ?_)
              refine x_lastN X dX9_pushes_181 rfl (by omega) (by omega) ?_
              refine x_aload_n X dX9_pushes_182 rfl ?_
              refine x_iload_n X dX9_pushes_183 rfl ?_
              refine x_iload_n X dX9_pushes_184 rfl ?_
              refine x_iconst (v := (-1)) X dX9_pushes_185 (by decide) ?_
              refine cv_X9_209 X (c_X9_assumes hn (by omega)) dX9_pushes_186 rfl ⟨by decide, by decide, by decide, by decide⟩ rfl rfl (Nat.le_of_ble_eq_true rfl) (xk_v ?_)
              refine x_iconst (v := nI 0) X dX9_pushes_189 (by decide) ?_
              exact x_iret X dX9_pushes_190 (by subst hfa; unfold qPush; rw [if_neg h29]; first | (rw [if_pos h143]; exact ⟨rfl, rfl⟩) | (rw [if_neg h143]; exact ⟨rfl, rfl⟩))
            · skip
              rw [lg_cmp_le] at h167
              exact absurd h143 h167
          · skip
            rw [lg_cmp_le] at h143
            refine x_lconst (v := 1) X dX9_pushes_146 (by decide) ?_
            refine x_goto (tgt := 153) X dX9_pushes_147 (by decide) ?_
            refine cv_X9_200 X (c_X9_says hn hw2) dX9_pushes_153 rfl ⟨by decide, by decide, by decide, by decide⟩ rfl rfl (Nat.le_of_ble_eq_true rfl) (xk_v ?_)
            refine x_aload_n X dX9_pushes_156 rfl ?_
            refine gf_X9_63 (k' := 53) X dX9_pushes_157 rfl rfl ?_
            refine x_iload_n X dX9_pushes_160 rfl ?_
            refine x_lload X dX9_pushes_161 rfl ?_
            refine x_lload X dX9_pushes_163 rfl ?_
            refine x_lconst (v := 0) X dX9_pushes_165 (by decide) ?_
            refine x_lcmp X dX9_pushes_166 ?_
            refine x_ifle (tgt := 175) X dX9_pushes_167 (by decide) (fun h167 => ?_) (fun h167 => ?_)
            · skip
              rw [lg_cmp_le] at h167
              exact absurd h167 h143
            · skip
              rw [lg_cmp_le] at h167
              refine x_lload X dX9_pushes_170 rfl ?_
              refine x_goto (tgt := 178) X dX9_pushes_172 (by decide) ?_
              refine cs_X9_229 X (c_X9_down (by first | exact h29 | exact xi_neg h167 h29)) dX9_pushes_178 ⟨by decide, by decide, by decide, by decide⟩ rfl rfl (Nat.le_of_ble_eq_true rfl) (xk_l ?_)
              refine x_lastN X dX9_pushes_181 rfl (by omega) (by omega) ?_
              refine x_aload_n X dX9_pushes_182 rfl ?_
              refine x_iload_n X dX9_pushes_183 rfl ?_
              refine x_iload_n X dX9_pushes_184 rfl ?_
              refine x_iconst (v := (-1)) X dX9_pushes_185 (by decide) ?_
              refine cv_X9_209 X (c_X9_assumes hn (by omega)) dX9_pushes_186 rfl ⟨by decide, by decide, by decide, by decide⟩ rfl rfl (Nat.le_of_ble_eq_true rfl) (xk_v ?_)
              refine x_iconst (v := nI 0) X dX9_pushes_189 (by decide) ?_
              exact x_iret X dX9_pushes_190 (by subst hfa; unfold qPush; rw [if_neg h29]; first | (rw [if_pos h143]; exact ⟨rfl, rfl⟩) | (rw [if_neg h143]; exact ⟨rfl, rfl⟩))
        · skip
          rw [xb_ge (x := nI k) (y := nI V) (a := k) (b := V) rfl rfl (by omega) (by omega)] at h51
          refine x_aload_n X dX9_pushes_54 rfl ?_
          refine gf_X9_59 (k' := 52) X dX9_pushes_55 rfl rfl ?_
          refine x_bipush (v := nI 8) X dX9_pushes_58 (by decide) ?_
          refine x_iload_n X dX9_pushes_60 rfl ?_
          refine x_imul X dX9_pushes_61 ?_
          rw [pk_mul 8 r0]
          refine x_iload X dX9_pushes_62 rfl ?_
          refine x_iadd X dX9_pushes_64 ?_
          rw [nI_add (8 * r0) k]
          refine x_laldN X dX9_pushes_65 rfl (by omega) (by omega) ?_
          refine x_topl (fun gg hgg => ?_)
          refine x_lstore (lv' := [(9, .long gg), (8, .int (nI k)), (6, .long (qRest σ r0 w k)), (4, .long fa), (3, .int (nI w)), (2, .int (nI r0)), (1, .int (nI n)), (0, .ref (G.2.1 37))]) X dX9_pushes_66 (by decide) rfl ?_
          refine x_iload X dX9_pushes_68 rfl ?_
          refine x_iload_n X dX9_pushes_70 rfl ?_
          refine x_icmpeq (tgt := 130) X dX9_pushes_71 (by decide) (fun h71 => ?_) (fun h71 => ?_)
          · skip
            rw [xb_eq (x := nI k) (y := nI w) (a := k) (b := w) rfl rfl (by omega) (by omega)] at h71
            have hs2 : qRest σ r0 w k = qRest σ r0 w (k + 1) := by rw [qRest, if_pos h71]
            obtain ⟨l9, hl9⟩ : ∃ z, z = qRest σ r0 w k := ⟨_, rfl⟩
            rw [← hl9]
            rw [← hl9] at hs2
            try (have hs2 : l9 = qRest σ r0 w (k + 1) := by rw [hl9, qRest, if_neg h71]; rw [hgg] at h99 ⊢; first | rw [if_pos h99] | rw [if_neg h99])
            refine x_iinc (k := 1) (v := nI (k + 1)) (lv' := [(8, .int (nI (k + 1))), (9, .long gg), (6, .long l9), (4, .long fa), (3, .int (nI w)), (2, .int (nI r0)), (1, .int (nI n)), (0, .ref (G.2.1 37))]) X dX9_pushes_130 rfl (xn_inc _) (by decide) rfl ?_
            refine x_goto (tgt := 45) X dX9_pushes_133 (by decide) ?_
            rw [hs2]
            refine x_pick [0, 2, 3, 4, 5, 6, 7] rfl ?_
            exact ih45 _ (by omega) (k + 1) (by omega) rfl
          · skip
            rw [xb_eq (x := nI k) (y := nI w) (a := k) (b := w) rfl rfl (by omega) (by omega)] at h71
            refine x_lload X dX9_pushes_74 rfl ?_
            refine x_lload X dX9_pushes_76 rfl ?_
            refine x_aload_n X dX9_pushes_78 rfl ?_
            refine gf_X9_13 (k' := 39) X dX9_pushes_79 rfl rfl ?_
            refine x_iload X dX9_pushes_82 rfl ?_
            refine x_ialdN X dX9_pushes_84 rfl (by omega) (by omega) ?_
            refine x_i2l X dX9_pushes_85 ?_
            refine x_lmul X dX9_pushes_86 ?_
            refine x_lload X dX9_pushes_87 rfl ?_
            refine x_aload_n X dX9_pushes_89 rfl ?_
            refine gf_X9_16 (k' := 40) X dX9_pushes_90 rfl rfl ?_
            refine x_iload X dX9_pushes_93 rfl ?_
            refine x_ialdN X dX9_pushes_95 rfl (by omega) (by omega) ?_
            refine x_i2l X dX9_pushes_96 ?_
            refine x_lmul X dX9_pushes_97 ?_
            refine x_lcmp X dX9_pushes_98 ?_
            refine x_ifge (tgt := 116) X dX9_pushes_99 (by decide) (fun h99 => ?_) (fun h99 => ?_)
            · skip
              rw [lg_cmp_ge] at h99
              refine x_lload X dX9_pushes_116 rfl ?_
              refine x_aload_n X dX9_pushes_118 rfl ?_
              refine gf_X9_16 (k' := 40) X dX9_pushes_119 rfl rfl ?_
              refine x_iload X dX9_pushes_122 rfl ?_
              refine x_ialdN X dX9_pushes_124 rfl (by omega) (by omega) ?_
              refine x_i2l X dX9_pushes_125 ?_
              refine x_lmul X dX9_pushes_126 ?_
              refine x_lsub X dX9_pushes_127 ?_
              refine x_topl (fun l9 hl9 => ?_)
              refine x_lstore (lv' := [(6, .long l9), (9, .long gg), (8, .int (nI k)), (4, .long fa), (3, .int (nI w)), (2, .int (nI r0)), (1, .int (nI n)), (0, .ref (G.2.1 37))]) X dX9_pushes_128 (by decide) rfl ?_
              try (have hs2 : l9 = qRest σ r0 w (k + 1) := by rw [hl9, qRest, if_neg h71]; rw [hgg] at h99 ⊢; first | rw [if_pos h99] | rw [if_neg h99])
              refine x_iinc (k := 2) (v := nI (k + 1)) (lv' := [(8, .int (nI (k + 1))), (6, .long l9), (9, .long gg), (4, .long fa), (3, .int (nI w)), (2, .int (nI r0)), (1, .int (nI n)), (0, .ref (G.2.1 37))]) X dX9_pushes_130 rfl (xn_inc _) (by decide) rfl ?_
              refine x_goto (tgt := 45) X dX9_pushes_133 (by decide) ?_
              rw [hs2]
              refine x_pick [0, 1, 3, 4, 5, 6, 7] rfl ?_
              exact ih45 _ (by omega) (k + 1) (by omega) rfl
            · skip
              rw [lg_cmp_ge] at h99
              refine x_lload X dX9_pushes_102 rfl ?_
              refine x_aload_n X dX9_pushes_104 rfl ?_
              refine gf_X9_13 (k' := 39) X dX9_pushes_105 rfl rfl ?_
              refine x_iload X dX9_pushes_108 rfl ?_
              refine x_ialdN X dX9_pushes_110 rfl (by omega) (by omega) ?_
              refine x_i2l X dX9_pushes_111 ?_
              refine x_lmul X dX9_pushes_112 ?_
              refine x_goto (tgt := 127) X dX9_pushes_113 (by decide) ?_
              refine x_lsub X dX9_pushes_127 ?_
              refine x_topl (fun l9 hl9 => ?_)
              refine x_lstore (lv' := [(6, .long l9), (9, .long gg), (8, .int (nI k)), (4, .long fa), (3, .int (nI w)), (2, .int (nI r0)), (1, .int (nI n)), (0, .ref (G.2.1 37))]) X dX9_pushes_128 (by decide) rfl ?_
              try (have hs2 : l9 = qRest σ r0 w (k + 1) := by rw [hl9, qRest, if_neg h71]; rw [hgg] at h99 ⊢; first | rw [if_pos h99] | rw [if_neg h99])
              refine x_iinc (k := 2) (v := nI (k + 1)) (lv' := [(8, .int (nI (k + 1))), (6, .long l9), (9, .long gg), (4, .long fa), (3, .int (nI w)), (2, .int (nI r0)), (1, .int (nI n)), (0, .ref (G.2.1 37))]) X dX9_pushes_130 rfl (xn_inc _) (by decide) rfl ?_
              refine x_goto (tgt := 45) X dX9_pushes_133 (by decide) ?_
              rw [hs2]
              refine x_pick [0, 1, 3, 4, 5, 6, 7] rfl ?_
              exact ih45 _ (by omega) (k + 1) (by omega) rfl
    subst hl0
    refine x_pick [0, 1, 2, 3, 4, 6, 5] rfl ?_
    exact lp45 _ 0 (by omega) rfl
  · skip
    rw [lg_cmp_eq] at h29
    refine x_iconst (v := nI 5) X dX9_pushes_32 (by decide) ?_
    exact x_iret X dX9_pushes_33 (by unfold qPush; rw [if_pos (hfa ▸ h29)]; exact ⟨rfl, rfl⟩)
