theorem wq_ai : Cond.arrayOver (.array .int) ∈ lw_tbl := tb1 (List.mem_of_getElem? (i := 55) rfl)

theorem wq_row : Cond.arrayOver (.object "PlanCertificates$Row") ∈ lw_tbl := tb1 (List.mem_of_getElem? (i := 80) rfl)

theorem wq_us : Cond.laysStatic Bundle.tN "UNASSIGNED_STACK" Bundle.steD ∈ lw_tbl := tb3 (List.mem_of_getElem? (i := 206) rfl)

theorem wq_ss : Cond.laysStatic Bundle.tN "SUPPRESSED_SENTINEL" Bundle.listD ∈ lw_tbl := tb3 (List.mem_of_getElem? (i := 208) rfl)

theorem wq_th : Cond.initialized Bundle.tN ∈ lw_tbl := tb1 (List.mem_of_getElem? (i := 11) rfl)

theorem wq_s97 : Cond.stringRef RX8 97 "no such plan" ∈ lw_tbl := tb3 (List.mem_of_getElem? (i := 219) rfl)

theorem wq_s233 : Cond.stringRef RX8 233 "no such row" ∈ lw_tbl := tb4 (List.mem_of_getElem? (i := 19) rfl)

theorem wq_s178 : Cond.stringRef RX8 178 "no such what" ∈ lw_tbl := tb4 (List.mem_of_getElem? (i := 43) rfl)

theorem wq_s198 : Cond.stringRef RX8 198 "there is no plan at all" ∈ lw_tbl := tb4 (List.mem_of_getElem? (i := 90) rfl)

theorem wq_s201 : Cond.stringRef RX8 201 "no plan is proved to be the best" ∈ lw_tbl := tb4 (List.mem_of_getElem? (i := 97) rfl)

theorem wq_s212 : Cond.stringRef RX8 212 "no row bounds the cost" ∈ lw_tbl := tb4 (List.mem_of_getElem? (i := 124) rfl)

theorem wq_s220 : Cond.stringRef RX8 220 "no such number" ∈ lw_tbl := tb4 (List.mem_of_getElem? (i := 149) rfl)

/-! THE LAW FROM ITS ENTRY -/
theorem y_known {s : State} {args : Array Value} (hts : ∀ w ∈ lw_tbl, w.before args s = true) : ∃ D : va_G, ∀ (c : Nat) (q : vw_C), vwCl[c]? = some q → u_Kn s q.1 q.2.1 q.2.2 (D.1 c) (D.2 c) := by
  obtain ⟨c0, i0, h0⟩ := u_known (C := RX0) (T := TX0) (N := 10) hts (fun w hw => (wy_0 w hw).1) (hts _ wz_nX0)
  obtain ⟨c1, i1, h1⟩ := u_known (C := RX1) (T := TX1) (N := 2) hts (fun w hw => (wy_1 w hw).1) (hts _ wz_nX1)
  obtain ⟨c2, i2, h2⟩ := u_known (C := RX2) (T := TX2) (N := 14) hts (fun w hw => (wy_2 w hw).1) (hts _ wz_nX2)
  obtain ⟨c3, i3, h3⟩ := u_known (C := RX4) (T := TX4) (N := 3) hts (fun w hw => (wy_3 w hw).1) (hts _ wz_nX4)
  obtain ⟨c4, i4, h4⟩ := u_known (C := RX5) (T := TX5) (N := 11) hts (fun w hw => (wy_4 w hw).1) (hts _ wz_nX5)
  obtain ⟨c5, i5, h5⟩ := u_known (C := RX6) (T := TX6) (N := 5) hts (fun w hw => (wy_5 w hw).1) (hts _ wz_nX6)
  obtain ⟨c6, i6, h6⟩ := u_known (C := RX7) (T := TX7) (N := 4) hts (fun w hw => (wy_6 w hw).1) (hts _ wz_nX7)
  obtain ⟨c7, i7, h7⟩ := u_known (C := RX8) (T := TX8) (N := 6) hts (fun w hw => (wy_7 w hw).1) (hts _ wz_nX8)
  obtain ⟨c8, i8, h8⟩ := u_known (C := RX9) (T := TX9) (N := 40) hts (fun w hw => (wy_8 w hw).1) (hts _ wz_nX9)
  refine ⟨(fun k => match k with | 0 => c0 | 1 => c1 | 2 => c2 | 3 => c3 | 4 => c4 | 5 => c5 | 6 => c6 | 7 => c7 | _ => c8, fun k => match k with | 0 => i0 | 1 => i1 | 2 => i2 | 3 => i3 | 4 => i4 | 5 => i5 | 6 => i6 | 7 => i7 | _ => i8), ?_⟩
  intro k q hq
  match k, hq with
  | 0, hq => cases hq; exact h0
  | 1, hq => cases hq; exact h1
  | 2, hq => cases hq; exact h2
  | 3, hq => cases hq; exact h3
  | 4, hq => cases hq; exact h4
  | 5, hq => cases hq; exact h5
  | 6, hq => cases hq; exact h6
  | 7, hq => cases hq; exact h7
  | 8, hq => cases hq; exact h8
  | k + 9, hq => simp [vwCl] at hq
theorem y_arrs {s : State} {args : Array Value} (hts : ∀ w ∈ lw_tbl, w.before args s = true) : ∃ cs : Nat → ClassId, ∀ (D : va_G) (n0 k : Nat) (q : ClassId × FieldType), (xty (yG D cs n0))[k]? = some q → ArrOfT s q.1 q.2 ∧ va_RA s q.1 q.2 := by
  obtain ⟨a0, k0, m0, f0, g0, h0⟩ := Cond.arrayClass_spec (hts _ wz_int)
  obtain ⟨a1, k1, m1, f1, g1, h1⟩ := Cond.arrayClass_spec (hts _ wz_long)
  obtain ⟨a2, k2, m2, f2, g2, h2⟩ := Cond.arrayClass_spec (hts _ wz_bool)
  obtain ⟨m3, a3, k3, f3, -, g3, h3, j3⟩ := Cond.arrayOver_spec (hts _ wq_row)
  obtain ⟨m4, a4, k4, f4, g4, h4, j4⟩ := Cond.arrayOver_specA (hts _ wq_ai)
  refine ⟨fun k => match k with | 0 => a0 | 1 => a1 | 2 => a2 | 3 => a3 | _ => a4, ?_⟩
  intro D n0 k q hq
  match k, hq with
  | 0, hq => cases hq; exact ⟨fun N z => ⟨(fun k h => by cases h), k0, g0, m0, h0⟩, f0⟩
  | 1, hq => cases hq; exact ⟨fun N z => ⟨(fun k h => by cases h), k1, g1, m1, h1⟩, f1⟩
  | 2, hq => cases hq; exact ⟨fun N z => ⟨(fun k h => by cases h), k2, g2, m2, h2⟩, f2⟩
  | 3, hq => cases hq; exact ⟨fun N z => ⟨(fun k h => by cases h), k3, g3, m3, h3⟩, k3, m3, g3, h3, f3, j3⟩
  | 4, hq => cases hq; exact ⟨fun N z => ⟨(fun k h => by cases h), k4, g4, m4, h4⟩, j4⟩
  | k + 5, hq => simp [xty] at hq
theorem yG_inj {D : va_G} {cs : Nat → ClassId} {n0 : Nat} : ∀ i j, i < 527 → j < 527 → (yG D cs n0).2.1 i = (yG D cs n0).2.1 j → i = j := by
  intro i j hi hj h
  have h : n0 + yoff i = n0 + yoff j := h
  have e : yoff i = yoff j := by omega
  rw [← (ycof_off i hi).1, ← (ycof_off j hj).1, e]
theorem yG_A {D : va_G} {cs : Nat → ClassId} {n0 : Nat} : ∀ q, xA (yG D cs n0) q → n0 ≤ q := by
  rintro q ⟨k, -, rfl⟩
  exact Nat.le_add_right _ _

set_option maxRecDepth 100000 in
theorem y_strs {s : State} {args : Array Value} (hts : ∀ w ∈ lw_tbl, w.before args s = true) (hgv : (Jvm.Cond.and given_1 narrow_1).before args s = true) : ∀ q ∈ xstr, ∃ a, vk_R RX8 q.1 q.2 a s := by
  have hs := flat_of_before _ hgv
  have e97 : ∃ a, vk_R RX8 97 "no such plan" a s := by
    have h : (Cond.exactly (.string "PlanCertificates" 97) "java/lang/String").before args s = true := hs _ (by decide +kernel)
    obtain ⟨a, c, cA, kA, q1, -⟩ := Cond.exactly_spec (args := args) (first := s) (o := none) (s := s) (idx := []) (t := .string "PlanCertificates" 97) (cls := "java/lang/String") h
    exact ⟨a, vk_R.of (hts _ wq_s97) q1⟩
  have e233 : ∃ a, vk_R RX8 233 "no such row" a s := by
    have h : (Cond.exactly (.string "PlanCertificates" 233) "java/lang/String").before args s = true := hs _ (by decide +kernel)
    obtain ⟨a, c, cA, kA, q1, -⟩ := Cond.exactly_spec (args := args) (first := s) (o := none) (s := s) (idx := []) (t := .string "PlanCertificates" 233) (cls := "java/lang/String") h
    exact ⟨a, vk_R.of (hts _ wq_s233) q1⟩
  have e178 : ∃ a, vk_R RX8 178 "no such what" a s := by
    have h : (Cond.exactly (.string "PlanCertificates" 178) "java/lang/String").before args s = true := hs _ (by decide +kernel)
    obtain ⟨a, c, cA, kA, q1, -⟩ := Cond.exactly_spec (args := args) (first := s) (o := none) (s := s) (idx := []) (t := .string "PlanCertificates" 178) (cls := "java/lang/String") h
    exact ⟨a, vk_R.of (hts _ wq_s178) q1⟩
  have e198 : ∃ a, vk_R RX8 198 "there is no plan at all" a s := by
    have h : (Cond.exactly (.string "PlanCertificates" 198) "java/lang/String").before args s = true := hs _ (by decide +kernel)
    obtain ⟨a, c, cA, kA, q1, -⟩ := Cond.exactly_spec (args := args) (first := s) (o := none) (s := s) (idx := []) (t := .string "PlanCertificates" 198) (cls := "java/lang/String") h
    exact ⟨a, vk_R.of (hts _ wq_s198) q1⟩
  have e201 : ∃ a, vk_R RX8 201 "no plan is proved to be the best" a s := by
    have h : (Cond.exactly (.string "PlanCertificates" 201) "java/lang/String").before args s = true := hs _ (by decide +kernel)
    obtain ⟨a, c, cA, kA, q1, -⟩ := Cond.exactly_spec (args := args) (first := s) (o := none) (s := s) (idx := []) (t := .string "PlanCertificates" 201) (cls := "java/lang/String") h
    exact ⟨a, vk_R.of (hts _ wq_s201) q1⟩
  have e212 : ∃ a, vk_R RX8 212 "no row bounds the cost" a s := by
    have h : (Cond.exactly (.string "PlanCertificates" 212) "java/lang/String").before args s = true := hs _ (by decide +kernel)
    obtain ⟨a, c, cA, kA, q1, -⟩ := Cond.exactly_spec (args := args) (first := s) (o := none) (s := s) (idx := []) (t := .string "PlanCertificates" 212) (cls := "java/lang/String") h
    exact ⟨a, vk_R.of (hts _ wq_s212) q1⟩
  have e220 : ∃ a, vk_R RX8 220 "no such number" a s := by
    have h : (Cond.exactly (.string "PlanCertificates" 220) "java/lang/String").before args s = true := hs _ (by decide +kernel)
    obtain ⟨a, c, cA, kA, q1, -⟩ := Cond.exactly_spec (args := args) (first := s) (o := none) (s := s) (idx := []) (t := .string "PlanCertificates" 220) (cls := "java/lang/String") h
    exact ⟨a, vk_R.of (hts _ wq_s220) q1⟩
  intro q hq
  simp only [xstr, List.mem_cons, List.not_mem_nil, or_false] at hq
  rcases hq with rfl | rfl | rfl | rfl | rfl | rfl | rfl
  · exact e97
  · exact e233
  · exact e178
  · exact e198
  · exact e201
  · exact e212
  · exact e220
set_option maxRecDepth 100000 in
theorem y_stat {s : State} {args : Array Value} (hgv : (Jvm.Cond.and given_1 narrow_1).before args s = true) : (Cond.isRef (.static Bundle.tN "UNASSIGNED_STACK" Bundle.steD)).before args s = true ∧ (Cond.isRef (.static Bundle.tN "SUPPRESSED_SENTINEL" Bundle.listD)).before args s = true := by
  have hs := flat_of_before _ hgv
  exact ⟨hs _ (by decide +kernel), hs _ (by decide +kernel)⟩
set_option maxHeartbeats 4000000 in
set_option maxRecDepth 100000 in
/-- from the entry, for every script of at most 3072 ints, the law comes to its end with true -/
theorem whole_start {p : Program} {e : Env} {s : State} {m : MethodId} {below : List Frame} {meth : Method} {c : Code} (l : Launch) (hst : l.stackTraces = false) {b L : Nat} {xs : Nat → Int32} (hL : L ≤ 3072) (C0 : lw_At p s m meth c b L xs) : W p l e room_1 s m #[Value.ref b] below meth c s.heap [] 0 0 (lw_Z below #[Value.ref b] s) (entryFrame m ([Value.ref b] : List Value).toArray 8) := by
  obtain ⟨hx, hb, hr, hml, hown, hts, hX, hbl, hlocks, hgv⟩ := C0
  obtain ⟨D, hD⟩ := y_known hts
  obtain ⟨cs, hcs⟩ := y_arrs hts
  obtain ⟨n0, hn0⟩ : ∃ n0, s.heap.size = n0 := ⟨_, rfl⟩
  have hxK : xK (yG D cs n0) s := ⟨⟨hD, hcs D n0⟩, fun w hw hg => word_at (State.WarmedH.refl s) (good_of_word hg) (hts w hw), yG_inj⟩
  have hyK : yK (yG D cs n0) s := ⟨hxK, va_AO.of (hts _ wq_row), hts _ wq_ai⟩
  have hA : ∀ q, xA (yG D cs n0) q → s.heap.size ≤ q := fun q hq => by rw [hn0]; exact yG_A q hq
  have hA2 : ∀ a : Nat, a < s.heap.size → ¬ xA (yG D cs n0) a := fun a ha h => absurd (hA a h) (by omega)
  obtain ⟨z1, z2⟩ := y_stat hgv
  have hKt : xKt (yG D cs n0) s s.heap := ⟨hxK, fun w hw hg => xmv_at (State.WarmedH.refl s) hg (hts w hw), vx_Zqof (hts _ wq_us) (hts _ wq_th) z1 hA2, vx_Zqof (hts _ wq_ss) (hts _ wq_th) z2 hA2, y_strs hts hgv⟩
  have X : xC p s m meth c cL_law 8 RL ret (yG D cs n0) := ⟨hx, hb, hml, hown, hxK, hr, hlocks⟩
  have C : nC p l s m meth c (yG D cs n0) b L xs := ⟨X, hKt, hX, hbl, hA2 b hbl, hL, hst⟩
  have hl := lv_entry ([.ref b] : List Value) (n := 8) (Nat.le_of_ble_eq_true rfl)
  rw [lg_entry_eq]
  suffices h : yW p l e room_1 s m #[Value.ref b] below meth c 8 D n0 0 0 (lw_Z below #[Value.ref b] s) 0 [(0, .ref b)] [] 0 (yF D cs n0) from h s.heap [] _ ⟨hn0, fun x hx => absurd hx (Nat.not_lt_zero x)⟩ va_S.rf hl
  refine y_newI (N := 0) (B' := yF D cs n0) X hyK k_X8 rfl tyX8_ok dfX8 wz_cL_8 wz_nX8 wi_X8 rfl wl_L_42 wn_X8_init wc_X8_init rfl xnm_X8_init dL_law_0 dL_law_3 dL_law_4 (by decide) (fun _ _ => rfl) (fun _ _ _ => rfl) ⟨Nat.le_of_ble_eq_true rfl, Nat.le_of_ble_eq_true rfl, Nat.le_of_ble_eq_true rfl, Nat.le_of_ble_eq_true rfl⟩ (Nat.le_of_ble_eq_true rfl) ?_
  refine y_astore_n (lv' := [(1, .ref (n0 + 0)), (0, .ref b)]) X dL_law_7 rfl (by decide) rfl ?_
  refine y_newI (N := 503) (B' := yF D cs n0) X hyK k_X9 rfl tyX9_ok dfX9 wz_cL_43 wz_nX9 wi_X9 rfl wl_L_45 wn_X9_init wc_X9_init rfl xnm_X9_init dL_law_8 dL_law_11 dL_law_12 (by decide) (fun _ _ => rfl) (fun _ _ _ => rfl) ⟨Nat.le_of_ble_eq_true rfl, Nat.le_of_ble_eq_true rfl, Nat.le_of_ble_eq_true rfl, Nat.le_of_ble_eq_true rfl⟩ (Nat.le_of_ble_eq_true rfl) ?_
  refine y_astore_n (lv' := [(2, .ref (n0 + 503)), (1, .ref (n0 + 0)), (0, .ref b)]) X dL_law_15 rfl (by decide) rfl ?_
  refine y_iconst (v := 1) X dL_law_16 (by decide) ?_
  refine y_newaL (n := 1) (N := 526) (B' := yF D cs n0) X dL_law_17 (by decide) (by decide) (by decide) (fun _ _ => rfl) rfl ⟨Nat.le_of_ble_eq_true rfl, Nat.le_of_ble_eq_true rfl⟩ ?_
  refine y_astore_n (lv' := [(3, .ref (n0 + 526)), (2, .ref (n0 + 503)), (1, .ref (n0 + 0)), (0, .ref b)]) X dL_law_19 rfl (by decide) rfl ?_
  intro H locs ls hH hS hl
  refine va_forget (fun q hq => by rw [hn0]; exact hS.2.2 q hq) ?_
  have hH2 : xH (yG D cs n0) y0 H := yH_x hH (fun _ _ => rfl)
  have hS2 : va_S (xA (yG D cs n0)) s.heap H [] := ⟨hS.1, fun q h1 _ => hS.2.1 q h1 (fun h => by rw [hn0] at h1; exact absurd h (by show ¬ n0 ≤ q; omega)), fun _ h => nomatch h⟩
  suffices h : xW p l e room_1 s m #[Value.ref b] below meth c 8 (yG D cs n0) 527 55217 (lw_Z below #[Value.ref b] s) 20 [(3, .ref ((yG D cs n0).2.1 60)), (2, .ref ((yG D cs n0).2.1 37)), (1, .ref ((yG D cs n0).2.1 0)), (0, .ref b)] [] y0 from W.widen (Nat.le_of_ble_eq_true rfl) (Nat.le_of_ble_eq_true rfl) (h H [] ls hH2 hS2 hl)
  refine x_iconst (v := nI 0) X dL_law_20 (by decide) ?_
  refine x_istore (lv' := [(4, .int (nI 0)), (3, .ref ((yG D cs n0).2.1 60)), (2, .ref ((yG D cs n0).2.1 37)), (1, .ref ((yG D cs n0).2.1 0)), (0, .ref b)]) X dL_law_21 (by decide) rfl ?_
  refine x_pick [4, 3, 2, 1, 0] rfl ?_
  exact x_wid (Nat.le_of_ble_eq_true rfl) (Nat.le_of_ble_eq_true rfl) (law_loop C hA hr (L + 1) 0 y0 (Nat.zero_le _) (by omega) oI_first)
