abbrev rm_X2_init : Room := { frames := 1, cells := 1, slots := 32, locals := 24 }
theorem mw_X2_init_0 : (Cond.methodLink RX2 3 objectInit : Cond) ∈ wsX2_init := (List.mem_cons_of_mem _ (List.mem_append_left _ (List.mem_of_getElem? (i := 0) rfl)))
theorem mw_X2_init_1 : (Cond.instanceMethod objectInit : Cond) ∈ wsX2_init := (List.mem_cons_of_mem _ (List.mem_append_left _ (List.mem_of_getElem? (i := 1) rfl)))
theorem mw_X2_init_2 : (Cond.code objectInit ⟨#[0xb1]⟩ 1 none : Cond) ∈ wsX2_init := (List.mem_cons_of_mem _ (List.mem_append_left _ (List.mem_of_getElem? (i := 2) rfl)))
theorem mw_X2_init_3 : (Cond.arrayClass .int : Cond) ∈ wsX2_init := (List.mem_cons_of_mem _ (List.mem_append_left _ (List.mem_of_getElem? (i := 3) rfl)))
theorem mw_X2_init_4 : (Cond.fieldLink RX2 11 "AnagramButcher$Pile" "pieces" "[I" : Cond) ∈ wsX2_init := (List.mem_cons_of_mem _ (List.mem_append_left _ (List.mem_of_getElem? (i := 4) rfl)))
theorem mi_X2_init_X2 : ∀ w ∈ wsX20, w ∈ wsX2_init := fun _ h => (List.mem_cons_of_mem _ (List.mem_append_right _ h))
set_option maxHeartbeats 4000000 in
set_option maxRecDepth 100000 in
theorem c_X2_init (l : Launch) (g : Gx) (a0 : Nat)  : cm l g yX2_init wsX2_init rm_X2_init [.ref a0] [(a0, .inr (3, [.null]))] (fun v X1 => ∃ (q1 : Nat) , v = none ∧ X1 = [(a0, .inr (3, [.ref q1])), (q1, .inl (gI g, 32, .inl (fun _ => 0)))]) := by
  refine cm_of (cc := cX2_init) (nL := 1) (ret := none) (by decide +kernel) rfl (Nat.le_of_ble_eq_true rfl) ?_
  intro x hf hl hg hn hin hr
  subst hl
  subst hg
  show ww x [(a0, .inr (3, [.null]))] [(0, .ref a0)] 0 0 0 []
  refine xw_aload_n hf (pc := 0) dX2_init_0 rfl 0 rfl ?_
  refine xw_objInit hf mw_X2_init_0 mw_X2_init_1 mw_X2_init_2 ⟨(Nat.le_of_ble_eq_true rfl), (Nat.le_of_ble_eq_true rfl)⟩ (Nat.le_of_ble_eq_true rfl) dX2_init_1 ?_
  refine xw_aload_n hf (pc := 4) dX2_init_4 rfl 0 rfl ?_
  refine xw_bipush hf (pc := 5) dX2_init_5 (v := 32) (by decide) ?_
  refine xw_newa hf (pc := 7) dX2_init_7 (N := 32) (a0 := (32, .inl (fun _ => 0))) mw_X2_init_3 rfl 0 rfl (fun _ => rfl) (by decide) (by decide) (by decide) (Nat.le_of_ble_eq_true rfl) (Nat.le_of_ble_eq_true rfl) (fun q1 => ?_)
  show ww x [(a0, .inr (3, [.null])), (q1, .inl (gI (xg x), 32, .inl (fun _ => 0)))] [(0, .ref a0)] 1 32 9 [.ref q1, .ref a0]
  refine xw_putF hf (pc := 9) dX2_init_9 hin (T := TX2) mi_X2_init_X2 rfl tyX2_ok nmX2 0 rfl 0 (by decide) rfl mw_X2_init_4 rfl rfl rfl rfl rfl (Nat.le_of_ble_eq_true rfl) [(a0, .inr (3, [.ref q1])), (q1, .inl (gI (xg x), 32, .inl (fun _ => 0)))] rfl ?_
  exact xw_vret hf (pc := 12) dX2_init_12 hr (Nat.le_of_ble_eq_true rfl) (Nat.le_of_ble_eq_true rfl) ⟨_, rfl, rfl⟩
abbrev rm_X6_init : Room := { frames := 1, cells := 1, slots := 60, locals := 24 }
theorem mw_X6_init_0 : (Cond.methodLink RX6 1 objectInit : Cond) ∈ wsX6_init := (List.mem_cons_of_mem _ (List.mem_append_left _ (List.mem_of_getElem? (i := 0) rfl)))
theorem mw_X6_init_1 : (Cond.instanceMethod objectInit : Cond) ∈ wsX6_init := (List.mem_cons_of_mem _ (List.mem_append_left _ (List.mem_of_getElem? (i := 1) rfl)))
theorem mw_X6_init_2 : (Cond.code objectInit ⟨#[0xb1]⟩ 1 none : Cond) ∈ wsX6_init := (List.mem_cons_of_mem _ (List.mem_append_left _ (List.mem_of_getElem? (i := 2) rfl)))
theorem mw_X6_init_3 : (Cond.arrayClass .long : Cond) ∈ wsX6_init := (List.mem_cons_of_mem _ (List.mem_append_left _ (List.mem_of_getElem? (i := 3) rfl)))
theorem mw_X6_init_4 : (Cond.fieldLink RX6 9 "AnagramButcher$WordRow" "words" "[J" : Cond) ∈ wsX6_init := (List.mem_cons_of_mem _ (List.mem_append_left _ (List.mem_of_getElem? (i := 4) rfl)))
theorem mi_X6_init_X6 : ∀ w ∈ wsX60, w ∈ wsX6_init := fun _ h => (List.mem_cons_of_mem _ (List.mem_append_right _ h))
set_option maxHeartbeats 4000000 in
set_option maxRecDepth 100000 in
theorem c_X6_init (l : Launch) (g : Gx) (a0 : Nat)  : cm l g yX6_init wsX6_init rm_X6_init [.ref a0] [(a0, .inr (7, [.null, .int 0]))] (fun v X1 => ∃ (q1 : Nat) , v = none ∧ X1 = [(a0, .inr (7, [.ref q1, .int 0])), (q1, .inl (gJ g, 60, .inr (.inl (fun _ => 0))))]) := by
  refine cm_of (cc := cX6_init) (nL := 1) (ret := none) (by decide +kernel) rfl (Nat.le_of_ble_eq_true rfl) ?_
  intro x hf hl hg hn hin hr
  subst hl
  subst hg
  show ww x [(a0, .inr (7, [.null, .int 0]))] [(0, .ref a0)] 0 0 0 []
  refine xw_aload_n hf (pc := 0) dX6_init_0 rfl 0 rfl ?_
  refine xw_objInit hf mw_X6_init_0 mw_X6_init_1 mw_X6_init_2 ⟨(Nat.le_of_ble_eq_true rfl), (Nat.le_of_ble_eq_true rfl)⟩ (Nat.le_of_ble_eq_true rfl) dX6_init_1 ?_
  refine xw_aload_n hf (pc := 4) dX6_init_4 rfl 0 rfl ?_
  refine xw_bipush hf (pc := 5) dX6_init_5 (v := 60) (by decide) ?_
  refine xw_newa hf (pc := 7) dX6_init_7 (N := 60) (a0 := (60, .inr (.inl (fun _ => 0)))) mw_X6_init_3 rfl 1 rfl (fun _ => rfl) (by decide) (by decide) (by decide) (Nat.le_of_ble_eq_true rfl) (Nat.le_of_ble_eq_true rfl) (fun q1 => ?_)
  show ww x [(a0, .inr (7, [.null, .int 0])), (q1, .inl (gJ (xg x), 60, .inr (.inl (fun _ => 0))))] [(0, .ref a0)] 1 60 9 [.ref q1, .ref a0]
  refine xw_putF hf (pc := 9) dX6_init_9 hin (T := TX6) mi_X6_init_X6 rfl tyX6_ok nmX6 0 rfl 0 (by decide) rfl mw_X6_init_4 rfl rfl rfl rfl rfl (Nat.le_of_ble_eq_true rfl) [(a0, .inr (7, [.ref q1, .int 0])), (q1, .inl (gJ (xg x), 60, .inr (.inl (fun _ => 0))))] rfl ?_
  exact xw_vret hf (pc := 12) dX6_init_12 hr (Nat.le_of_ble_eq_true rfl) (Nat.le_of_ble_eq_true rfl) ⟨_, rfl, rfl⟩
abbrev rm_X1_init : Room := { frames := 2, cells := 6, slots := 157, locals := 44 }
theorem mw_X1_init_0 : (Cond.methodLink RX1 1 objectInit : Cond) ∈ wsX1_init := (List.mem_cons_of_mem _ (List.mem_append_left _ (List.mem_append_left _ (List.mem_append_left _ (List.mem_of_getElem? (i := 0) rfl)))))
theorem mw_X1_init_1 : (Cond.instanceMethod objectInit : Cond) ∈ wsX1_init := (List.mem_cons_of_mem _ (List.mem_append_left _ (List.mem_append_left _ (List.mem_append_left _ (List.mem_of_getElem? (i := 1) rfl)))))
theorem mw_X1_init_2 : (Cond.code objectInit ⟨#[0xb1]⟩ 1 none : Cond) ∈ wsX1_init := (List.mem_cons_of_mem _ (List.mem_append_left _ (List.mem_append_left _ (List.mem_append_left _ (List.mem_of_getElem? (i := 2) rfl)))))
theorem mw_X1_init_3 : (Cond.classLink RX1 7 RX6 : Cond) ∈ wsX1_init := (List.mem_cons_of_mem _ (List.mem_append_left _ (List.mem_append_left _ (List.mem_append_left _ (List.mem_of_getElem? (i := 3) rfl)))))
theorem mw_X1_init_4 : (Cond.instantiable RX6 2 : Cond) ∈ wsX1_init := (List.mem_cons_of_mem _ (List.mem_append_left _ (List.mem_append_left _ (List.mem_append_left _ (List.mem_of_getElem? (i := 4) rfl)))))
theorem mw_X1_init_5 : (Cond.initialized RX6 : Cond) ∈ wsX1_init := (List.mem_cons_of_mem _ (List.mem_append_left _ (List.mem_append_left _ (List.mem_append_left _ (List.mem_of_getElem? (i := 5) rfl)))))
theorem mw_X1_init_6 : (Cond.instanceMethod yX6_init : Cond) ∈ wsX1_init := (List.mem_cons_of_mem _ (List.mem_append_left _ (List.mem_append_left _ (List.mem_append_left _ (List.mem_of_getElem? (i := 12) rfl)))))
theorem mw_X1_init_7 : (Cond.fieldLink RX1 10 "AnagramButcher$Dictionary" "words" "LAnagramButcher$WordRow;" : Cond) ∈ wsX1_init := (List.mem_cons_of_mem _ (List.mem_append_left _ (List.mem_append_left _ (List.mem_append_left _ (List.mem_of_getElem? (i := 6) rfl)))))
theorem mw_X1_init_8 : (Cond.fieldLink RX1 16 "AnagramButcher$Dictionary" "found" "LAnagramButcher$WordRow;" : Cond) ∈ wsX1_init := (List.mem_cons_of_mem _ (List.mem_append_left _ (List.mem_append_left _ (List.mem_append_left _ (List.mem_of_getElem? (i := 7) rfl)))))
theorem mw_X1_init_9 : (Cond.classLink RX1 19 RX2 : Cond) ∈ wsX1_init := (List.mem_cons_of_mem _ (List.mem_append_left _ (List.mem_append_left _ (List.mem_append_left _ (List.mem_of_getElem? (i := 8) rfl)))))
theorem mw_X1_init_10 : (Cond.instantiable RX2 1 : Cond) ∈ wsX1_init := (List.mem_cons_of_mem _ (List.mem_append_left _ (List.mem_append_left _ (List.mem_append_left _ (List.mem_of_getElem? (i := 9) rfl)))))
theorem mw_X1_init_11 : (Cond.initialized RX2 : Cond) ∈ wsX1_init := (List.mem_cons_of_mem _ (List.mem_append_left _ (List.mem_append_left _ (List.mem_append_left _ (List.mem_of_getElem? (i := 10) rfl)))))
theorem mw_X1_init_12 : (Cond.instanceMethod yX2_init : Cond) ∈ wsX1_init := (List.mem_cons_of_mem _ (List.mem_append_left _ (List.mem_append_left _ (List.mem_append_left _ (List.mem_of_getElem? (i := 17) rfl)))))
theorem mw_X1_init_13 : (Cond.fieldLink RX1 22 "AnagramButcher$Dictionary" "carcass" "LAnagramButcher$Pile;" : Cond) ∈ wsX1_init := (List.mem_cons_of_mem _ (List.mem_append_left _ (List.mem_append_left _ (List.mem_append_left _ (List.mem_of_getElem? (i := 11) rfl)))))
theorem mi_X1_init_X6 : ∀ w ∈ wsX60, w ∈ wsX1_init := fun _ h => (List.mem_cons_of_mem _ (List.mem_append_left _ (List.mem_append_left _ (List.mem_append_right _ h))))
theorem mi_X1_init_X1 : ∀ w ∈ wsX10, w ∈ wsX1_init := fun _ h => (List.mem_cons_of_mem _ (List.mem_append_left _ (List.mem_append_right _ h)))
theorem mi_X1_init_X2 : ∀ w ∈ wsX20, w ∈ wsX1_init := fun _ h => (List.mem_cons_of_mem _ (List.mem_append_right _ h))
set_option maxHeartbeats 4000000 in
set_option maxRecDepth 100000 in
theorem c_X1_init (l : Launch) (g : Gx) (a0 : Nat)  : cm l g yX1_init wsX1_init rm_X1_init [.ref a0] [(a0, .inr (2, [.null, .null, .null]))] (fun v X1 => ∃ (q1 q2 q3 q4 q5 q6 : Nat) , v = none ∧ X1 = [(a0, .inr (2, [.ref q1, .ref q3, .ref q5])), (q1, .inr (7, [.ref q2, .int 0])), (q2, .inl (gJ g, 60, .inr (.inl (fun _ => 0)))), (q3, .inr (7, [.ref q4, .int 0])), (q4, .inl (gJ g, 60, .inr (.inl (fun _ => 0)))), (q5, .inr (3, [.ref q6])), (q6, .inl (gI g, 32, .inl (fun _ => 0)))]) := by
  refine cm_of (cc := cX1_init) (nL := 1) (ret := none) (by decide +kernel) rfl (Nat.le_of_ble_eq_true rfl) ?_
  intro x hf hl hg hn hin hr
  subst hl
  subst hg
  show ww x [(a0, .inr (2, [.null, .null, .null]))] [(0, .ref a0)] 0 0 0 []
  refine xw_aload_n hf (pc := 0) dX1_init_0 rfl 0 rfl ?_
  refine xw_objInit hf mw_X1_init_0 mw_X1_init_1 mw_X1_init_2 ⟨(Nat.le_of_ble_eq_true rfl), (Nat.le_of_ble_eq_true rfl)⟩ (Nat.le_of_ble_eq_true rfl) dX1_init_1 ?_
  refine xw_aload_n hf (pc := 4) dX1_init_4 rfl 0 rfl ?_
  refine xw_new hf (pc := 5) dX1_init_5 (ci := 7) mi_X1_init_X6 rfl tyX6_ok mw_X1_init_3 mw_X1_init_4 mw_X1_init_5 [.null, .int 0] (fun j hj => by rcases (show j = 0 ∨ j = 1 by omega) with rfl | rfl <;> rfl) (Nat.le_of_ble_eq_true rfl) (Nat.le_of_ble_eq_true rfl) (fun q1 => ?_)
  show ww x [(a0, .inr (2, [.null, .null, .null])), (q1, .inr (7, [.null, .int 0]))] [(0, .ref a0)] 1 2 8 [.ref q1, .ref a0]
  refine xw_dup hf (pc := 8) dX1_init_8 rfl ?_
  refine xw_callIN hf (pc := 9) (nA := 0) (Xr := [(a0, .inr (2, [.null, .null, .null]))]) (rest := [.ref q1, .ref a0]) (c_X6_init (xl x) (xg x) q1) gX1_init_X6_init_n9 (by rfl) mw_X1_init_5 (by decide +kernel) mw_X1_init_6 rfl (by rfl) (by decide +kernel) ⟨⟨(Nat.le_of_ble_eq_true rfl), (Nat.le_of_ble_eq_true rfl)⟩, (Nat.le_of_ble_eq_true rfl), (Nat.le_of_ble_eq_true rfl)⟩ (Nat.le_of_ble_eq_true rfl) (sb_of [1, 0] rfl rfl) rfl dX1_init_9 (fun v X1 hp => ?_)
  obtain ⟨q2, rfl, rfl⟩ := hp
  refine xw_X (sb_of [2, 0, 1] rfl rfl) (show ww x [(a0, .inr (2, [.null, .null, .null])), (q1, .inr (7, [.ref q2, .int 0])), (q2, .inl (gJ (xg x), 60, .inr (.inl (fun _ => 0))))] [(0, .ref a0)] 2 62 12 [.ref q1, .ref a0] from ?_)
  refine xw_putF hf (pc := 12) dX1_init_12 hin (T := TX1) mi_X1_init_X1 rfl tyX1_ok nmX1 0 rfl 0 (by decide) rfl mw_X1_init_7 rfl rfl rfl rfl rfl (Nat.le_of_ble_eq_true rfl) [(a0, .inr (2, [.ref q1, .null, .null])), (q1, .inr (7, [.ref q2, .int 0])), (q2, .inl (gJ (xg x), 60, .inr (.inl (fun _ => 0))))] rfl ?_
  refine xw_aload_n hf (pc := 15) dX1_init_15 rfl 0 rfl ?_
  refine xw_new hf (pc := 16) dX1_init_16 (ci := 7) mi_X1_init_X6 rfl tyX6_ok mw_X1_init_3 mw_X1_init_4 mw_X1_init_5 [.null, .int 0] (fun j hj => by rcases (show j = 0 ∨ j = 1 by omega) with rfl | rfl <;> rfl) (Nat.le_of_ble_eq_true rfl) (Nat.le_of_ble_eq_true rfl) (fun q3 => ?_)
  show ww x [(a0, .inr (2, [.ref q1, .null, .null])), (q1, .inr (7, [.ref q2, .int 0])), (q2, .inl (gJ (xg x), 60, .inr (.inl (fun _ => 0)))), (q3, .inr (7, [.null, .int 0]))] [(0, .ref a0)] 3 64 19 [.ref q3, .ref a0]
  refine xw_dup hf (pc := 19) dX1_init_19 rfl ?_
  refine xw_callIN hf (pc := 20) (nA := 0) (Xr := [(a0, .inr (2, [.ref q1, .null, .null])), (q1, .inr (7, [.ref q2, .int 0])), (q2, .inl (gJ (xg x), 60, .inr (.inl (fun _ => 0))))]) (rest := [.ref q3, .ref a0]) (c_X6_init (xl x) (xg x) q3) gX1_init_X6_init_n9 (by rfl) mw_X1_init_5 (by decide +kernel) mw_X1_init_6 rfl (by rfl) (by decide +kernel) ⟨⟨(Nat.le_of_ble_eq_true rfl), (Nat.le_of_ble_eq_true rfl)⟩, (Nat.le_of_ble_eq_true rfl), (Nat.le_of_ble_eq_true rfl)⟩ (Nat.le_of_ble_eq_true rfl) (sb_of [3, 0, 1, 2] rfl rfl) rfl dX1_init_20 (fun v X1 hp => ?_)
  obtain ⟨q4, rfl, rfl⟩ := hp
  refine xw_X (sb_of [2, 3, 4, 0, 1] rfl rfl) (show ww x [(a0, .inr (2, [.ref q1, .null, .null])), (q1, .inr (7, [.ref q2, .int 0])), (q2, .inl (gJ (xg x), 60, .inr (.inl (fun _ => 0)))), (q3, .inr (7, [.ref q4, .int 0])), (q4, .inl (gJ (xg x), 60, .inr (.inl (fun _ => 0))))] [(0, .ref a0)] 4 124 23 [.ref q3, .ref a0] from ?_)
  refine xw_putF hf (pc := 23) dX1_init_23 hin (T := TX1) mi_X1_init_X1 rfl tyX1_ok nmX1 0 rfl 1 (by decide) rfl mw_X1_init_8 rfl rfl rfl rfl rfl (Nat.le_of_ble_eq_true rfl) [(a0, .inr (2, [.ref q1, .ref q3, .null])), (q1, .inr (7, [.ref q2, .int 0])), (q2, .inl (gJ (xg x), 60, .inr (.inl (fun _ => 0)))), (q3, .inr (7, [.ref q4, .int 0])), (q4, .inl (gJ (xg x), 60, .inr (.inl (fun _ => 0))))] rfl ?_
  refine xw_aload_n hf (pc := 26) dX1_init_26 rfl 0 rfl ?_
  refine xw_new hf (pc := 27) dX1_init_27 (ci := 3) mi_X1_init_X2 rfl tyX2_ok mw_X1_init_9 mw_X1_init_10 mw_X1_init_11 [.null] (fun j hj => by rcases (show j = 0 by omega) with rfl <;> rfl) (Nat.le_of_ble_eq_true rfl) (Nat.le_of_ble_eq_true rfl) (fun q5 => ?_)
  show ww x [(a0, .inr (2, [.ref q1, .ref q3, .null])), (q1, .inr (7, [.ref q2, .int 0])), (q2, .inl (gJ (xg x), 60, .inr (.inl (fun _ => 0)))), (q3, .inr (7, [.ref q4, .int 0])), (q4, .inl (gJ (xg x), 60, .inr (.inl (fun _ => 0)))), (q5, .inr (3, [.null]))] [(0, .ref a0)] 5 125 30 [.ref q5, .ref a0]
  refine xw_dup hf (pc := 30) dX1_init_30 rfl ?_
  refine xw_callIN hf (pc := 31) (nA := 0) (Xr := [(a0, .inr (2, [.ref q1, .ref q3, .null])), (q1, .inr (7, [.ref q2, .int 0])), (q2, .inl (gJ (xg x), 60, .inr (.inl (fun _ => 0)))), (q3, .inr (7, [.ref q4, .int 0])), (q4, .inl (gJ (xg x), 60, .inr (.inl (fun _ => 0))))]) (rest := [.ref q5, .ref a0]) (c_X2_init (xl x) (xg x) q5) gX1_init_X2_init_n21 (by rfl) mw_X1_init_11 (by decide +kernel) mw_X1_init_12 rfl (by rfl) (by decide +kernel) ⟨⟨(Nat.le_of_ble_eq_true rfl), (Nat.le_of_ble_eq_true rfl)⟩, (Nat.le_of_ble_eq_true rfl), (Nat.le_of_ble_eq_true rfl)⟩ (Nat.le_of_ble_eq_true rfl) (sb_of [5, 0, 1, 2, 3, 4] rfl rfl) rfl dX1_init_31 (fun v X1 hp => ?_)
  obtain ⟨q6, rfl, rfl⟩ := hp
  refine xw_X (sb_of [2, 3, 4, 5, 6, 0, 1] rfl rfl) (show ww x [(a0, .inr (2, [.ref q1, .ref q3, .null])), (q1, .inr (7, [.ref q2, .int 0])), (q2, .inl (gJ (xg x), 60, .inr (.inl (fun _ => 0)))), (q3, .inr (7, [.ref q4, .int 0])), (q4, .inl (gJ (xg x), 60, .inr (.inl (fun _ => 0)))), (q5, .inr (3, [.ref q6])), (q6, .inl (gI (xg x), 32, .inl (fun _ => 0)))] [(0, .ref a0)] 6 157 34 [.ref q5, .ref a0] from ?_)
  refine xw_putF hf (pc := 34) dX1_init_34 hin (T := TX1) mi_X1_init_X1 rfl tyX1_ok nmX1 0 rfl 2 (by decide) rfl mw_X1_init_13 rfl rfl rfl rfl rfl (Nat.le_of_ble_eq_true rfl) [(a0, .inr (2, [.ref q1, .ref q3, .ref q5])), (q1, .inr (7, [.ref q2, .int 0])), (q2, .inl (gJ (xg x), 60, .inr (.inl (fun _ => 0)))), (q3, .inr (7, [.ref q4, .int 0])), (q4, .inl (gJ (xg x), 60, .inr (.inl (fun _ => 0)))), (q5, .inr (3, [.ref q6])), (q6, .inl (gI (xg x), 32, .inl (fun _ => 0)))] rfl ?_
  exact xw_vret hf (pc := 37) dX1_init_37 hr (Nat.le_of_ble_eq_true rfl) (Nat.le_of_ble_eq_true rfl) ⟨_, _, _, _, _, _, rfl, rfl⟩
abbrev rm_X3_init : Room := { frames := 2, cells := 6, slots := 157, locals := 44 }
theorem mw_X3_init_0 : (Cond.methodLink RX3 1 objectInit : Cond) ∈ wsX3_init := (List.mem_cons_of_mem _ (List.mem_append_left _ (List.mem_append_left _ (List.mem_append_left _ (List.mem_of_getElem? (i := 0) rfl)))))
theorem mw_X3_init_1 : (Cond.instanceMethod objectInit : Cond) ∈ wsX3_init := (List.mem_cons_of_mem _ (List.mem_append_left _ (List.mem_append_left _ (List.mem_append_left _ (List.mem_of_getElem? (i := 1) rfl)))))
theorem mw_X3_init_2 : (Cond.code objectInit ⟨#[0xb1]⟩ 1 none : Cond) ∈ wsX3_init := (List.mem_cons_of_mem _ (List.mem_append_left _ (List.mem_append_left _ (List.mem_append_left _ (List.mem_of_getElem? (i := 2) rfl)))))
theorem mw_X3_init_3 : (Cond.classLink RX3 7 RX2 : Cond) ∈ wsX3_init := (List.mem_cons_of_mem _ (List.mem_append_left _ (List.mem_append_left _ (List.mem_append_left _ (List.mem_of_getElem? (i := 3) rfl)))))
theorem mw_X3_init_4 : (Cond.instantiable RX2 1 : Cond) ∈ wsX3_init := (List.mem_cons_of_mem _ (List.mem_append_left _ (List.mem_append_left _ (List.mem_append_left _ (List.mem_of_getElem? (i := 4) rfl)))))
theorem mw_X3_init_5 : (Cond.initialized RX2 : Cond) ∈ wsX3_init := (List.mem_cons_of_mem _ (List.mem_append_left _ (List.mem_append_left _ (List.mem_append_left _ (List.mem_of_getElem? (i := 5) rfl)))))
theorem mw_X3_init_6 : (Cond.instanceMethod yX2_init : Cond) ∈ wsX3_init := (List.mem_cons_of_mem _ (List.mem_append_left _ (List.mem_append_left _ (List.mem_append_left _ (List.mem_of_getElem? (i := 12) rfl)))))
theorem mw_X3_init_7 : (Cond.fieldLink RX3 10 "AnagramButcher$Planner" "left" "LAnagramButcher$Pile;" : Cond) ∈ wsX3_init := (List.mem_cons_of_mem _ (List.mem_append_left _ (List.mem_append_left _ (List.mem_append_left _ (List.mem_of_getElem? (i := 6) rfl)))))
theorem mw_X3_init_8 : (Cond.classLink RX3 16 RX6 : Cond) ∈ wsX3_init := (List.mem_cons_of_mem _ (List.mem_append_left _ (List.mem_append_left _ (List.mem_append_left _ (List.mem_of_getElem? (i := 7) rfl)))))
theorem mw_X3_init_9 : (Cond.instantiable RX6 2 : Cond) ∈ wsX3_init := (List.mem_cons_of_mem _ (List.mem_append_left _ (List.mem_append_left _ (List.mem_append_left _ (List.mem_of_getElem? (i := 8) rfl)))))
theorem mw_X3_init_10 : (Cond.initialized RX6 : Cond) ∈ wsX3_init := (List.mem_cons_of_mem _ (List.mem_append_left _ (List.mem_append_left _ (List.mem_append_left _ (List.mem_of_getElem? (i := 9) rfl)))))
theorem mw_X3_init_11 : (Cond.instanceMethod yX6_init : Cond) ∈ wsX3_init := (List.mem_cons_of_mem _ (List.mem_append_left _ (List.mem_append_left _ (List.mem_append_left _ (List.mem_of_getElem? (i := 17) rfl)))))
theorem mw_X3_init_12 : (Cond.fieldLink RX3 19 "AnagramButcher$Planner" "chosen" "LAnagramButcher$WordRow;" : Cond) ∈ wsX3_init := (List.mem_cons_of_mem _ (List.mem_append_left _ (List.mem_append_left _ (List.mem_append_left _ (List.mem_of_getElem? (i := 10) rfl)))))
theorem mw_X3_init_13 : (Cond.fieldLink RX3 23 "AnagramButcher$Planner" "best" "LAnagramButcher$WordRow;" : Cond) ∈ wsX3_init := (List.mem_cons_of_mem _ (List.mem_append_left _ (List.mem_append_left _ (List.mem_append_left _ (List.mem_of_getElem? (i := 11) rfl)))))
theorem mi_X3_init_X2 : ∀ w ∈ wsX20, w ∈ wsX3_init := fun _ h => (List.mem_cons_of_mem _ (List.mem_append_left _ (List.mem_append_left _ (List.mem_append_right _ h))))
theorem mi_X3_init_X3 : ∀ w ∈ wsX30, w ∈ wsX3_init := fun _ h => (List.mem_cons_of_mem _ (List.mem_append_left _ (List.mem_append_right _ h)))
theorem mi_X3_init_X6 : ∀ w ∈ wsX60, w ∈ wsX3_init := fun _ h => (List.mem_cons_of_mem _ (List.mem_append_right _ h))
set_option maxHeartbeats 4000000 in
set_option maxRecDepth 100000 in
theorem c_X3_init (l : Launch) (g : Gx) (a0 : Nat)  : cm l g yX3_init wsX3_init rm_X3_init [.ref a0] [(a0, .inr (4, [.null, .null, .null, .int 0, .int 0]))] (fun v X1 => ∃ (q1 q2 q3 q4 q5 q6 : Nat) , v = none ∧ X1 = [(a0, .inr (4, [.ref q1, .ref q3, .ref q5, .int 0, .int 0])), (q1, .inr (3, [.ref q2])), (q2, .inl (gI g, 32, .inl (fun _ => 0))), (q3, .inr (7, [.ref q4, .int 0])), (q4, .inl (gJ g, 60, .inr (.inl (fun _ => 0)))), (q5, .inr (7, [.ref q6, .int 0])), (q6, .inl (gJ g, 60, .inr (.inl (fun _ => 0))))]) := by
  refine cm_of (cc := cX3_init) (nL := 1) (ret := none) (by decide +kernel) rfl (Nat.le_of_ble_eq_true rfl) ?_
  intro x hf hl hg hn hin hr
  subst hl
  subst hg
  show ww x [(a0, .inr (4, [.null, .null, .null, .int 0, .int 0]))] [(0, .ref a0)] 0 0 0 []
  refine xw_aload_n hf (pc := 0) dX3_init_0 rfl 0 rfl ?_
  refine xw_objInit hf mw_X3_init_0 mw_X3_init_1 mw_X3_init_2 ⟨(Nat.le_of_ble_eq_true rfl), (Nat.le_of_ble_eq_true rfl)⟩ (Nat.le_of_ble_eq_true rfl) dX3_init_1 ?_
  refine xw_aload_n hf (pc := 4) dX3_init_4 rfl 0 rfl ?_
  refine xw_new hf (pc := 5) dX3_init_5 (ci := 3) mi_X3_init_X2 rfl tyX2_ok mw_X3_init_3 mw_X3_init_4 mw_X3_init_5 [.null] (fun j hj => by rcases (show j = 0 by omega) with rfl <;> rfl) (Nat.le_of_ble_eq_true rfl) (Nat.le_of_ble_eq_true rfl) (fun q1 => ?_)
  show ww x [(a0, .inr (4, [.null, .null, .null, .int 0, .int 0])), (q1, .inr (3, [.null]))] [(0, .ref a0)] 1 1 8 [.ref q1, .ref a0]
  refine xw_dup hf (pc := 8) dX3_init_8 rfl ?_
  refine xw_callIN hf (pc := 9) (nA := 0) (Xr := [(a0, .inr (4, [.null, .null, .null, .int 0, .int 0]))]) (rest := [.ref q1, .ref a0]) (c_X2_init (xl x) (xg x) q1) gX3_init_X2_init_n9 (by rfl) mw_X3_init_5 (by decide +kernel) mw_X3_init_6 rfl (by rfl) (by decide +kernel) ⟨⟨(Nat.le_of_ble_eq_true rfl), (Nat.le_of_ble_eq_true rfl)⟩, (Nat.le_of_ble_eq_true rfl), (Nat.le_of_ble_eq_true rfl)⟩ (Nat.le_of_ble_eq_true rfl) (sb_of [1, 0] rfl rfl) rfl dX3_init_9 (fun v X1 hp => ?_)
  obtain ⟨q2, rfl, rfl⟩ := hp
  refine xw_X (sb_of [2, 0, 1] rfl rfl) (show ww x [(a0, .inr (4, [.null, .null, .null, .int 0, .int 0])), (q1, .inr (3, [.ref q2])), (q2, .inl (gI (xg x), 32, .inl (fun _ => 0)))] [(0, .ref a0)] 2 33 12 [.ref q1, .ref a0] from ?_)
  refine xw_putF hf (pc := 12) dX3_init_12 hin (T := TX3) mi_X3_init_X3 rfl tyX3_ok nmX3 0 rfl 0 (by decide) rfl mw_X3_init_7 rfl rfl rfl rfl rfl (Nat.le_of_ble_eq_true rfl) [(a0, .inr (4, [.ref q1, .null, .null, .int 0, .int 0])), (q1, .inr (3, [.ref q2])), (q2, .inl (gI (xg x), 32, .inl (fun _ => 0)))] rfl ?_
  refine xw_aload_n hf (pc := 15) dX3_init_15 rfl 0 rfl ?_
  refine xw_new hf (pc := 16) dX3_init_16 (ci := 7) mi_X3_init_X6 rfl tyX6_ok mw_X3_init_8 mw_X3_init_9 mw_X3_init_10 [.null, .int 0] (fun j hj => by rcases (show j = 0 ∨ j = 1 by omega) with rfl | rfl <;> rfl) (Nat.le_of_ble_eq_true rfl) (Nat.le_of_ble_eq_true rfl) (fun q3 => ?_)
  show ww x [(a0, .inr (4, [.ref q1, .null, .null, .int 0, .int 0])), (q1, .inr (3, [.ref q2])), (q2, .inl (gI (xg x), 32, .inl (fun _ => 0))), (q3, .inr (7, [.null, .int 0]))] [(0, .ref a0)] 3 35 19 [.ref q3, .ref a0]
  refine xw_dup hf (pc := 19) dX3_init_19 rfl ?_
  refine xw_callIN hf (pc := 20) (nA := 0) (Xr := [(a0, .inr (4, [.ref q1, .null, .null, .int 0, .int 0])), (q1, .inr (3, [.ref q2])), (q2, .inl (gI (xg x), 32, .inl (fun _ => 0)))]) (rest := [.ref q3, .ref a0]) (c_X6_init (xl x) (xg x) q3) gX3_init_X6_init_n18 (by rfl) mw_X3_init_10 (by decide +kernel) mw_X3_init_11 rfl (by rfl) (by decide +kernel) ⟨⟨(Nat.le_of_ble_eq_true rfl), (Nat.le_of_ble_eq_true rfl)⟩, (Nat.le_of_ble_eq_true rfl), (Nat.le_of_ble_eq_true rfl)⟩ (Nat.le_of_ble_eq_true rfl) (sb_of [3, 0, 1, 2] rfl rfl) rfl dX3_init_20 (fun v X1 hp => ?_)
  obtain ⟨q4, rfl, rfl⟩ := hp
  refine xw_X (sb_of [2, 3, 4, 0, 1] rfl rfl) (show ww x [(a0, .inr (4, [.ref q1, .null, .null, .int 0, .int 0])), (q1, .inr (3, [.ref q2])), (q2, .inl (gI (xg x), 32, .inl (fun _ => 0))), (q3, .inr (7, [.ref q4, .int 0])), (q4, .inl (gJ (xg x), 60, .inr (.inl (fun _ => 0))))] [(0, .ref a0)] 4 95 23 [.ref q3, .ref a0] from ?_)
  refine xw_putF hf (pc := 23) dX3_init_23 hin (T := TX3) mi_X3_init_X3 rfl tyX3_ok nmX3 0 rfl 1 (by decide) rfl mw_X3_init_12 rfl rfl rfl rfl rfl (Nat.le_of_ble_eq_true rfl) [(a0, .inr (4, [.ref q1, .ref q3, .null, .int 0, .int 0])), (q1, .inr (3, [.ref q2])), (q2, .inl (gI (xg x), 32, .inl (fun _ => 0))), (q3, .inr (7, [.ref q4, .int 0])), (q4, .inl (gJ (xg x), 60, .inr (.inl (fun _ => 0))))] rfl ?_
  refine xw_aload_n hf (pc := 26) dX3_init_26 rfl 0 rfl ?_
  refine xw_new hf (pc := 27) dX3_init_27 (ci := 7) mi_X3_init_X6 rfl tyX6_ok mw_X3_init_8 mw_X3_init_9 mw_X3_init_10 [.null, .int 0] (fun j hj => by rcases (show j = 0 ∨ j = 1 by omega) with rfl | rfl <;> rfl) (Nat.le_of_ble_eq_true rfl) (Nat.le_of_ble_eq_true rfl) (fun q5 => ?_)
  show ww x [(a0, .inr (4, [.ref q1, .ref q3, .null, .int 0, .int 0])), (q1, .inr (3, [.ref q2])), (q2, .inl (gI (xg x), 32, .inl (fun _ => 0))), (q3, .inr (7, [.ref q4, .int 0])), (q4, .inl (gJ (xg x), 60, .inr (.inl (fun _ => 0)))), (q5, .inr (7, [.null, .int 0]))] [(0, .ref a0)] 5 97 30 [.ref q5, .ref a0]
  refine xw_dup hf (pc := 30) dX3_init_30 rfl ?_
  refine xw_callIN hf (pc := 31) (nA := 0) (Xr := [(a0, .inr (4, [.ref q1, .ref q3, .null, .int 0, .int 0])), (q1, .inr (3, [.ref q2])), (q2, .inl (gI (xg x), 32, .inl (fun _ => 0))), (q3, .inr (7, [.ref q4, .int 0])), (q4, .inl (gJ (xg x), 60, .inr (.inl (fun _ => 0))))]) (rest := [.ref q5, .ref a0]) (c_X6_init (xl x) (xg x) q5) gX3_init_X6_init_n18 (by rfl) mw_X3_init_10 (by decide +kernel) mw_X3_init_11 rfl (by rfl) (by decide +kernel) ⟨⟨(Nat.le_of_ble_eq_true rfl), (Nat.le_of_ble_eq_true rfl)⟩, (Nat.le_of_ble_eq_true rfl), (Nat.le_of_ble_eq_true rfl)⟩ (Nat.le_of_ble_eq_true rfl) (sb_of [5, 0, 1, 2, 3, 4] rfl rfl) rfl dX3_init_31 (fun v X1 hp => ?_)
  obtain ⟨q6, rfl, rfl⟩ := hp
  refine xw_X (sb_of [2, 3, 4, 5, 6, 0, 1] rfl rfl) (show ww x [(a0, .inr (4, [.ref q1, .ref q3, .null, .int 0, .int 0])), (q1, .inr (3, [.ref q2])), (q2, .inl (gI (xg x), 32, .inl (fun _ => 0))), (q3, .inr (7, [.ref q4, .int 0])), (q4, .inl (gJ (xg x), 60, .inr (.inl (fun _ => 0)))), (q5, .inr (7, [.ref q6, .int 0])), (q6, .inl (gJ (xg x), 60, .inr (.inl (fun _ => 0))))] [(0, .ref a0)] 6 157 34 [.ref q5, .ref a0] from ?_)
  refine xw_putF hf (pc := 34) dX3_init_34 hin (T := TX3) mi_X3_init_X3 rfl tyX3_ok nmX3 0 rfl 2 (by decide) rfl mw_X3_init_13 rfl rfl rfl rfl rfl (Nat.le_of_ble_eq_true rfl) [(a0, .inr (4, [.ref q1, .ref q3, .ref q5, .int 0, .int 0])), (q1, .inr (3, [.ref q2])), (q2, .inl (gI (xg x), 32, .inl (fun _ => 0))), (q3, .inr (7, [.ref q4, .int 0])), (q4, .inl (gJ (xg x), 60, .inr (.inl (fun _ => 0)))), (q5, .inr (7, [.ref q6, .int 0])), (q6, .inl (gJ (xg x), 60, .inr (.inl (fun _ => 0))))] rfl ?_
  exact xw_vret hf (pc := 37) dX3_init_37 hr (Nat.le_of_ble_eq_true rfl) (Nat.le_of_ble_eq_true rfl) ⟨_, _, _, _, _, _, rfl, rfl⟩
abbrev rm_X4_init : Room := { frames := 1, cells := 0, slots := 0, locals := 24 }
theorem mw_X4_init_0 : (Cond.methodLink RX4 1 objectInit : Cond) ∈ wsX4_init := (List.mem_cons_of_mem _ (List.mem_append_left _ (List.mem_of_getElem? (i := 0) rfl)))
theorem mw_X4_init_1 : (Cond.instanceMethod objectInit : Cond) ∈ wsX4_init := (List.mem_cons_of_mem _ (List.mem_append_left _ (List.mem_of_getElem? (i := 1) rfl)))
theorem mw_X4_init_2 : (Cond.code objectInit ⟨#[0xb1]⟩ 1 none : Cond) ∈ wsX4_init := (List.mem_cons_of_mem _ (List.mem_append_left _ (List.mem_of_getElem? (i := 2) rfl)))
theorem mw_X4_init_3 : (Cond.fieldLink RX4 7 "AnagramButcher$Receipt" "word" "J" : Cond) ∈ wsX4_init := (List.mem_cons_of_mem _ (List.mem_append_left _ (List.mem_of_getElem? (i := 3) rfl)))
theorem mw_X4_init_4 : (Cond.fieldLink RX4 13 "AnagramButcher$Receipt" "price" "I" : Cond) ∈ wsX4_init := (List.mem_cons_of_mem _ (List.mem_append_left _ (List.mem_of_getElem? (i := 4) rfl)))
theorem mi_X4_init_X4 : ∀ w ∈ wsX40, w ∈ wsX4_init := fun _ h => (List.mem_cons_of_mem _ (List.mem_append_right _ h))
set_option maxHeartbeats 4000000 in
set_option maxRecDepth 100000 in
theorem c_X4_init (l : Launch) (g : Gx) (a0 : Nat) (p1 : Int64) (p3 : Int32) : cm l g yX4_init wsX4_init rm_X4_init [.ref a0, .long p1, .int p3] [(a0, .inr (5, [.long 0, .int 0, .int 0]))] (fun v X1 => v = none ∧ X1 = [(a0, .inr (5, [.long p1, .int p3, .int 0]))]) := by
  refine cm_of (cc := cX4_init) (nL := 4) (ret := none) (by decide +kernel) rfl (Nat.le_of_ble_eq_true rfl) ?_
  intro x hf hl hg hn hin hr
  subst hl
  subst hg
  show ww x [(a0, .inr (5, [.long 0, .int 0, .int 0]))] [(0, .ref a0), (1, .long p1), (3, .int p3)] 0 0 0 []
  refine xw_aload_n hf (pc := 0) dX4_init_0 rfl 0 rfl ?_
  refine xw_objInit hf mw_X4_init_0 mw_X4_init_1 mw_X4_init_2 ⟨(Nat.le_of_ble_eq_true rfl), (Nat.le_of_ble_eq_true rfl)⟩ (Nat.le_of_ble_eq_true rfl) dX4_init_1 ?_
  refine xw_aload_n hf (pc := 4) dX4_init_4 rfl 0 rfl ?_
  refine xw_lload_n hf (pc := 5) dX4_init_5 rfl 1 rfl ?_
  refine xw_putF hf (pc := 6) dX4_init_6 hin (T := TX4) mi_X4_init_X4 rfl tyX4_ok nmX4 0 rfl 0 (by decide) rfl mw_X4_init_3 rfl rfl rfl rfl rfl (Nat.le_of_ble_eq_true rfl) [(a0, .inr (5, [.long p1, .int 0, .int 0]))] rfl ?_
  refine xw_aload_n hf (pc := 9) dX4_init_9 rfl 0 rfl ?_
  refine xw_iload_n hf (pc := 10) dX4_init_10 rfl 2 rfl ?_
  refine xw_putF hf (pc := 11) dX4_init_11 hin (T := TX4) mi_X4_init_X4 rfl tyX4_ok nmX4 0 rfl 1 (by decide) rfl mw_X4_init_4 rfl rfl rfl rfl rfl (Nat.le_of_ble_eq_true rfl) [(a0, .inr (5, [.long p1, .int p3, .int 0]))] rfl ?_
  exact xw_vret hf (pc := 14) dX4_init_14 hr (Nat.le_of_ble_eq_true rfl) (Nat.le_of_ble_eq_true rfl) ⟨rfl, rfl⟩
abbrev rm_X0_init : Room := { frames := 4, cells := 5, slots := 69, locals := 140 }
theorem mw_X0_init_0 : (Cond.methodLink RX0 3 objectInit : Cond) ∈ wsX0_init := (List.mem_cons_of_mem _ (List.mem_append_left _ (List.mem_append_left _ (List.mem_append_left _ (List.mem_append_left _ (List.mem_of_getElem? (l := wsX0_init_r1) (i := 0) rfl))))))
theorem mw_X0_init_1 : (Cond.instanceMethod objectInit : Cond) ∈ wsX0_init := (List.mem_cons_of_mem _ (List.mem_append_left _ (List.mem_append_left _ (List.mem_append_left _ (List.mem_append_left _ (List.mem_of_getElem? (l := wsX0_init_r1) (i := 1) rfl))))))
theorem mw_X0_init_2 : (Cond.code objectInit ⟨#[0xb1]⟩ 1 none : Cond) ∈ wsX0_init := (List.mem_cons_of_mem _ (List.mem_append_left _ (List.mem_append_left _ (List.mem_append_left _ (List.mem_append_left _ (List.mem_of_getElem? (l := wsX0_init_r1) (i := 2) rfl))))))
theorem mw_X0_init_3 : (Cond.classLink RX0 9 RJx4a65c : Cond) ∈ wsX0_init := (List.mem_cons_of_mem _ (List.mem_append_left _ (List.mem_append_left _ (List.mem_append_left _ (List.mem_append_left _ (List.mem_of_getElem? (l := wsX0_init_r1) (i := 3) rfl))))))
theorem mw_X0_init_4 : (Cond.instantiable RJx4a65c 3 : Cond) ∈ wsX0_init := (List.mem_cons_of_mem _ (List.mem_append_left _ (List.mem_append_left _ (List.mem_append_left _ (List.mem_append_left _ (List.mem_of_getElem? (l := wsX0_init_r1) (i := 4) rfl))))))
theorem mw_X0_init_5 : (Cond.initialized RJx4a65c : Cond) ∈ wsX0_init := (List.mem_cons_of_mem _ (List.mem_append_left _ (List.mem_append_left _ (List.mem_append_left _ (List.mem_append_left _ (List.mem_of_getElem? (l := wsX0_init_r1) (i := 5) rfl))))))
theorem mw_X0_init_6 : (Cond.methodLink RX0 11 yJx4a65c_init_da8c8 : Cond) ∈ wsX0_init := (List.mem_cons_of_mem _ (List.mem_append_left _ (List.mem_append_left _ (List.mem_append_left _ (List.mem_append_left _ (List.mem_of_getElem? (l := wsX0_init_r1) (i := 12) rfl))))))
theorem mw_X0_init_7 : (Cond.instanceMethod yJx4a65c_init_da8c8 : Cond) ∈ wsX0_init := (List.mem_cons_of_mem _ (List.mem_append_left _ (List.mem_append_left _ (List.mem_append_left _ (List.mem_append_left _ (List.mem_of_getElem? (l := wsX0_init_r1) (i := 13) rfl))))))
theorem mw_X0_init_8 : (Cond.fieldLink RX0 12 "AnagramButcher$Accounts" "receipts" "Ljava/util/List;" : Cond) ∈ wsX0_init := (List.mem_cons_of_mem _ (List.mem_append_left _ (List.mem_append_left _ (List.mem_append_left _ (List.mem_append_left _ (List.mem_of_getElem? (l := wsX0_init_r1) (i := 6) rfl))))))
theorem mw_X0_init_9 : (Cond.classLink RX0 18 RX2 : Cond) ∈ wsX0_init := (List.mem_cons_of_mem _ (List.mem_append_left _ (List.mem_append_left _ (List.mem_append_left _ (List.mem_append_left _ (List.mem_of_getElem? (l := wsX0_init_r1) (i := 7) rfl))))))
theorem mw_X0_init_10 : (Cond.instantiable RX2 1 : Cond) ∈ wsX0_init := (List.mem_cons_of_mem _ (List.mem_append_left _ (List.mem_append_left _ (List.mem_append_left _ (List.mem_append_left _ (List.mem_of_getElem? (l := wsX0_init_r1) (i := 8) rfl))))))
theorem mw_X0_init_11 : (Cond.initialized RX2 : Cond) ∈ wsX0_init := (List.mem_cons_of_mem _ (List.mem_append_left _ (List.mem_append_left _ (List.mem_append_left _ (List.mem_append_left _ (List.mem_of_getElem? (l := wsX0_init_r1) (i := 9) rfl))))))
theorem mw_X0_init_12 : (Cond.instanceMethod yX2_init : Cond) ∈ wsX0_init := (List.mem_cons_of_mem _ (List.mem_append_left _ (List.mem_append_left _ (List.mem_append_left _ (List.mem_append_right _ (List.mem_of_getElem? (l := wsX0_init_r2) (i := 3) rfl))))))
theorem mw_X0_init_13 : (Cond.fieldLink RX0 21 "AnagramButcher$Accounts" "cameIn" "LAnagramButcher$Pile;" : Cond) ∈ wsX0_init := (List.mem_cons_of_mem _ (List.mem_append_left _ (List.mem_append_left _ (List.mem_append_left _ (List.mem_append_left _ (List.mem_of_getElem? (l := wsX0_init_r1) (i := 10) rfl))))))
theorem mw_X0_init_14 : (Cond.fieldLink RX0 25 "AnagramButcher$Accounts" "sold" "LAnagramButcher$Pile;" : Cond) ∈ wsX0_init := (List.mem_cons_of_mem _ (List.mem_append_left _ (List.mem_append_left _ (List.mem_append_left _ (List.mem_append_left _ (List.mem_of_getElem? (l := wsX0_init_r1) (i := 11) rfl))))))
theorem mi_X0_init_Jx4a65c : ∀ w ∈ wsJx4a65c0, w ∈ wsX0_init := fun _ h => (List.mem_cons_of_mem _ (List.mem_append_left _ (List.mem_append_left _ (List.mem_append_right _ h))))
theorem mi_X0_init_X0 : ∀ w ∈ wsX00, w ∈ wsX0_init := fun _ h => (List.mem_cons_of_mem _ (List.mem_append_left _ (List.mem_append_right _ h)))
theorem mi_X0_init_X2 : ∀ w ∈ wsX20, w ∈ wsX0_init := fun _ h => (List.mem_cons_of_mem _ (List.mem_append_right _ h))
set_option maxHeartbeats 4000000 in
set_option maxRecDepth 100000 in
theorem c_X0_init (l : Launch) (g : Gx) (a0 : Nat)  : cm l g yX0_init wsX0_init rm_X0_init [.ref a0] [(a0, .inr (1, [.null, .null, .null, .int 0]))] (fun v X1 => ∃ (q1 q2 q3 q4 q5 : Nat) , v = none ∧ X1 = [(a0, .inr (1, [.ref q1, .ref q2, .ref q4, .int 0])), (q1, .inr (0, [.int 0, .ref (gM g 1), .int 0])), (q2, .inr (3, [.ref q3])), (q3, .inl (gI g, 32, .inl (fun _ => 0))), (q4, .inr (3, [.ref q5])), (q5, .inl (gI g, 32, .inl (fun _ => 0)))]) := by
  refine cm_of (cc := cX0_init) (nL := 1) (ret := none) (by decide +kernel) rfl (Nat.le_of_ble_eq_true rfl) ?_
  intro x hf hl hg hn hin hr
  subst hl
  subst hg
  show ww x [(a0, .inr (1, [.null, .null, .null, .int 0]))] [(0, .ref a0)] 0 0 0 []
  refine xw_aload_n hf (pc := 0) dX0_init_0 rfl 0 rfl ?_
  refine xw_objInit hf mw_X0_init_0 mw_X0_init_1 mw_X0_init_2 ⟨(Nat.le_of_ble_eq_true rfl), (Nat.le_of_ble_eq_true rfl)⟩ (Nat.le_of_ble_eq_true rfl) dX0_init_1 ?_
  refine xw_aload_n hf (pc := 4) dX0_init_4 rfl 0 rfl ?_
  refine xw_new hf (pc := 5) dX0_init_5 (ci := 0) mi_X0_init_Jx4a65c rfl tyJx4a65c_ok mw_X0_init_3 mw_X0_init_4 mw_X0_init_5 [.int 0, .null, .int 0] (fun j hj => by rcases (show j = 0 ∨ j = 1 ∨ j = 2 by omega) with rfl | rfl | rfl <;> rfl) (Nat.le_of_ble_eq_true rfl) (Nat.le_of_ble_eq_true rfl) (fun q1 => ?_)
  show ww x [(a0, .inr (1, [.null, .null, .null, .int 0])), (q1, .inr (0, [.int 0, .null, .int 0]))] [(0, .ref a0)] 1 3 8 [.ref q1, .ref a0]
  refine xw_dup hf (pc := 8) dX0_init_8 rfl ?_
  refine xw_callI hf (pc := 9) (nA := 0) (Xr := [(a0, .inr (1, [.null, .null, .null, .int 0]))]) (rest := [.ref q1, .ref a0]) (c_Jx4a65c_init_da8c8 (xl x) (xg x) q1) gX0_init_Jx4a65c_init_da8c8 (by rfl) mw_X0_init_5 mw_X0_init_6 mw_X0_init_7 rfl (by rfl) (by decide +kernel) ⟨⟨(Nat.le_of_ble_eq_true rfl), (Nat.le_of_ble_eq_true rfl)⟩, (Nat.le_of_ble_eq_true rfl), (Nat.le_of_ble_eq_true rfl)⟩ (Nat.le_of_ble_eq_true rfl) (sb_of [1, 0] rfl rfl) rfl dX0_init_9 (fun v X1 hp => ?_)
  obtain ⟨rfl, rfl⟩ := hp
  refine xw_X (sb_of [1, 0] rfl rfl) (show ww x [(a0, .inr (1, [.null, .null, .null, .int 0])), (q1, .inr (0, [.int 0, .ref (gM (xg x) 1), .int 0]))] [(0, .ref a0)] 1 3 12 [.ref q1, .ref a0] from ?_)
  refine xw_putF hf (pc := 12) dX0_init_12 hin (T := TX0) mi_X0_init_X0 rfl tyX0_ok nmX0 0 rfl 0 (by decide) rfl mw_X0_init_8 rfl rfl rfl rfl rfl (Nat.le_of_ble_eq_true rfl) [(a0, .inr (1, [.ref q1, .null, .null, .int 0])), (q1, .inr (0, [.int 0, .ref (gM (xg x) 1), .int 0]))] rfl ?_
  refine xw_aload_n hf (pc := 15) dX0_init_15 rfl 0 rfl ?_
  refine xw_new hf (pc := 16) dX0_init_16 (ci := 3) mi_X0_init_X2 rfl tyX2_ok mw_X0_init_9 mw_X0_init_10 mw_X0_init_11 [.null] (fun j hj => by rcases (show j = 0 by omega) with rfl <;> rfl) (Nat.le_of_ble_eq_true rfl) (Nat.le_of_ble_eq_true rfl) (fun q2 => ?_)
  show ww x [(a0, .inr (1, [.ref q1, .null, .null, .int 0])), (q1, .inr (0, [.int 0, .ref (gM (xg x) 1), .int 0])), (q2, .inr (3, [.null]))] [(0, .ref a0)] 2 4 19 [.ref q2, .ref a0]
  refine xw_dup hf (pc := 19) dX0_init_19 rfl ?_
  refine xw_callIN hf (pc := 20) (nA := 0) (Xr := [(a0, .inr (1, [.ref q1, .null, .null, .int 0])), (q1, .inr (0, [.int 0, .ref (gM (xg x) 1), .int 0]))]) (rest := [.ref q2, .ref a0]) (c_X2_init (xl x) (xg x) q2) gX0_init_X2_init_n20 (by rfl) mw_X0_init_11 (by decide +kernel) mw_X0_init_12 rfl (by rfl) (by decide +kernel) ⟨⟨(Nat.le_of_ble_eq_true rfl), (Nat.le_of_ble_eq_true rfl)⟩, (Nat.le_of_ble_eq_true rfl), (Nat.le_of_ble_eq_true rfl)⟩ (Nat.le_of_ble_eq_true rfl) (sb_of [2, 0, 1] rfl rfl) rfl dX0_init_20 (fun v X1 hp => ?_)
  obtain ⟨q3, rfl, rfl⟩ := hp
  refine xw_X (sb_of [2, 3, 0, 1] rfl rfl) (show ww x [(a0, .inr (1, [.ref q1, .null, .null, .int 0])), (q1, .inr (0, [.int 0, .ref (gM (xg x) 1), .int 0])), (q2, .inr (3, [.ref q3])), (q3, .inl (gI (xg x), 32, .inl (fun _ => 0)))] [(0, .ref a0)] 3 36 23 [.ref q2, .ref a0] from ?_)
  refine xw_putF hf (pc := 23) dX0_init_23 hin (T := TX0) mi_X0_init_X0 rfl tyX0_ok nmX0 0 rfl 1 (by decide) rfl mw_X0_init_13 rfl rfl rfl rfl rfl (Nat.le_of_ble_eq_true rfl) [(a0, .inr (1, [.ref q1, .ref q2, .null, .int 0])), (q1, .inr (0, [.int 0, .ref (gM (xg x) 1), .int 0])), (q2, .inr (3, [.ref q3])), (q3, .inl (gI (xg x), 32, .inl (fun _ => 0)))] rfl ?_
  refine xw_aload_n hf (pc := 26) dX0_init_26 rfl 0 rfl ?_
  refine xw_new hf (pc := 27) dX0_init_27 (ci := 3) mi_X0_init_X2 rfl tyX2_ok mw_X0_init_9 mw_X0_init_10 mw_X0_init_11 [.null] (fun j hj => by rcases (show j = 0 by omega) with rfl <;> rfl) (Nat.le_of_ble_eq_true rfl) (Nat.le_of_ble_eq_true rfl) (fun q4 => ?_)
  show ww x [(a0, .inr (1, [.ref q1, .ref q2, .null, .int 0])), (q1, .inr (0, [.int 0, .ref (gM (xg x) 1), .int 0])), (q2, .inr (3, [.ref q3])), (q3, .inl (gI (xg x), 32, .inl (fun _ => 0))), (q4, .inr (3, [.null]))] [(0, .ref a0)] 4 37 30 [.ref q4, .ref a0]
  refine xw_dup hf (pc := 30) dX0_init_30 rfl ?_
  refine xw_callIN hf (pc := 31) (nA := 0) (Xr := [(a0, .inr (1, [.ref q1, .ref q2, .null, .int 0])), (q1, .inr (0, [.int 0, .ref (gM (xg x) 1), .int 0])), (q2, .inr (3, [.ref q3])), (q3, .inl (gI (xg x), 32, .inl (fun _ => 0)))]) (rest := [.ref q4, .ref a0]) (c_X2_init (xl x) (xg x) q4) gX0_init_X2_init_n20 (by rfl) mw_X0_init_11 (by decide +kernel) mw_X0_init_12 rfl (by rfl) (by decide +kernel) ⟨⟨(Nat.le_of_ble_eq_true rfl), (Nat.le_of_ble_eq_true rfl)⟩, (Nat.le_of_ble_eq_true rfl), (Nat.le_of_ble_eq_true rfl)⟩ (Nat.le_of_ble_eq_true rfl) (sb_of [4, 0, 1, 2, 3] rfl rfl) rfl dX0_init_31 (fun v X1 hp => ?_)
  obtain ⟨q5, rfl, rfl⟩ := hp
  refine xw_X (sb_of [2, 3, 4, 5, 0, 1] rfl rfl) (show ww x [(a0, .inr (1, [.ref q1, .ref q2, .null, .int 0])), (q1, .inr (0, [.int 0, .ref (gM (xg x) 1), .int 0])), (q2, .inr (3, [.ref q3])), (q3, .inl (gI (xg x), 32, .inl (fun _ => 0))), (q4, .inr (3, [.ref q5])), (q5, .inl (gI (xg x), 32, .inl (fun _ => 0)))] [(0, .ref a0)] 5 69 34 [.ref q4, .ref a0] from ?_)
  refine xw_putF hf (pc := 34) dX0_init_34 hin (T := TX0) mi_X0_init_X0 rfl tyX0_ok nmX0 0 rfl 2 (by decide) rfl mw_X0_init_14 rfl rfl rfl rfl rfl (Nat.le_of_ble_eq_true rfl) [(a0, .inr (1, [.ref q1, .ref q2, .ref q4, .int 0])), (q1, .inr (0, [.int 0, .ref (gM (xg x) 1), .int 0])), (q2, .inr (3, [.ref q3])), (q3, .inl (gI (xg x), 32, .inl (fun _ => 0))), (q4, .inr (3, [.ref q5])), (q5, .inl (gI (xg x), 32, .inl (fun _ => 0)))] rfl ?_
  exact xw_vret hf (pc := 37) dX0_init_37 hr (Nat.le_of_ble_eq_true rfl) (Nat.le_of_ble_eq_true rfl) ⟨_, _, _, _, _, rfl, rfl⟩
