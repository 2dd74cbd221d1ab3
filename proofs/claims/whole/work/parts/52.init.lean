abbrev W_X5_init (g : Gx) (a0 q1 q2 q3 q4 : Nat) (v0 : Nat → Int32) (v1 : Nat → Int32) (v2 : Nat → Int32) : va_W := [(a0, .inr (6, [.ref q1, .ref q3, .ref q4])), (q1, .inr (3, [.ref q2])), (q2, .inl (gI g, 32, .inl v0)), (q3, .inl (gI g, 32, .inl v1)), (q4, .inl (gI g, 32, .inl v2))]
abbrev rm_X5_init : Room := { frames := 7, cells := 4, slots := 97, locals := 240 }
theorem mw_X5_init_0 : (Cond.methodLink RX5 1 objectInit : Cond) ∈ wsX5_init := (List.mem_cons_of_mem _ (List.mem_append_left _ (List.mem_append_left _ (List.mem_append_left _ (List.mem_of_getElem? (l := wsX5_init_r1) (i := 0) rfl)))))
theorem mw_X5_init_1 : (Cond.instanceMethod objectInit : Cond) ∈ wsX5_init := (List.mem_cons_of_mem _ (List.mem_append_left _ (List.mem_append_left _ (List.mem_append_left _ (List.mem_of_getElem? (l := wsX5_init_r1) (i := 1) rfl)))))
theorem mw_X5_init_2 : (Cond.code objectInit ⟨#[0xb1]⟩ 1 none : Cond) ∈ wsX5_init := (List.mem_cons_of_mem _ (List.mem_append_left _ (List.mem_append_left _ (List.mem_append_left _ (List.mem_of_getElem? (l := wsX5_init_r1) (i := 2) rfl)))))
theorem mw_X5_init_3 : (Cond.classLink RX5 7 RX2 : Cond) ∈ wsX5_init := (List.mem_cons_of_mem _ (List.mem_append_left _ (List.mem_append_left _ (List.mem_append_left _ (List.mem_of_getElem? (l := wsX5_init_r1) (i := 3) rfl)))))
theorem mw_X5_init_4 : (Cond.instantiable RX2 1 : Cond) ∈ wsX5_init := (List.mem_cons_of_mem _ (List.mem_append_left _ (List.mem_append_left _ (List.mem_append_left _ (List.mem_of_getElem? (l := wsX5_init_r1) (i := 4) rfl)))))
theorem mw_X5_init_5 : (Cond.initialized RX2 : Cond) ∈ wsX5_init := (List.mem_cons_of_mem _ (List.mem_append_left _ (List.mem_append_left _ (List.mem_append_left _ (List.mem_of_getElem? (l := wsX5_init_r1) (i := 5) rfl)))))
theorem mw_X5_init_6 : (Cond.instanceMethod yX2_init : Cond) ∈ wsX5_init := (List.mem_cons_of_mem _ (List.mem_append_left _ (List.mem_append_left _ (List.mem_append_left _ (List.mem_of_getElem? (l := wsX5_init_r1) (i := 10) rfl)))))
theorem mw_X5_init_7 : (Cond.fieldLink RX5 10 "AnagramButcher$Stock" "pieces" "LAnagramButcher$Pile;" : Cond) ∈ wsX5_init := (List.mem_cons_of_mem _ (List.mem_append_left _ (List.mem_append_left _ (List.mem_append_left _ (List.mem_of_getElem? (l := wsX5_init_r1) (i := 6) rfl)))))
theorem mw_X5_init_8 : (Cond.arrayClass .int : Cond) ∈ wsX5_init := (List.mem_cons_of_mem _ (List.mem_append_left _ (List.mem_append_left _ (List.mem_append_left _ (List.mem_of_getElem? (l := wsX5_init_r1) (i := 7) rfl)))))
theorem mw_X5_init_9 : (Cond.fieldLink RX5 18 "AnagramButcher$Stock" "basePrices" "[I" : Cond) ∈ wsX5_init := (List.mem_cons_of_mem _ (List.mem_append_left _ (List.mem_append_left _ (List.mem_append_left _ (List.mem_of_getElem? (l := wsX5_init_r1) (i := 8) rfl)))))
theorem mw_X5_init_10 : (Cond.fieldLink RX5 22 "AnagramButcher$Stock" "weights" "[I" : Cond) ∈ wsX5_init := (List.mem_cons_of_mem _ (List.mem_append_left _ (List.mem_append_left _ (List.mem_append_left _ (List.mem_of_getElem? (l := wsX5_init_r1) (i := 9) rfl)))))
theorem mi_X5_init_X2 : ∀ w ∈ wsX20, w ∈ wsX5_init := fun _ h => (List.mem_cons_of_mem _ (List.mem_append_left _ (List.mem_append_right _ h)))
theorem mi_X5_init_X5 : ∀ w ∈ wsX50, w ∈ wsX5_init := fun _ h => (List.mem_cons_of_mem _ (List.mem_append_right _ h))
set_option maxHeartbeats 4000000 in
set_option maxRecDepth 100000 in
theorem w_X5_init_L33 {x : Cx} (hf : fx x (rm_X5_init) RX5 cX5_init wsX5_init) (hn : xn x = 2) {k0 n0 : Nat} (hk : k0 ≤ (rm_X5_init).cells ∧ n0 ≤ (rm_X5_init).slots) (a0 q1 q2 q3 q4 : Nat) (v0 : Nat → Int32) {K65 : (Nat → Int32) → (Nat → Int32) → Prop}
    (n : Nat) (z1 : Int32) (v1 : Nat → Int32) (v2 : Nat → Int32) (h : P_X5_init_L33 K65 n z1 v1 v2)
    (hK65 : ∀ (uv1 : Nat → Int32), ∀ (uv2 : Nat → Int32), K65 uv1 uv2 → ww x (W_X5_init (xg x) a0 q1 q2 q3 q4 v0 uv1 uv2) [] k0 n0 65 []) :
    ww x (W_X5_init (xg x) a0 q1 q2 q3 q4 v0 v1 v2) [(0, .ref a0), (1, .int z1)] k0 n0 33 [] := by
  induction n generalizing z1 v1 v2 with
  | zero => exact h.elim
  | succ n ih =>
    unfold P_X5_init_L33 at h
    refine xw_iload_n hf (pc := 33) dX5_init_33 rfl 1 rfl ?_
    refine xw_bipush hf (pc := 34) dX5_init_34 (v := 26) (by decide) ?_
    refine xw_icmp_gt hf (pc := 36) dX5_init_36 (tgt := 65) rfl ⟨fun c => ?_, fun c => ?_⟩
    · have h := h.1 c
      refine xw_L [] rfl ?_
      exact hK65 _ _ h
    · have h := h.2 c
      refine xw_aload_n hf (pc := 39) dX5_init_39 rfl 0 rfl ?_
      refine xw_get hf (pc := 40) dX5_init_40 (T := TX5) mi_X5_init_X5 rfl 0 rfl 1 (by decide) rfl mw_X5_init_9 rfl ?_
      refine xw_iload_n hf (pc := 43) dX5_init_43 rfl 1 rfl ?_
      refine xw_iload_n hf (pc := 44) dX5_init_44 rfl 1 rfl ?_
      refine xw_callS hf (pc := 45) (nA := 1) (Xr := W_X5_init (xg x) a0 q1 q2 q3 q4 v0 v1 v2) (rest := [.int z1, .ref q3]) (c_X5_firstPrice (xl x) (xg x) z1 h) gX5_init_X5_firstPrice (by rfl) rfl (by decide +kernel) ⟨⟨(Nat.le_of_ble_eq_true rfl), (Nat.le_of_ble_eq_true rfl)⟩, hk.1, hk.2⟩ (Nat.le_of_ble_eq_true rfl) (sb_rf _) rfl dX5_init_45 (fun v X1 hp => ?_)
      obtain ⟨r5, rfl, rfl, h⟩ := hp
      show ww x (W_X5_init (xg x) a0 q1 q2 q3 q4 v0 v1 v2) [(0, .ref a0), (1, .int z1)] k0 n0 48 [.int r5, .int z1, .ref q3]
      refine xw_iast hf (pc := 48) dX5_init_48 3 rfl h.1 (W_X5_init (xg x) a0 q1 q2 q3 q4 v0 (upd v1 z1.toNatClampNeg r5) v2) rfl ?_
      have h := h.2
      refine xw_aload_n hf (pc := 49) dX5_init_49 rfl 0 rfl ?_
      refine xw_get hf (pc := 50) dX5_init_50 (T := TX5) mi_X5_init_X5 rfl 0 rfl 2 (by decide) rfl mw_X5_init_10 rfl ?_
      refine xw_iload_n hf (pc := 53) dX5_init_53 rfl 1 rfl ?_
      refine xw_iload_n hf (pc := 54) dX5_init_54 rfl 1 rfl ?_
      refine xw_callS hf (pc := 55) (nA := 1) (Xr := W_X5_init (xg x) a0 q1 q2 q3 q4 v0 (upd v1 z1.toNatClampNeg r5) v2) (rest := [.int z1, .ref q4]) (c_X5_weight (xl x) (xg x) z1 h) gX5_init_X5_weight (by rfl) rfl (by decide +kernel) ⟨⟨(Nat.le_of_ble_eq_true rfl), (Nat.le_of_ble_eq_true rfl)⟩, hk.1, hk.2⟩ (Nat.le_of_ble_eq_true rfl) (sb_rf _) rfl dX5_init_55 (fun v X1 hp => ?_)
      obtain ⟨r6, rfl, rfl, h⟩ := hp
      show ww x (W_X5_init (xg x) a0 q1 q2 q3 q4 v0 (upd v1 z1.toNatClampNeg r5) v2) [(0, .ref a0), (1, .int z1)] k0 n0 58 [.int r6, .int z1, .ref q4]
      refine xw_iast hf (pc := 58) dX5_init_58 4 rfl h.1 (W_X5_init (xg x) a0 q1 q2 q3 q4 v0 (upd v1 z1.toNatClampNeg r5) (upd v2 z1.toNatClampNeg r6)) rfl ?_
      have h := h.2
      refine xw_iinc hf (pc := 59) dX5_init_59 (v := z1 + 1) 1 rfl rfl [(1, .int (z1 + 1)), (0, .ref a0)] hn (by decide) rfl ?_
      refine xw_goto hf (pc := 62) dX5_init_62 (tgt := 33) rfl ?_
      refine xw_L [1, 0] rfl ?_
      exact ih _ _ _ h
set_option maxHeartbeats 4000000 in
set_option maxRecDepth 100000 in
theorem c_X5_init (l : Launch) (g : Gx) (a0 : Nat) {post : (Nat → Int32) → (Nat → Int32) → Prop} (h : P_X5_init post) : cm l g yX5_init wsX5_init rm_X5_init [.ref a0] [(a0, .inr (6, [.null, .null, .null]))] (fun v X1 => ∃ (q1 q2 q3 q4 : Nat) (uv1 : Nat → Int32) (uv2 : Nat → Int32), v = none ∧ X1 = W_X5_init g a0 q1 q2 q3 q4 (fun _ => 0) uv1 uv2 ∧ post uv1 uv2) := by
  refine cm_of (cc := cX5_init) (nL := 2) (ret := none) (by decide +kernel) rfl (Nat.le_of_ble_eq_true rfl) ?_
  intro x hf hl hg hn hin hr
  subst hl
  subst hg
  unfold P_X5_init at h
  show ww x [(a0, .inr (6, [.null, .null, .null]))] [(0, .ref a0)] 0 0 0 []
  refine xw_aload_n hf (pc := 0) dX5_init_0 rfl 0 rfl ?_
  refine xw_objInit hf mw_X5_init_0 mw_X5_init_1 mw_X5_init_2 ⟨(Nat.le_of_ble_eq_true rfl), (Nat.le_of_ble_eq_true rfl)⟩ (Nat.le_of_ble_eq_true rfl) dX5_init_1 ?_
  refine xw_aload_n hf (pc := 4) dX5_init_4 rfl 0 rfl ?_
  refine xw_new hf (pc := 5) dX5_init_5 (ci := 3) mi_X5_init_X2 rfl tyX2_ok mw_X5_init_3 mw_X5_init_4 mw_X5_init_5 [.null] (fun j hj => by rcases (show j = 0 by omega) with rfl <;> rfl) (Nat.le_of_ble_eq_true rfl) (Nat.le_of_ble_eq_true rfl) (fun q1 => ?_)
  show ww x [(a0, .inr (6, [.null, .null, .null])), (q1, .inr (3, [.null]))] [(0, .ref a0)] 1 1 8 [.ref q1, .ref a0]
  refine xw_dup hf (pc := 8) dX5_init_8 rfl ?_
  refine xw_callIN hf (pc := 9) (nA := 0) (Xr := [(a0, .inr (6, [.null, .null, .null]))]) (rest := [.ref q1, .ref a0]) (c_X2_init (xl x) (xg x) q1) gX5_init_X2_init_n9 (by rfl) mw_X5_init_5 (by decide +kernel) mw_X5_init_6 rfl (by rfl) (by decide +kernel) ⟨⟨(Nat.le_of_ble_eq_true rfl), (Nat.le_of_ble_eq_true rfl)⟩, (Nat.le_of_ble_eq_true rfl), (Nat.le_of_ble_eq_true rfl)⟩ (Nat.le_of_ble_eq_true rfl) (sb_of [1, 0] rfl rfl) rfl dX5_init_9 (fun v X1 hp => ?_)
  obtain ⟨q2, rfl, rfl⟩ := hp
  refine xw_X (sb_of [2, 0, 1] rfl rfl) (show ww x [(a0, .inr (6, [.null, .null, .null])), (q1, .inr (3, [.ref q2])), (q2, .inl (gI (xg x), 32, .inl (fun _ => 0)))] [(0, .ref a0)] 2 33 12 [.ref q1, .ref a0] from ?_)
  refine xw_putF hf (pc := 12) dX5_init_12 hin (T := TX5) mi_X5_init_X5 rfl tyX5_ok nmX5 0 rfl 0 (by decide) rfl mw_X5_init_7 rfl rfl rfl rfl rfl (Nat.le_of_ble_eq_true rfl) [(a0, .inr (6, [.ref q1, .null, .null])), (q1, .inr (3, [.ref q2])), (q2, .inl (gI (xg x), 32, .inl (fun _ => 0)))] rfl ?_
  refine xw_aload_n hf (pc := 15) dX5_init_15 rfl 0 rfl ?_
  refine xw_bipush hf (pc := 16) dX5_init_16 (v := 32) (by decide) ?_
  refine xw_newa hf (pc := 18) dX5_init_18 (N := 32) (a0 := (32, .inl (fun _ => 0))) mw_X5_init_8 rfl 0 rfl (fun _ => rfl) (by decide) (by decide) (by decide) (Nat.le_of_ble_eq_true rfl) (Nat.le_of_ble_eq_true rfl) (fun q3 => ?_)
  show ww x [(a0, .inr (6, [.ref q1, .null, .null])), (q1, .inr (3, [.ref q2])), (q2, .inl (gI (xg x), 32, .inl (fun _ => 0))), (q3, .inl (gI (xg x), 32, .inl (fun _ => 0)))] [(0, .ref a0)] 3 65 20 [.ref q3, .ref a0]
  refine xw_putF hf (pc := 20) dX5_init_20 hin (T := TX5) mi_X5_init_X5 rfl tyX5_ok nmX5 0 rfl 1 (by decide) rfl mw_X5_init_9 rfl rfl rfl rfl rfl (Nat.le_of_ble_eq_true rfl) [(a0, .inr (6, [.ref q1, .ref q3, .null])), (q1, .inr (3, [.ref q2])), (q2, .inl (gI (xg x), 32, .inl (fun _ => 0))), (q3, .inl (gI (xg x), 32, .inl (fun _ => 0)))] rfl ?_
  refine xw_aload_n hf (pc := 23) dX5_init_23 rfl 0 rfl ?_
  refine xw_bipush hf (pc := 24) dX5_init_24 (v := 32) (by decide) ?_
  refine xw_newa hf (pc := 26) dX5_init_26 (N := 32) (a0 := (32, .inl (fun _ => 0))) mw_X5_init_8 rfl 0 rfl (fun _ => rfl) (by decide) (by decide) (by decide) (Nat.le_of_ble_eq_true rfl) (Nat.le_of_ble_eq_true rfl) (fun q4 => ?_)
  show ww x [(a0, .inr (6, [.ref q1, .ref q3, .null])), (q1, .inr (3, [.ref q2])), (q2, .inl (gI (xg x), 32, .inl (fun _ => 0))), (q3, .inl (gI (xg x), 32, .inl (fun _ => 0))), (q4, .inl (gI (xg x), 32, .inl (fun _ => 0)))] [(0, .ref a0)] 4 97 28 [.ref q4, .ref a0]
  refine xw_putF hf (pc := 28) dX5_init_28 hin (T := TX5) mi_X5_init_X5 rfl tyX5_ok nmX5 0 rfl 2 (by decide) rfl mw_X5_init_10 rfl rfl rfl rfl rfl (Nat.le_of_ble_eq_true rfl) [(a0, .inr (6, [.ref q1, .ref q3, .ref q4])), (q1, .inr (3, [.ref q2])), (q2, .inl (gI (xg x), 32, .inl (fun _ => 0))), (q3, .inl (gI (xg x), 32, .inl (fun _ => 0))), (q4, .inl (gI (xg x), 32, .inl (fun _ => 0)))] rfl ?_
  refine xw_iconst hf (pc := 31) dX5_init_31 (v := 1) (by decide) ?_
  refine xw_istore_n hf (pc := 32) dX5_init_32 rfl [(1, .int 1), (0, .ref a0)] hn (by decide) rfl ?_
  refine xw_X (sb_of [0, 1, 2, 3, 4] rfl rfl) (show ww x (W_X5_init (xg x) a0 q1 q2 q3 q4 (fun _ => 0) (fun _ => 0) (fun _ => 0)) [(1, .int 1), (0, .ref a0)] 4 97 33 [] from ?_)
  refine xw_L [1, 0] rfl ?_
  refine w_X5_init_L33 hf hn ⟨(Nat.le_of_ble_eq_true rfl), (Nat.le_of_ble_eq_true rfl)⟩ a0 q1 q2 q3 q4 (fun _ => 0) FU _ _ _ h (fun w7 w8 h => ?_)
  exact xw_vret hf (pc := 65) dX5_init_65 hr (Nat.le_of_ble_eq_true rfl) (Nat.le_of_ble_eq_true rfl) ⟨_, _, _, _, _, _, rfl, rfl, h⟩
