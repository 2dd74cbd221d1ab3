/-! the constant strings -/
theorem jw_J1_indexOf_4cfef_56 : (Cond.methodLink RJ1 92 Lib.Math.max.name) ∈ wsJ1_indexOf_4cfef := (List.mem_cons_of_mem _ (List.mem_of_getElem? (i := 0) rfl))
theorem jw_J1_indexOf_4cfef_57 : (Cond.static Lib.Math.max.name) ∈ wsJ1_indexOf_4cfef := (List.mem_cons_of_mem _ (List.mem_of_getElem? (i := 1) rfl))
theorem jw_J1_indexOf_4cfef_58 : (Cond.initialized "java/lang/Math") ∈ wsJ1_indexOf_4cfef := (List.mem_cons_of_mem _ (List.mem_of_getElem? (i := 2) rfl))
theorem jw_J1_indexOf_4cfef_59 : (Cond.code Lib.Math.max.name Lib.Math.max.code 2 (some .int)) ∈ wsJ1_indexOf_4cfef := (List.mem_cons_of_mem _ (List.mem_of_getElem? (i := 3) rfl))
theorem jw_J1_indexOf_4cfef_60 : (Cond.methodLink RJ1 38 Lib.Math.min.name) ∈ wsJ1_indexOf_4cfef := (List.mem_cons_of_mem _ (List.mem_of_getElem? (i := 4) rfl))
theorem jw_J1_indexOf_4cfef_61 : (Cond.static Lib.Math.min.name) ∈ wsJ1_indexOf_4cfef := (List.mem_cons_of_mem _ (List.mem_of_getElem? (i := 5) rfl))
theorem jw_J1_indexOf_4cfef_62 : (Cond.code Lib.Math.min.name Lib.Math.min.code 2 (some .int)) ∈ wsJ1_indexOf_4cfef := (List.mem_cons_of_mem _ (List.mem_of_getElem? (i := 6) rfl))
theorem jw_J0_isLatin1_aae02_63 : (Cond.fieldLink RJ0 38 "java/lang/String" "COMPACT_STRINGS" "Z") ∈ wsJ0_isLatin1_aae02 := (List.mem_cons_of_mem _ (List.mem_of_getElem? (i := 0) rfl))
theorem jw_J0_isLatin1_aae02_64 : (Cond.fieldLink RJ0 15 "java/lang/String" "coder" "B") ∈ wsJ0_isLatin1_aae02 := (List.mem_cons_of_mem _ (List.mem_of_getElem? (i := 1) rfl))
theorem jw_J0_coder_7d493_65 : (Cond.fieldLink RJ0 38 "java/lang/String" "COMPACT_STRINGS" "Z") ∈ wsJ0_coder_7d493 := (List.mem_cons_of_mem _ (List.mem_of_getElem? (i := 0) rfl))
theorem jw_J0_coder_7d493_66 : (Cond.fieldLink RJ0 15 "java/lang/String" "coder" "B") ∈ wsJ0_coder_7d493 := (List.mem_cons_of_mem _ (List.mem_of_getElem? (i := 1) rfl))
theorem jw_J0_length_8abf5_67 : (Cond.fieldLink RJ0 9 "java/lang/String" "value" "[B") ∈ wsJ0_length_8abf5 := (List.mem_cons_of_mem _ (List.mem_of_getElem? (i := 0) rfl))
theorem jw_J0_indexOf_7cf53_68 : (Cond.fieldLink RJ0 9 "java/lang/String" "value" "[B") ∈ wsJ0_indexOf_7cf53 := (List.mem_cons_of_mem _ (List.mem_append_left _ (List.mem_of_getElem? (l := wsJ0_indexOf_7cf53_r1) (i := 0) rfl)))
/-! the constant strings of the prices and weights -/
def kno (q : Nat) (c : Int32) : Prop := ∀ j : Nat, j < kln q → kby q j ≠ c
theorem kln_le {q : Nat} (hq : q < 3) : 0 < kln q ∧ kln q ≤ 5 := by
  rcases (show q = 0 ∨ q = 1 ∨ q = 2 by omega) with rfl | rfl | rfl <;> decide
theorem w_ixc {x : Cx} (hf : fx x (rmJ 0 0 0 0) yJ1_indexOfChar_4cfef.cls cJ1_indexOfChar_4cfef wsJ1_indexOfChar_4cfef) (hn : xn x = 6) {q : Nat} {c8 : Int32} {v0 v1 v2 : Value} {post : Option Value → va_W → Prop} (hr : re x (some .int) 0 0 post) (hq : q < 3)
    (hp : ∀ r : Int32, (r < 0 ↔ kno q c8) → post (some (.int r)) []) : ∀ (m i : Nat), i + m = kln q → (∀ j : Nat, j < i → kby q j ≠ c8) → ww x [] [(5, .int (nI i)), (4, .int c8), (0, .ref (gV (xg x) q)), (1, v1), (2, v2), (3, .int (nI (kln q)))] 0 0 7 [] := by
  intro m
  have hl := kln_le hq
  induction m with
  | zero =>
    intro i hi hj
    have ei : i = kln q := by omega
    refine xw_iload hf (pc := 7) dJ1_indexOfChar_4cfef_7 0 rfl ?_
    refine xw_iload_n hf (pc := 9) dJ1_indexOfChar_4cfef_9 rfl 5 rfl ?_
    refine xw_icmp_ge hf (pc := 10) dJ1_indexOfChar_4cfef_10 (tgt := 31) rfl ⟨fun _ => ?_, fun c => absurd (nI_le (a := kln q) (b := i) (by omega) (by omega)) c⟩
    refine xw_iconst hf (pc := 31) dJ1_indexOfChar_4cfef_31 (v := (-1)) (by decide) ?_
    exact xw_iret hf (pc := 32) dJ1_indexOfChar_4cfef_32 hr (Nat.le_refl 0) (Nat.le_refl 0) (hp _ ⟨fun _ j hj' => hj j (by omega), fun _ => by decide⟩)
  | succ m ih =>
    intro i hi hj
    have hil : i < kln q := by omega
    refine xw_iload hf (pc := 7) dJ1_indexOfChar_4cfef_7 0 rfl ?_
    refine xw_iload_n hf (pc := 9) dJ1_indexOfChar_4cfef_9 rfl 5 rfl ?_
    refine xw_icmp_ge hf (pc := 10) dJ1_indexOfChar_4cfef_10 (tgt := 31) rfl ⟨fun c => absurd c (nI_ge (a := i) (b := kln q) hil (by omega)), fun _ => ?_⟩
    refine xw_aload_n hf (pc := 13) dJ1_indexOfChar_4cfef_13 rfl 2 rfl ?_
    refine xw_iload hf (pc := 14) dJ1_indexOfChar_4cfef_14 0 rfl ?_
    refine xw_kbld hf hq dJ1_indexOfChar_4cfef_16 (nI_in hil (by omega)) ?_
    refine xw_iload hf (pc := 17) dJ1_indexOfChar_4cfef_17 1 rfl ?_
    have ec : (nI i).toNatClampNeg = i := nI_clamp (by omega)
    rw [ec]
    refine xw_icmp_ne hf (pc := 19) dJ1_indexOfChar_4cfef_19 (tgt := 25) rfl ⟨fun e => ?_, fun e => ?_⟩
    · refine xw_iload hf (pc := 22) dJ1_indexOfChar_4cfef_22 0 rfl ?_
      exact xw_iret hf (pc := 24) dJ1_indexOfChar_4cfef_24 hr (Nat.le_refl 0) (Nat.le_refl 0) (hp _ ⟨fun z => absurd z (nI_pos (by omega)), fun z => absurd e (z i hil)⟩)
    · refine xw_iinc hf (pc := 25) dJ1_indexOfChar_4cfef_25 (v := nI i + 1) 0 rfl rfl [(5, .int (nI i + 1)), (4, .int c8), (0, .ref (gV (xg x) q)), (1, v1), (2, v2), (3, .int (nI (kln q)))] hn (by decide) rfl ?_
      rw [← nI_succ]
      refine xw_goto hf (pc := 28) dJ1_indexOfChar_4cfef_28 (tgt := 7) rfl ?_
      refine ih (i + 1) (by omega) (fun j hj2 => ?_)
      by_cases e2 : j = i
      · rw [e2]; exact e
      · exact hj j (by omega)
theorem c_ixc (l : Launch) (g : Gx) (q : Nat) (c : Int32) (hq : q < 3) : cm l g yJ1_indexOfChar_4cfef wsJ1_indexOfChar_4cfef (rmJ 0 0 0 0) [.ref (gV g q), .int c, .int 0, .int (nI (kln q))] [] (fun v X1 => ∃ r : Int32, v = some (.int r) ∧ X1 = [] ∧ (r < 0 ↔ kno q c.toInt8.toInt32)) := by
  refine cm_of (cc := cJ1_indexOfChar_4cfef) (nL := 6) (ret := some .int) (by decide +kernel) rfl (Nat.le_of_ble_eq_true rfl) ?_
  intro x hf hl hg hn hi hr
  subst hl
  subst hg
  show ww x [] [(0, .ref (gV (xg x) q)), (1, .int c), (2, .int 0), (3, .int (nI (kln q)))] 0 0 0 []
  refine xw_iload_n hf (pc := 0) dJ1_indexOfChar_4cfef_0 rfl 1 rfl ?_
  refine xw_i2b hf (pc := 1) dJ1_indexOfChar_4cfef_1 ?_
  refine xw_istore hf (pc := 2) dJ1_indexOfChar_4cfef_2 [(4, .int c.toInt8.toInt32), (0, .ref (gV (xg x) q)), (1, .int c), (2, .int 0), (3, .int (nI (kln q)))] hn (by decide) rfl ?_
  refine xw_iload_n hf (pc := 4) dJ1_indexOfChar_4cfef_4 rfl 3 rfl ?_
  refine xw_istore hf (pc := 5) dJ1_indexOfChar_4cfef_5 [(5, .int 0), (4, .int c.toInt8.toInt32), (0, .ref (gV (xg x) q)), (1, .int c), (2, .int 0), (3, .int (nI (kln q)))] hn (by decide) rfl ?_
  exact w_ixc (v0 := .null) hf hn hr hq (fun r h => ⟨r, rfl, rfl, h⟩) (kln q) 0 (Nat.zero_add _) (fun j hj => absurd hj (Nat.not_lt_zero j))
theorem c_canE (l : Launch) (g : Gx) (c : Int32) (h0 : ¬ c < 0) (h1 : ¬ (255 : Int32) < c) : cm l g yJ1_canEncode_9a6ad wsJ1_canEncode_9a6ad (rmJ 0 0 0 0) [.int c] [] (fun v X1 => v = some (.int 1) ∧ X1 = []) := by
  refine cm_of (cc := cJ1_canEncode_9a6ad) (nL := 1) (ret := some .boolean) (by decide +kernel) rfl (Nat.le_of_ble_eq_true rfl) ?_
  intro x hf hl hg hn hi hr
  subst hl
  subst hg
  show ww x [] [(0, .int c)] 0 0 0 []
  refine xw_iload_n hf (pc := 0) dJ1_canEncode_9a6ad_0 rfl 0 rfl ?_
  refine xw_if_lt hf (pc := 1) dJ1_canEncode_9a6ad_1 Iff.rfl (tgt := 15) rfl ⟨fun z => absurd z h0, fun _ => ?_⟩
  refine xw_iload_n hf (pc := 4) dJ1_canEncode_9a6ad_4 rfl 0 rfl ?_
  refine xw_sipush hf (pc := 5) dJ1_canEncode_9a6ad_5 (v := 255) (by decide) ?_
  refine xw_icmp_gt hf (pc := 8) dJ1_canEncode_9a6ad_8 (tgt := 15) rfl ⟨fun z => absurd z h1, fun _ => ?_⟩
  refine xw_iconst hf (pc := 11) dJ1_canEncode_9a6ad_11 (v := 1) (by decide) ?_
  refine xw_goto hf (pc := 12) dJ1_canEncode_9a6ad_12 (tgt := 16) rfl ?_
  exact xw_zret hf (pc := 16) dJ1_canEncode_9a6ad_16 hr (Nat.le_of_ble_eq_true rfl) (Nat.le_of_ble_eq_true rfl) rfl ⟨rfl, rfl⟩
theorem c_ix1 (l : Launch) (g : Gx) (q : Nat) (c : Int32) (hq : q < 3) (h0 : ¬ c < 0) (h1 : ¬ (255 : Int32) < c) : cm l g yJ1_indexOf_4cfef wsJ1_indexOf_4cfef (rmJ 2 60 0 0) [.ref (gV g q), .int c, .int 0, .int (nI (kln q))] [] (fun v X1 => ∃ r : Int32, v = some (.int r) ∧ X1 = [] ∧ (r < 0 ↔ kno q c.toInt8.toInt32)) := by
  have hk := kln_le hq
  refine cm_of (cc := cJ1_indexOf_4cfef) (nL := 4) (ret := some .int) (by decide +kernel) rfl (Nat.le_of_ble_eq_true rfl) ?_
  intro x hf hl hg hn hi hr
  subst hl
  subst hg
  show ww x [] [(0, .ref (gV (xg x) q)), (1, .int c), (2, .int 0), (3, .int (nI (kln q)))] 0 0 0 []
  refine xw_iload_n hf (pc := 0) dJ1_indexOf_4cfef_0 rfl 1 rfl ?_
  refine xw_callS hf (pc := 1) (nA := 1) (Xr := []) (rest := []) (c_canE (xl x) (xg x) c h0 h1) gJ1_indexOf_4cfef_J1_canEncode_9a6ad (by rfl) rfl (by decide +kernel) ⟨⟨(Nat.le_of_ble_eq_true rfl), (Nat.le_of_ble_eq_true rfl)⟩, (Nat.le_of_ble_eq_true rfl), (Nat.le_of_ble_eq_true rfl)⟩ (Nat.le_of_ble_eq_true rfl) (sb_rf _) rfl dJ1_indexOf_4cfef_1 (fun v X1 hp => ?_)
  obtain ⟨rfl, rfl⟩ := hp
  show ww x [] [(0, .ref (gV (xg x) q)), (1, .int c), (2, .int 0), (3, .int (nI (kln q)))] 0 0 4 [.int 1]
  refine xw_if_ne hf (pc := 4) dJ1_indexOf_4cfef_4 (c := (1 : Int32) = 0) Iff.rfl (tgt := 9) rfl ⟨fun z => absurd z (by decide), fun _ => ?_⟩
  refine xw_iload_n hf (pc := 9) dJ1_indexOf_4cfef_9 rfl 2 rfl ?_
  refine xw_iconst hf (pc := 10) dJ1_indexOf_4cfef_10 (v := 0) (by decide) ?_
  refine xw_max hf jw_J1_indexOf_4cfef_56 jw_J1_indexOf_4cfef_57 jw_J1_indexOf_4cfef_58 jw_J1_indexOf_4cfef_59 ⟨⟨(Nat.le_of_ble_eq_true rfl), (Nat.le_of_ble_eq_true rfl)⟩, (Nat.le_of_ble_eq_true rfl), (Nat.le_of_ble_eq_true rfl)⟩ (Nat.le_of_ble_eq_true rfl) dJ1_indexOf_4cfef_11 ?_
  have e1 : (if (0 : Int32) < 0 then (0 : Int32) else 0) = 0 := by decide
  rw [e1]
  refine xw_istore_n hf (pc := 14) dJ1_indexOf_4cfef_14 rfl [(2, .int 0), (0, .ref (gV (xg x) q)), (1, .int c), (3, .int (nI (kln q)))] hn (by decide) rfl ?_
  refine xw_iload_n hf (pc := 15) dJ1_indexOf_4cfef_15 rfl 3 rfl ?_
  refine xw_aload_n hf (pc := 16) dJ1_indexOf_4cfef_16 rfl 1 rfl ?_
  refine xw_klen hf hq dJ1_indexOf_4cfef_17 ?_
  refine xw_min hf jw_J1_indexOf_4cfef_60 jw_J1_indexOf_4cfef_61 jw_J1_indexOf_4cfef_58 jw_J1_indexOf_4cfef_62 ⟨⟨(Nat.le_of_ble_eq_true rfl), (Nat.le_of_ble_eq_true rfl)⟩, (Nat.le_of_ble_eq_true rfl), (Nat.le_of_ble_eq_true rfl)⟩ (Nat.le_of_ble_eq_true rfl) dJ1_indexOf_4cfef_18 ?_
  have e2 : (if Int32.ofNat (kln q) < nI (kln q) then Int32.ofNat (kln q) else nI (kln q)) = nI (kln q) := by
    split <;> rfl
  rw [e2]
  refine xw_istore_n hf (pc := 21) dJ1_indexOf_4cfef_21 rfl [(3, .int (nI (kln q))), (2, .int 0), (0, .ref (gV (xg x) q)), (1, .int c)] hn (by decide) rfl ?_
  refine xw_iload_n hf (pc := 22) dJ1_indexOf_4cfef_22 rfl 1 rfl ?_
  refine xw_iload_n hf (pc := 23) dJ1_indexOf_4cfef_23 rfl 0 rfl ?_
  refine xw_icmp_lt hf (pc := 24) dJ1_indexOf_4cfef_24 (tgt := 29) rfl ⟨fun _ => ?_, fun z => absurd (nI_lt (a := 0) hk.1 (by omega)) z⟩
  refine xw_aload_n hf (pc := 29) dJ1_indexOf_4cfef_29 rfl 2 rfl ?_
  refine xw_iload_n hf (pc := 30) dJ1_indexOf_4cfef_30 rfl 3 rfl ?_
  refine xw_iload_n hf (pc := 31) dJ1_indexOf_4cfef_31 rfl 1 rfl ?_
  refine xw_iload_n hf (pc := 32) dJ1_indexOf_4cfef_32 rfl 0 rfl ?_
  refine xw_callS hf (pc := 33) (nA := 4) (Xr := []) (rest := []) (c_ixc (xl x) (xg x) q c hq) gJ1_indexOf_4cfef_J1_indexOfChar_4cfef (by rfl) rfl (by decide +kernel) ⟨⟨(Nat.le_of_ble_eq_true rfl), (Nat.le_of_ble_eq_true rfl)⟩, (Nat.le_of_ble_eq_true rfl), (Nat.le_of_ble_eq_true rfl)⟩ (Nat.le_of_ble_eq_true rfl) (sb_rf _) rfl dJ1_indexOf_4cfef_33 (fun v X1 hp => ?_)
  obtain ⟨r, rfl, rfl, hp⟩ := hp
  exact xw_iret hf (pc := 36) dJ1_indexOf_4cfef_36 hr (Nat.le_of_ble_eq_true rfl) (Nat.le_of_ble_eq_true rfl) ⟨r, rfl, rfl, hp⟩
theorem c_lat (l : Launch) (g : Gx) (q : Nat) (hq : q < 3) : cm l g yJ0_isLatin1_aae02 wsJ0_isLatin1_aae02 (rmJ 0 0 0 0) [.ref (gK g q)] [] (fun v X1 => v = some (.int 1) ∧ X1 = []) := by
  refine cm_of (cc := cJ0_isLatin1_aae02) (nL := 1) (ret := some .boolean) (by decide +kernel) rfl (Nat.le_of_ble_eq_true rfl) ?_
  intro x hf hl hg hn hi hr
  subst hl
  subst hg
  show ww x [] [(0, .ref (gK (xg x) q))] 0 0 0 []
  refine xw_gets hf (pc := 0) (fah hf).2.2.1 jw_J0_isLatin1_aae02_63 dJ0_isLatin1_aae02_0 ?_
  refine xw_if_eq hf (pc := 3) dJ0_isLatin1_aae02_3 (c := (1 : Int32) = 0) Iff.rfl (tgt := 17) rfl ⟨fun z => absurd z (by decide), fun _ => ?_⟩
  refine xw_aload_n hf (pc := 6) dJ0_isLatin1_aae02_6 rfl 0 rfl ?_
  refine xw_kcod hf hq jw_J0_isLatin1_aae02_64 dJ0_isLatin1_aae02_7 ?_
  refine xw_if_ne hf (pc := 10) dJ0_isLatin1_aae02_10 (c := (0 : Int32) = 0) Iff.rfl (tgt := 17) rfl ⟨fun _ => ?_, fun z => absurd rfl z⟩
  refine xw_iconst hf (pc := 13) dJ0_isLatin1_aae02_13 (v := 1) (by decide) ?_
  refine xw_goto hf (pc := 14) dJ0_isLatin1_aae02_14 (tgt := 18) rfl ?_
  exact xw_zret hf (pc := 18) dJ0_isLatin1_aae02_18 hr (Nat.le_of_ble_eq_true rfl) (Nat.le_of_ble_eq_true rfl) rfl ⟨rfl, rfl⟩
theorem c_cod (l : Launch) (g : Gx) (q : Nat) (hq : q < 3) : cm l g yJ0_coder_7d493 wsJ0_coder_7d493 (rmJ 0 0 0 0) [.ref (gK g q)] [] (fun v X1 => v = some (.int 0) ∧ X1 = []) := by
  refine cm_of (cc := cJ0_coder_7d493) (nL := 1) (ret := some .byte) (by decide +kernel) rfl (Nat.le_of_ble_eq_true rfl) ?_
  intro x hf hl hg hn hi hr
  subst hl
  subst hg
  show ww x [] [(0, .ref (gK (xg x) q))] 0 0 0 []
  refine xw_gets hf (pc := 0) (fah hf).2.2.1 jw_J0_coder_7d493_65 dJ0_coder_7d493_0 ?_
  refine xw_if_eq hf (pc := 3) dJ0_coder_7d493_3 (c := (1 : Int32) = 0) Iff.rfl (tgt := 13) rfl ⟨fun z => absurd z (by decide), fun _ => ?_⟩
  refine xw_aload_n hf (pc := 6) dJ0_coder_7d493_6 rfl 0 rfl ?_
  refine xw_kcod hf hq jw_J0_coder_7d493_66 dJ0_coder_7d493_7 ?_
  refine xw_goto hf (pc := 10) dJ0_coder_7d493_10 (tgt := 14) rfl ?_
  exact xw_zret hf (pc := 14) dJ0_coder_7d493_14 hr (Nat.le_of_ble_eq_true rfl) (Nat.le_of_ble_eq_true rfl) rfl ⟨rfl, rfl⟩
theorem c_slen (l : Launch) (g : Gx) (q : Nat) (hq : q < 3) : cm l g yJ0_length_8abf5 wsJ0_length_8abf5 (rmJ 1 40 0 0) [.ref (gK g q)] [] (fun v X1 => v = some (.int (nI (kln q))) ∧ X1 = []) := by
  have hk := kln_le hq
  refine cm_of (cc := cJ0_length_8abf5) (nL := 1) (ret := some .int) (by decide +kernel) rfl (Nat.le_of_ble_eq_true rfl) ?_
  intro x hf hl hg hn hi hr
  subst hl
  subst hg
  show ww x [] [(0, .ref (gK (xg x) q))] 0 0 0 []
  refine xw_aload_n hf (pc := 0) dJ0_length_8abf5_0 rfl 0 rfl ?_
  refine xw_kval hf hq jw_J0_length_8abf5_67 dJ0_length_8abf5_1 ?_
  refine xw_klen hf hq dJ0_length_8abf5_4 ?_
  refine xw_aload_n hf (pc := 5) dJ0_length_8abf5_5 rfl 0 rfl ?_
  refine xw_callK hf (pc := 6) (nA := 0) (Xr := []) (rest := [.int (Int32.ofNat (kln q))]) hq (c_cod (xl x) (xg x) q hq) gJ0_length_8abf5_J0_coder_7d493 (by rfl) rfl rfl (by decide +kernel) ⟨⟨(Nat.le_of_ble_eq_true rfl), (Nat.le_of_ble_eq_true rfl)⟩, (Nat.le_of_ble_eq_true rfl), (Nat.le_of_ble_eq_true rfl)⟩ (Nat.le_of_ble_eq_true rfl) (sb_rf _) rfl dJ0_length_8abf5_6 (fun v X1 hp => ?_)
  obtain ⟨rfl, rfl⟩ := hp
  refine xw_ishr hf (pc := 9) dJ0_length_8abf5_9 ?_
  have e : Int32.ofNat (kln q) >>> ((0 : Int32) &&& 31) = nI (kln q) := sc_shr0 (by omega)
  rw [e]
  exact xw_iret hf (pc := 10) dJ0_length_8abf5_10 hr (Nat.le_of_ble_eq_true rfl) (Nat.le_of_ble_eq_true rfl) ⟨rfl, rfl⟩
theorem c_ix2 (l : Launch) (g : Gx) (q : Nat) (c : Int32) (hq : q < 3) (h0 : ¬ c < 0) (h1 : ¬ (255 : Int32) < c) : cm l g yJ0_indexOf_7cf53 wsJ0_indexOf_7cf53 (rmJ 3 100 0 0) [.ref (gK g q), .int c, .int 0] [] (fun v X1 => ∃ r : Int32, v = some (.int r) ∧ X1 = [] ∧ (r < 0 ↔ kno q c.toInt8.toInt32)) := by
  refine cm_of (cc := cJ0_indexOf_7cf53) (nL := 3) (ret := some .int) (by decide +kernel) rfl (Nat.le_of_ble_eq_true rfl) ?_
  intro x hf hl hg hn hi hr
  subst hl
  subst hg
  show ww x [] [(0, .ref (gK (xg x) q)), (1, .int c), (2, .int 0)] 0 0 0 []
  refine xw_aload_n hf (pc := 0) dJ0_indexOf_7cf53_0 rfl 0 rfl ?_
  refine xw_callK hf (pc := 1) (nA := 0) (Xr := []) (rest := []) hq (c_lat (xl x) (xg x) q hq) gJ0_indexOf_7cf53_J0_isLatin1_aae02 (by rfl) rfl rfl (by decide +kernel) ⟨⟨(Nat.le_of_ble_eq_true rfl), (Nat.le_of_ble_eq_true rfl)⟩, (Nat.le_of_ble_eq_true rfl), (Nat.le_of_ble_eq_true rfl)⟩ (Nat.le_of_ble_eq_true rfl) (sb_rf _) rfl dJ0_indexOf_7cf53_1 (fun v X1 hp => ?_)
  obtain ⟨rfl, rfl⟩ := hp
  show ww x [] [(0, .ref (gK (xg x) q)), (1, .int c), (2, .int 0)] 0 0 4 [.int 1]
  refine xw_if_eq hf (pc := 4) dJ0_indexOf_7cf53_4 (c := (1 : Int32) = 0) Iff.rfl (tgt := 23) rfl ⟨fun z => absurd z (by decide), fun _ => ?_⟩
  refine xw_aload_n hf (pc := 7) dJ0_indexOf_7cf53_7 rfl 0 rfl ?_
  refine xw_kval hf hq jw_J0_indexOf_7cf53_68 dJ0_indexOf_7cf53_8 ?_
  refine xw_iload_n hf (pc := 11) dJ0_indexOf_7cf53_11 rfl 1 rfl ?_
  refine xw_iload_n hf (pc := 12) dJ0_indexOf_7cf53_12 rfl 2 rfl ?_
  refine xw_aload_n hf (pc := 13) dJ0_indexOf_7cf53_13 rfl 0 rfl ?_
  refine xw_callK hf (pc := 14) (nA := 0) (Xr := []) (rest := [.int 0, .int c, .ref (gV (xg x) q)]) hq (c_slen (xl x) (xg x) q hq) gJ0_indexOf_7cf53_J0_length_8abf5 (by rfl) rfl rfl (by decide +kernel) ⟨⟨(Nat.le_of_ble_eq_true rfl), (Nat.le_of_ble_eq_true rfl)⟩, (Nat.le_of_ble_eq_true rfl), (Nat.le_of_ble_eq_true rfl)⟩ (Nat.le_of_ble_eq_true rfl) (sb_rf _) rfl dJ0_indexOf_7cf53_14 (fun v X1 hp => ?_)
  obtain ⟨rfl, rfl⟩ := hp
  refine xw_callS hf (pc := 17) (nA := 4) (Xr := []) (rest := []) (c_ix1 (xl x) (xg x) q c hq h0 h1) gJ0_indexOf_7cf53_J1_indexOf_4cfef (by rfl) rfl (by decide +kernel) ⟨⟨(Nat.le_of_ble_eq_true rfl), (Nat.le_of_ble_eq_true rfl)⟩, (Nat.le_of_ble_eq_true rfl), (Nat.le_of_ble_eq_true rfl)⟩ (Nat.le_of_ble_eq_true rfl) (sb_rf _) rfl dJ0_indexOf_7cf53_17 (fun v X1 hp => ?_)
  obtain ⟨r, rfl, rfl, hp⟩ := hp
  refine xw_goto hf (pc := 20) dJ0_indexOf_7cf53_20 (tgt := 36) rfl ?_
  exact xw_iret hf (pc := 36) dJ0_indexOf_7cf53_36 hr (Nat.le_of_ble_eq_true rfl) (Nat.le_of_ble_eq_true rfl) ⟨r, rfl, rfl, hp⟩
theorem c_ix3 (l : Launch) (g : Gx) (q : Nat) (c : Int32) (hq : q < 3) (h0 : ¬ c < 0) (h1 : ¬ (255 : Int32) < c) : cm l g yJ0_indexOf_0f7a4 wsJ0_indexOf_0f7a4 (rmJ 4 140 0 0) [.ref (gK g q), .int c] [] (fun v X1 => ∃ r : Int32, v = some (.int r) ∧ X1 = [] ∧ (r < 0 ↔ kno q c.toInt8.toInt32)) := by
  refine cm_of (cc := cJ0_indexOf_0f7a4) (nL := 2) (ret := some .int) (by decide +kernel) rfl (Nat.le_of_ble_eq_true rfl) ?_
  intro x hf hl hg hn hi hr
  subst hl
  subst hg
  show ww x [] [(0, .ref (gK (xg x) q)), (1, .int c)] 0 0 0 []
  refine xw_aload_n hf (pc := 0) dJ0_indexOf_0f7a4_0 rfl 0 rfl ?_
  refine xw_iload_n hf (pc := 1) dJ0_indexOf_0f7a4_1 rfl 1 rfl ?_
  refine xw_iconst hf (pc := 2) dJ0_indexOf_0f7a4_2 (v := 0) (by decide) ?_
  refine xw_callK hf (pc := 3) (nA := 2) (Xr := []) (rest := []) hq (c_ix2 (xl x) (xg x) q c hq h0 h1) gJ0_indexOf_0f7a4_J0_indexOf_7cf53 (by rfl) rfl rfl (by decide +kernel) ⟨⟨(Nat.le_of_ble_eq_true rfl), (Nat.le_of_ble_eq_true rfl)⟩, (Nat.le_of_ble_eq_true rfl), (Nat.le_of_ble_eq_true rfl)⟩ (Nat.le_of_ble_eq_true rfl) (sb_rf _) rfl dJ0_indexOf_0f7a4_3 (fun v X1 hp => ?_)
  obtain ⟨r, rfl, rfl, hp⟩ := hp
  exact xw_iret hf (pc := 6) dJ0_indexOf_0f7a4_6 hr (Nat.le_of_ble_eq_true rfl) (Nat.le_of_ble_eq_true rfl) ⟨r, rfl, rfl, hp⟩
def kam (q i : Nat) : Bool := (List.range (kln q)).any (fun j => kby q j == nI (96 + i))
theorem kam_iff (q i : Nat) : kno q (nI (96 + i)) ↔ kam q i = false := by
  unfold kno kam
  constructor
  · intro h
    rw [List.any_eq_false]
    intro j hj
    have := h j (List.mem_range.mp hj)
    simpa using this
  · intro h j hj e
    rw [List.any_eq_false] at h
    exact h j (List.mem_range.mpr hj) (by simpa using e)
theorem kch : ∀ i : Nat, i < 27 → (((96 : Int32) + nI i).toUInt32 % 65536).toInt32 = nI (96 + i) ∧ (nI (96 + i)).toInt8.toInt32 = nI (96 + i) ∧ ¬ nI (96 + i) < 0 ∧ ¬ (255 : Int32) < nI (96 + i) := by decide +kernel
theorem c_among (l : Launch) (g : Gx) (q i : Nat) (hq : q < 3) (hi : i < 27) : cm l g yX5_isAmong wsX5_isAmong (rmJ 5 180 0 0) [.ref (gK g q), .int (nI i)] [] (fun v X1 => v = some (.int (if kam q i = true then 1 else 0)) ∧ X1 = []) := by
  have hc := kch i hi
  refine cm_of (cc := cX5_isAmong) (nL := 2) (ret := some .boolean) (by decide +kernel) rfl (Nat.le_of_ble_eq_true rfl) ?_
  intro x hf hl hg hn hi hr
  subst hl
  subst hg
  show ww x [] [(0, .ref (gK (xg x) q)), (1, .int (nI i))] 0 0 0 []
  refine xw_aload_n hf (pc := 0) dX5_isAmong_0 rfl 0 rfl ?_
  refine xw_bipush hf (pc := 1) dX5_isAmong_1 (v := 96) (by decide) ?_
  refine xw_iload_n hf (pc := 3) dX5_isAmong_3 rfl 1 rfl ?_
  refine xw_iadd hf (pc := 4) dX5_isAmong_4 ?_
  refine xw_i2c hf (pc := 5) dX5_isAmong_5 ?_
  rw [hc.1]
  refine xw_callK hf (pc := 6) (nA := 1) (Xr := []) (rest := []) hq (c_ix3 (xl x) (xg x) q (nI (96 + i)) hq hc.2.2.1 hc.2.2.2) gX5_isAmong_J0_indexOf_0f7a4 (by rfl) rfl rfl (by decide +kernel) ⟨⟨(Nat.le_of_ble_eq_true rfl), (Nat.le_of_ble_eq_true rfl)⟩, (Nat.le_of_ble_eq_true rfl), (Nat.le_of_ble_eq_true rfl)⟩ (Nat.le_of_ble_eq_true rfl) (sb_rf _) rfl dX5_isAmong_6 (fun v X1 hp => ?_)
  obtain ⟨r, rfl, rfl, hp⟩ := hp
  rw [hc.2.1, kam_iff] at hp
  show ww x [] [(0, .ref (gK (xg x) q)), (1, .int (nI i))] 0 0 9 [.int r]
  refine xw_if_lt hf (pc := 9) dX5_isAmong_9 hp (tgt := 16) rfl ⟨fun z => ?_, fun z => ?_⟩
  · refine xw_iconst hf (pc := 16) dX5_isAmong_16 (v := 0) (by decide) ?_
    exact xw_zret hf (pc := 17) dX5_isAmong_17 hr (Nat.le_of_ble_eq_true rfl) (Nat.le_of_ble_eq_true rfl) rfl ⟨by rw [z]; rfl, rfl⟩
  · have z' : kam q i = true := by cases h : kam q i with
      | true => rfl
      | false => exact absurd h z
    refine xw_iconst hf (pc := 12) dX5_isAmong_12 (v := 1) (by decide) ?_
    refine xw_goto hf (pc := 13) dX5_isAmong_13 (tgt := 17) rfl ?_
    exact xw_zret hf (pc := 17) dX5_isAmong_17 hr (Nat.le_of_ble_eq_true rfl) (Nat.le_of_ble_eq_true rfl) rfl ⟨by rw [z']; rfl, rfl⟩
def kprice (i : Nat) : Int32 := if kam 0 i = true then 40 else if kam 1 i = true then 90 else 60
def kweight (i : Nat) : Int32 := if kam 0 i = true then 2 else if kam 2 i = true then 5 else 3
def P_X5_firstPrice (post : Int32 → Prop) (p0 : Int32) : Prop := ∃ i : Nat, p0 = nI i ∧ i < 27 ∧ post (kprice i)
def P_X5_weight (post : Int32 → Prop) (p0 : Int32) : Prop := ∃ i : Nat, p0 = nI i ∧ i < 27 ∧ post (kweight i)
abbrev W_X5_firstPrice (g : Gx) : va_W := []
abbrev W_X5_weight (g : Gx) : va_W := []
abbrev rm_X5_firstPrice : Room := rmJ 6 220 0 0
abbrev rm_X5_weight : Room := rmJ 6 220 0 0
theorem if_1 (b : Bool) : (if b = true then (1 : Int32) else 0) = 0 ↔ b = false := by cases b <;> decide
theorem b_nf {b : Bool} (h : ¬ b = false) : b = true := by cases b <;> simp_all
theorem c_X5_firstPrice (l : Launch) (g : Gx) (p0 : Int32) {post : Int32 → Prop} (h : P_X5_firstPrice post p0) : cm l g yX5_firstPrice wsX5_firstPrice rm_X5_firstPrice [.int p0] (W_X5_firstPrice g) (fun v X1 => ∃ (r : Int32), v = some (.int r) ∧ X1 = W_X5_firstPrice g ∧ post r) := by
  obtain ⟨i, rfl, hi27, h⟩ := h
  refine cm_of (cc := cX5_firstPrice) (nL := 1) (ret := some .int) (by decide +kernel) rfl (Nat.le_of_ble_eq_true rfl) ?_
  intro x hf hl hg hn hi hr
  subst hl
  subst hg
  show ww x [] [(0, .int (nI i))] 0 0 0 []
  refine xw_ldcS hf (pc := 0) (fav hf).2.2.2.2.2.2.2.2.1 dX5_firstPrice_0 ?_
  refine xw_iload_n hf (pc := 2) dX5_firstPrice_2 rfl 0 rfl ?_
  refine xw_callS hf (pc := 3) (nA := 2) (Xr := []) (rest := []) (c_among (xl x) (xg x) 0 i (by decide) hi27) gX5_firstPrice_X5_isAmong (by rfl) rfl (by decide +kernel) ⟨⟨(Nat.le_of_ble_eq_true rfl), (Nat.le_of_ble_eq_true rfl)⟩, (Nat.le_of_ble_eq_true rfl), (Nat.le_of_ble_eq_true rfl)⟩ (Nat.le_of_ble_eq_true rfl) (sb_rf _) rfl dX5_firstPrice_3 (fun v X1 hp => ?_)
  obtain ⟨rfl, rfl⟩ := hp
  show ww x [] [(0, .int (nI i))] 0 0 6 [.int (if kam 0 i = true then 1 else 0)]
  refine xw_if_eq hf (pc := 6) dX5_firstPrice_6 (if_1 _) (tgt := 12) rfl ⟨fun z => ?_, fun z => ?_⟩
  · refine xw_ldcS hf (pc := 12) (fav hf).2.2.2.2.2.2.2.2.2.1 dX5_firstPrice_12 ?_
    refine xw_iload_n hf (pc := 14) dX5_firstPrice_14 rfl 0 rfl ?_
    refine xw_callS hf (pc := 15) (nA := 2) (Xr := []) (rest := []) (c_among (xl x) (xg x) 1 i (by decide) hi27) gX5_firstPrice_X5_isAmong (by rfl) rfl (by decide +kernel) ⟨⟨(Nat.le_of_ble_eq_true rfl), (Nat.le_of_ble_eq_true rfl)⟩, (Nat.le_of_ble_eq_true rfl), (Nat.le_of_ble_eq_true rfl)⟩ (Nat.le_of_ble_eq_true rfl) (sb_rf _) rfl dX5_firstPrice_15 (fun v X1 hp => ?_)
    obtain ⟨rfl, rfl⟩ := hp
    show ww x [] [(0, .int (nI i))] 0 0 18 [.int (if kam 1 i = true then 1 else 0)]
    refine xw_if_eq hf (pc := 18) dX5_firstPrice_18 (if_1 _) (tgt := 26) rfl ⟨fun z2 => ?_, fun z2 => ?_⟩
    · refine xw_bipush hf (pc := 26) dX5_firstPrice_26 (v := 60) (by decide) ?_
      exact xw_iret hf (pc := 28) dX5_firstPrice_28 hr (Nat.le_of_ble_eq_true rfl) (Nat.le_of_ble_eq_true rfl) ⟨_, rfl, rfl, by unfold kprice at h; rw [z, z2] at h; exact h⟩
    · refine xw_bipush hf (pc := 21) dX5_firstPrice_21 (v := 90) (by decide) ?_
      refine xw_goto hf (pc := 23) dX5_firstPrice_23 (tgt := 28) rfl ?_
      exact xw_iret hf (pc := 28) dX5_firstPrice_28 hr (Nat.le_of_ble_eq_true rfl) (Nat.le_of_ble_eq_true rfl) ⟨_, rfl, rfl, by unfold kprice at h; rw [z, b_nf z2] at h; exact h⟩
  · refine xw_bipush hf (pc := 9) dX5_firstPrice_9 (v := 40) (by decide) ?_
    exact xw_iret hf (pc := 11) dX5_firstPrice_11 hr (Nat.le_of_ble_eq_true rfl) (Nat.le_of_ble_eq_true rfl) ⟨_, rfl, rfl, by unfold kprice at h; rw [b_nf z] at h; exact h⟩
theorem c_X5_weight (l : Launch) (g : Gx) (p0 : Int32) {post : Int32 → Prop} (h : P_X5_weight post p0) : cm l g yX5_weight wsX5_weight rm_X5_weight [.int p0] (W_X5_weight g) (fun v X1 => ∃ (r : Int32), v = some (.int r) ∧ X1 = W_X5_weight g ∧ post r) := by
  obtain ⟨i, rfl, hi27, h⟩ := h
  refine cm_of (cc := cX5_weight) (nL := 1) (ret := some .int) (by decide +kernel) rfl (Nat.le_of_ble_eq_true rfl) ?_
  intro x hf hl hg hn hi hr
  subst hl
  subst hg
  show ww x [] [(0, .int (nI i))] 0 0 0 []
  refine xw_ldcS hf (pc := 0) (fav hf).2.2.2.2.2.2.2.2.1 dX5_weight_0 ?_
  refine xw_iload_n hf (pc := 2) dX5_weight_2 rfl 0 rfl ?_
  refine xw_callS hf (pc := 3) (nA := 2) (Xr := []) (rest := []) (c_among (xl x) (xg x) 0 i (by decide) hi27) gX5_weight_X5_isAmong (by rfl) rfl (by decide +kernel) ⟨⟨(Nat.le_of_ble_eq_true rfl), (Nat.le_of_ble_eq_true rfl)⟩, (Nat.le_of_ble_eq_true rfl), (Nat.le_of_ble_eq_true rfl)⟩ (Nat.le_of_ble_eq_true rfl) (sb_rf _) rfl dX5_weight_3 (fun v X1 hp => ?_)
  obtain ⟨rfl, rfl⟩ := hp
  show ww x [] [(0, .int (nI i))] 0 0 6 [.int (if kam 0 i = true then 1 else 0)]
  refine xw_if_eq hf (pc := 6) dX5_weight_6 (if_1 _) (tgt := 11) rfl ⟨fun z => ?_, fun z => ?_⟩
  · refine xw_ldcS hf (pc := 11) (fav hf).2.2.2.2.2.2.2.2.2.2.1 dX5_weight_11 ?_
    refine xw_iload_n hf (pc := 13) dX5_weight_13 rfl 0 rfl ?_
    refine xw_callS hf (pc := 14) (nA := 2) (Xr := []) (rest := []) (c_among (xl x) (xg x) 2 i (by decide) hi27) gX5_weight_X5_isAmong (by rfl) rfl (by decide +kernel) ⟨⟨(Nat.le_of_ble_eq_true rfl), (Nat.le_of_ble_eq_true rfl)⟩, (Nat.le_of_ble_eq_true rfl), (Nat.le_of_ble_eq_true rfl)⟩ (Nat.le_of_ble_eq_true rfl) (sb_rf _) rfl dX5_weight_14 (fun v X1 hp => ?_)
    obtain ⟨rfl, rfl⟩ := hp
    show ww x [] [(0, .int (nI i))] 0 0 17 [.int (if kam 2 i = true then 1 else 0)]
    refine xw_if_eq hf (pc := 17) dX5_weight_17 (if_1 _) (tgt := 24) rfl ⟨fun z2 => ?_, fun z2 => ?_⟩
    · refine xw_iconst hf (pc := 24) dX5_weight_24 (v := 3) (by decide) ?_
      exact xw_iret hf (pc := 25) dX5_weight_25 hr (Nat.le_of_ble_eq_true rfl) (Nat.le_of_ble_eq_true rfl) ⟨_, rfl, rfl, by unfold kweight at h; rw [z, z2] at h; exact h⟩
    · refine xw_iconst hf (pc := 20) dX5_weight_20 (v := 5) (by decide) ?_
      refine xw_goto hf (pc := 21) dX5_weight_21 (tgt := 25) rfl ?_
      exact xw_iret hf (pc := 25) dX5_weight_25 hr (Nat.le_of_ble_eq_true rfl) (Nat.le_of_ble_eq_true rfl) ⟨_, rfl, rfl, by unfold kweight at h; rw [z, b_nf z2] at h; exact h⟩
  · refine xw_iconst hf (pc := 9) dX5_weight_9 (v := 2) (by decide) ?_
    exact xw_iret hf (pc := 10) dX5_weight_10 hr (Nat.le_of_ble_eq_true rfl) (Nat.le_of_ble_eq_true rfl) ⟨_, rfl, rfl, by unfold kweight at h; rw [b_nf z] at h; exact h⟩
