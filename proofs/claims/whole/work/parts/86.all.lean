/-! receipts: word, price, returned (0 or 1) -/
def recZ (R : List (Nat × Nat × Nat)) (z : ZL) : Prop := (lrs z).map (fun r => r.2) = R.map (fun r => (lN r.1, nI r.2.1, nI r.2.2))
def recX (R : List (Nat × Nat × Nat)) (c : Int32) (N : Nat) (w : Nat → Int64) (p t : Nat → Int32) : Prop := c = nI R.length ∧ R.length ≤ N ∧ ∀ (i : Nat) (r : Nat × Nat × Nat), R[i]? = some r → w i = lN r.1 ∧ p i = nI r.2.1 ∧ t i = nI r.2.2
def recOK (R : List (Nat × Nat × Nat)) : Prop := (∀ r ∈ R, isW r.1 ∧ r.2.2 ≤ 1) ∧ R.length ≤ 10240
theorem rec_len {R : List (Nat × Nat × Nat)} {z : ZL} (h : recZ R z) : lln z = R.length := by
  have := congrArg List.length h
  rw [List.length_map, List.length_map] at this
  exact this
theorem rec_at {R : List (Nat × Nat × Nat)} {z : ZL} (h : recZ R z) {i : Nat} {r : Nat × Nat × Nat} (hi : R[i]? = some r) : lwd z i = lN r.1 ∧ lpr z i = nI r.2.1 ∧ lrt z i = nI r.2.2 := by
  have e : ((lrs z).map (fun r => r.2))[i]? = (R.map (fun r => (lN r.1, nI r.2.1, nI r.2.2)))[i]? := by rw [h]
  rw [List.getElem?_map, List.getElem?_map, hi] at e
  obtain ⟨a, ha, he⟩ := Option.map_eq_some_iff.mp e
  unfold lwd lpr lrt lrc
  rw [ha]
  show a.2.1 = _ ∧ a.2.2.1 = _ ∧ a.2.2.2 = _
  rw [he]
  exact ⟨rfl, rfl, rfl⟩
theorem rec_add {R : List (Nat × Nat × Nat)} {z z' : ZL} (h : recZ R z) {q w p : Nat} (ha : ladd z q (lN w) (nI p) z') : recZ (R ++ [(w, p, 0)]) z' := by
  unfold recZ at *
  rw [ha.1, List.map_append, List.map_append, h]
  rfl
theorem rec_set {R : List (Nat × Nat × Nat)} {z : ZL} (h : recZ R z) {i : Nat} {r : Nat × Nat × Nat} (hi : R[i]? = some r) : recZ (R.set i (r.1, r.2.1, 1)) (lset z i 1) := by
  have ⟨a, b, _⟩ := rec_at h hi
  unfold recZ at *
  show ((lrs z).set i (lga z i, lwd z i, lpr z i, 1)).map (fun r => r.2) = _
  rw [List.map_set, List.map_set, h, a, b]
  rfl
theorem recX_set {R : List (Nat × Nat × Nat)} {c : Int32} {N : Nat} {w : Nat → Int64} {p t : Nat → Int32} (h : recX R c N w p t) {i : Nat} {r : Nat × Nat × Nat} (hi : R[i]? = some r) : recX (R.set i (r.1, r.2.1, 1)) c N w p (upd t i 1) := by
  obtain ⟨h1, h2, h3⟩ := h
  have hil := (List.getElem?_eq_some_iff.mp hi).1
  refine ⟨by rw [List.length_set]; exact h1, by rw [List.length_set]; exact h2, fun j s hj => ?_⟩
  have ⟨a, b, c⟩ := h3 i r hi
  unfold upd
  by_cases e : j = i
  · subst e
    rw [List.getElem?_set_self hil] at hj
    have e2 := Option.some.inj hj
    rw [if_pos rfl, ← e2]
    exact ⟨a, b, rfl⟩
  · rw [List.getElem?_set_ne (fun q => e q.symm)] at hj
    rw [if_neg e]
    exact h3 j s hj
theorem recOK_set {R : List (Nat × Nat × Nat)} (h : recOK R) {i : Nat} {r : Nat × Nat × Nat} (hi : R[i]? = some r) : recOK (R.set i (r.1, r.2.1, 1)) := by
  refine ⟨fun s hs => ?_, by rw [List.length_set]; exact h.2⟩
  rcases List.mem_or_eq_of_mem_set hs with q | q
  · exact h.1 s q
  · rw [q]; exact ⟨(h.1 r (List.mem_of_getElem? hi)).1, Nat.le_refl _⟩
theorem recOK_add {R : List (Nat × Nat × Nat)} (h : recOK R) {w p : Nat} (hw : isW w) (hl : R.length < 10240) : recOK (R ++ [(w, p, 0)]) := by
  refine ⟨fun s hs => ?_, by rw [List.length_append]; exact hl⟩
  rcases List.mem_append.mp hs with q | q
  · exact h.1 s q
  · rw [List.mem_singleton.mp q]; exact ⟨hw, Nat.zero_le _⟩
/-! room for the list and for the model's rows -/
def capL (r C : Nat) : Prop := r ≤ C ∧ C ≤ 15360 ∧ (C = 0 ∨ 10 ≤ C)
def gNew (r C : Nat) : Nat := if r < C then C else lgrow C
def gCst (r C : Nat) : Nat := if r < C then 0 else lgrow C
def capX (r N : Nat) : Prop := r ≤ N ∧ 1 ≤ N ∧ N ≤ 20480
def dNew (r N : Nat) : Nat := if r = N then 2 * N else N
def dCst (r N : Nat) : Nat := if r = N then 6 * N else 0
theorem cap_lok {z : ZL} (h : capL (lln z) z.2.1) : lok z := ⟨h.1, by have := h.2.1; omega, h.2.2⟩
theorem cap_new {r C : Nat} (h : capL r C) (hr : r < 10240) : capL (r + 1) (gNew r C) := by
  obtain ⟨a, b, c⟩ := h
  unfold gNew
  by_cases e : r < C
  · rw [if_pos e]; exact ⟨e, b, c⟩
  · rw [if_neg e]
    unfold lgrow
    by_cases e0 : C = 0
    · rw [if_pos e0]
      refine ⟨?_, ?_, Or.inr ?_⟩ <;> omega
    · rw [if_neg e0]
      refine ⟨?_, ?_, Or.inr ?_⟩ <;> omega
theorem capX_new {r N : Nat} (h : capX r N) (hr : r < 10240) : capX (r + 1) (dNew r N) := by
  obtain ⟨a, b, c⟩ := h
  unfold dNew
  by_cases e : r = N
  · rw [if_pos e]; refine ⟨?_, ?_, ?_⟩ <;> omega
  · rw [if_neg e]; refine ⟨?_, ?_, ?_⟩ <;> omega
theorem p_cwrite {R : List (Nat × Nat × Nat)} {z : ZL} (hz : recZ R z) (hc : capL (lln z) z.2.1) {mc ms : Nat} (hm : 2 ≤ mc) (hs : 3 + gCst (lln z) z.2.1 ≤ ms) {n p : Nat} (hn : n < 32 ^ 12) {v0 : Int32} {v1 : Nat → Int32} {post : Int32 → (Nat → Int32) → ZL → Prop}
    (h : ∀ z', recZ (R ++ [(n, p, 0)]) z' → z'.2.1 = gNew (lln z) z.2.1 → post (v0 + nI p) (putF v1 n 1 (wlen n)) z') : P_X0_writeReceipt post mc ms (lN n) (nI p) v0 v1 z := by
  refine ⟨1, gCst (lln z) z.2.1, ⟨hm, hs⟩, fun q => ⟨1, gCst (lln z) z.2.1, 0, 0, ⟨Nat.le_refl _, Nat.le_refl _⟩, ⟨cap_lok hc, ?_⟩, fun z' ha => p_put hn (h z' (rec_add hz ha) ?_)⟩⟩
  · unfold lroom gCst
    by_cases e : lln z < z.2.1
    · exact Or.inl e
    · rw [if_neg e]; exact Or.inr ⟨Nat.le_refl _, Nat.le_refl _⟩
  · unfold gNew
    by_cases e : lln z < z.2.1
    · rw [if_pos e]; exact (ha.2.2.1 e).2
    · rw [if_neg e]; exact ha.2.2.2 e
theorem FU_b (k : Nat) (h : k < 20000) : k < FU := h
theorem nar_le {t : Nat} (h : t ≤ 1) : vp_nar .boolean (nI t) = nI t := by
  rcases (show t = 0 ∨ t = 1 by omega) with e | e <;> subst e <;> rfl
theorem nar2_le {t : Nat} (h : t ≤ 1) : narrow .boolean (.int (nI t)) = .int (nI t) := by
  rcases (show t = 0 ∨ t = 1 by omega) with e | e <;> subst e <;> rfl
theorem p_xwrL {R : List (Nat × Nat × Nat)} (hR : ∀ r ∈ R, r.2.2 ≤ 1) (hRl : R.length ≤ 10240) {z1 : Int64} {z3 : Int32} {N N' : Nat} (hN : R.length ≤ N) (hN1 : N ≤ N') (hN2 : N' ≤ 40960) {v8 : Nat → Int64} {v11 v14 : Nat → Int32} (hx : recX R (nI R.length) N v8 v11 v14) {K : (Nat → Int64) → (Nat → Int32) → (Nat → Int32) → Prop}
    (h : ∀ w p t, (∀ j : Nat, j < R.length → w j = v8 j ∧ p j = v11 j ∧ t j = v14 j) → K w p t) :
    ∀ (m i fuel : Nat) (w : Nat → Int64) (p t : Nat → Int32), i + m = R.length → m < fuel → (∀ j : Nat, j < i → w j = v8 j ∧ p j = v11 j ∧ t j = v14 j) → P_X9_write_L45 z1 z3 (nI R.length) N v8 N v11 N v14 N' N' N' K fuel (nI i) w p t := by
  intro m
  induction m with
  | zero =>
    intro i fuel w p t hi hf hj
    obtain ⟨g, rfl⟩ : ∃ g, fuel = g + 1 := ⟨fuel - 1, by omega⟩
    have e : i = R.length := by omega
    subst e
    unfold P_X9_write_L45
    exact ⟨fun _ => h w p t hj, fun q => absurd (nI_le (Nat.le_refl _) (by omega)) q⟩
  | succ m ih =>
    intro i fuel w p t hi hf hj
    obtain ⟨g, rfl⟩ : ∃ g, fuel = g + 1 := ⟨fuel - 1, by omega⟩
    have hr := List.getElem?_eq_getElem (l := R) (i := i) (by omega)
    have ht := hR _ (List.mem_of_getElem? hr)
    have e3 := (hx.2.2 i _ hr).2.2
    unfold P_X9_write_L45
    rw [nI_clamp (show i < 2 ^ 31 by omega), e3, nar_le ht, ← nI_succ]
    refine ⟨fun q => absurd q (nI_ge (by omega) (by omega)), fun _ => ⟨nI_in (by omega) (by omega), nI_in (by omega) (by omega), nI_in (by omega) (by omega), nI_in (by omega) (by omega), nI_in (by omega) (by omega), nI_in (by omega) (by omega), ?_⟩⟩
    refine ih (i + 1) g _ _ _ (by omega) (by omega) (fun j hj2 => ?_)
    unfold vp_updL upd
    by_cases e : j = i
    · subst e
      rw [if_pos rfl, if_pos rfl, if_pos rfl]
      exact ⟨rfl, rfl, e3.symm⟩
    · rw [if_neg e, if_neg e, if_neg e]
      exact hj j (by omega)
theorem recX_push {R : List (Nat × Nat × Nat)} {N N' : Nat} {v8 w : Nat → Int64} {v11 v14 p t : Nat → Int32} {c : Int32} (hx : recX R c N v8 v11 v14) (hN : R.length < N') (hj : ∀ j : Nat, j < R.length → w j = v8 j ∧ p j = v11 j ∧ t j = v14 j) (n q : Nat) : recX (R ++ [(n, q, 0)]) (nI (R.length + 1)) N' (vp_updL w R.length (lN n)) (upd p R.length (nI q)) (upd t R.length 0) := by
  have hl : (R ++ [(n, q, 0)]).length = R.length + 1 := by rw [List.length_append]; rfl
  refine ⟨by rw [hl], by rw [hl]; exact hN, fun i r hi => ?_⟩
  unfold vp_updL upd
  by_cases e : i = R.length
  · subst e
    rw [List.getElem?_append_right (Nat.le_refl _), Nat.sub_self] at hi
    have e2 : (n, q, 0) = r := Option.some.inj hi
    rw [if_pos rfl, if_pos rfl, if_pos rfl, ← e2]
    exact ⟨rfl, rfl, rfl⟩
  · have hil := (List.getElem?_eq_some_iff.mp hi).1
    rw [hl] at hil
    rw [List.getElem?_append_left (by omega)] at hi
    rw [if_neg e, if_neg e, if_neg e]
    have ⟨a, b, c⟩ := hx.2.2 i r hi
    have ⟨a', b', c'⟩ := hj i (by omega)
    rw [a', b', c']
    exact ⟨a, b, c⟩
theorem p_xwrite {R : List (Nat × Nat × Nat)} (hok : recOK R) {N : Nat} (hN : capX R.length N) (hl : R.length < 10240) {v2 : Int32} {v8 : Nat → Int64} {v11 v14 : Nat → Int32} (hx : recX R v2 N v8 v11 v14) {mc ms : Nat} (hm : 3 ≤ mc) (hs : dCst R.length N ≤ ms) {n p : Nat} {v0 v1 v3 v4 v5 : Int32} {v6 v9 v12 : Nat} {post : Int32 → Int32 → Nat → Nat → (Nat → Int64) → Nat → Nat → (Nat → Int32) → Nat → Nat → (Nat → Int32) → Prop}
    (h : ∀ (a b c : Nat) (w : Nat → Int64) (p' t : Nat → Int32), recX (R ++ [(n, p, 0)]) (nI (R.length + 1)) (dNew R.length N) w p' t → post (nI (R.length + 1)) (v3 + nI p) a (dNew R.length N) w b (dNew R.length N) p' c (dNew R.length N) t) : P_X9_write post mc ms (lN n) (nI p) v0 v1 v2 v3 v4 v5 v6 N v8 v9 N v11 v12 N v14 := by
  obtain ⟨a1, a2, a3⟩ := id hN
  have e2 := hx.1
  subst e2
  have n0 : vp_nar .boolean 0 = 0 := rfl
  have eN : (2 : Int32) * nI R.length = nI (2 * R.length) := nI_mul 2 R.length
  unfold P_X9_write
  rw [eN, nI_clamp (show 2 * R.length < 2 ^ 31 by omega), nI_clamp (show R.length < 2 ^ 31 by omega), ← nI_succ, n0]
  have hpos : ¬ nI (2 * R.length) < 0 := nI_pos (by omega)
  refine ⟨fun q => ?_, fun q => ?_⟩
  · have q' : R.length = N := (neq (by omega) (by omega)).mp q
    have d1 : dNew R.length N = 2 * R.length := by unfold dNew; rw [if_pos q', q']
    have d2 : dCst R.length N = 6 * R.length := by unfold dCst; rw [if_pos q', q']
    rw [d1] at h
    rw [d2] at hs
    rintro N1 rfl
    refine ⟨hpos, by omega, mc - 1, ms - 2 * R.length, ⟨by omega, by omega⟩, fun q2 => ?_⟩
    rintro N5 rfl
    refine ⟨hpos, by omega, mc - 2, ms - 4 * R.length, ⟨by omega, by omega⟩, fun q6 => ?_⟩
    rintro N9 rfl
    refine ⟨hpos, by omega, mc - 3, ms - 6 * R.length, ⟨by omega, by omega⟩, fun q10 => ?_⟩
    have key := p_xwrL (z1 := lN n) (z3 := nI p) (N := N) (N' := 2 * R.length) (fun r hr => (hok.1 r hr).2) hok.2 a1 (by omega) (by omega) hx (K := fun (w13 : Nat → Int64) (w14 : Nat → Int32) (w15 : Nat → Int32) => vp_in (nI R.length) (2 * R.length) ∧ vp_in (nI R.length) (2 * R.length) ∧ vp_in (nI R.length) (2 * R.length) ∧ post (nI (R.length + 1)) (v3 + nI p) q2 (2 * R.length) (vp_updL w13 R.length (lN n)) q6 (2 * R.length) (upd w14 R.length (nI p)) q10 (2 * R.length) (upd w15 R.length 0))
      (fun w p' t hj => ⟨nI_in (by omega) (by omega), nI_in (by omega) (by omega), nI_in (by omega) (by omega), h _ _ _ _ _ _ (recX_push hx (by omega) hj n p)⟩) R.length 0 FU (fun _ => 0) (fun _ => 0) (fun _ => 0) (Nat.zero_add _) (FU_b _ (by omega)) (fun j hj => absurd hj (Nat.not_lt_zero j))
    rw [nI_0] at key
    exact key
  · have q' : R.length ≠ N := fun e => q (by rw [e]; rfl)
    have d1 : dNew R.length N = N := by unfold dNew; rw [if_neg q']
    rw [d1] at h
    exact ⟨nI_in (by omega) (by omega), nI_in (by omega) (by omega), nI_in (by omega) (by omega), h _ _ _ _ _ _ (recX_push hx (by omega) (fun j _ => ⟨rfl, rfl, rfl⟩) n p)⟩
/-! asked by number -/
theorem p_creq {R : List (Nat × Nat × Nat)} {z : ZL} (hz : recZ R z) (hc : capL (lln z) z.2.1) (hok : recOK R) {p v0 : Int32} {post : Nat → Prop} {postX : String → Prop} (h1 : ∀ (j : Nat) (r : Nat × Nat × Nat), p = nI j → R[j]? = some r → post j) (h0 : (∀ j : Nat, j < R.length → p ≠ nI j) → postX sIOB) : P_X8_requireReceipt post postX p v0 z := by
  have hl := rec_len hz
  have hb := hok.2
  unfold P_X8_requireReceipt
  have es : lsz z = nI R.length := by unfold lsz; rw [hl]
  rw [es]
  rcases pk_ix p (n := R.length) (by omega) with q | q | ⟨j, hj, rfl⟩
  · exact ⟨fun _ => h0 fun j hj e => nI_pos (n := j) (by omega) (by rw [← e]; exact q), fun c => absurd q c⟩
  · have hno : ∀ j : Nat, j < R.length → p ≠ nI j := fun j hj e => nI_ge hj (by omega) (by rw [← e]; exact q)
    exact ⟨fun _ => h0 hno, fun _ => ⟨fun c => absurd q (by rw [Int32.not_le]; exact c), fun _ => h0 hno⟩⟩
  · refine ⟨fun c => absurd c (nI_pos (by omega)), fun _ => ⟨fun _ => ⟨⟨⟨?_, hc.1⟩, by omega⟩, ?_⟩, fun c => absurd (nI_lt hj (by omega)) c⟩⟩
    · rw [hl]; exact nI_in hj (by omega)
    · rw [nI_clamp (by omega)]
      exact h1 j _ rfl (List.getElem?_eq_getElem hj)
theorem p_xreq {R : List (Nat × Nat × Nat)} (hok : recOK R) {p v0 v1 v3 v4 v5 : Int32} {post : Int32 → Int32 → Prop} (h1 : ∀ (j : Nat) (r : Nat × Nat × Nat), p = nI j → R[j]? = some r → post 1 0) (h0 : (∀ j : Nat, j < R.length → p ≠ nI j) → post 0 1) : P_X9_isReceipt post p v0 v1 (nI R.length) v3 v4 v5 := by
  have hb := hok.2
  unfold P_X9_isReceipt P_X9_isWithin
  rcases pk_ix p (n := R.length) (by omega) with q | q | ⟨j, hj, rfl⟩
  · exact ⟨fun _ => p_good0 ⟨rfl, h0 fun j hj e => nI_pos (n := j) (by omega) (by rw [← e]; exact q)⟩, fun c => absurd q c⟩
  · have hno : ∀ j : Nat, j < R.length → p ≠ nI j := fun j hj e => nI_ge hj (by omega) (by rw [← e]; exact q)
    refine ⟨fun _ => p_good0 ⟨rfl, h0 hno⟩, fun c => ⟨fun _ => p_good0 ⟨rfl, h0 hno⟩, fun c2 => absurd ?_ c2⟩⟩
    have q' := Int32.le_iff_toInt_le.mp q
    rw [nI_toInt (by omega)] at q'
    rw [Int32.lt_iff_toInt_lt]
    by_cases e : R.length = 0
    · rw [e, show nI 0 - 1 = -1 by decide, show (-1 : Int32).toInt = -1 by decide]
      omega
    · obtain ⟨k, hk⟩ : ∃ k, R.length = k + 1 := ⟨R.length - 1, by omega⟩
      rw [hk, nI_pred, nI_toInt (by omega)]
      omega
  · obtain ⟨k, hk⟩ : ∃ k, R.length = k + 1 := ⟨R.length - 1, by omega⟩
    refine ⟨fun c => absurd c (nI_pos (by omega)), fun _ => ⟨fun c => absurd c ?_, fun _ => p_good1 ⟨rfl, h1 j _ rfl (List.getElem?_eq_getElem hj)⟩⟩⟩
    rw [hk, nI_pred]
    exact nI_nlt (by omega) (by omega)
section RR
variable {R : List (Nat × Nat × Nat)}
theorem p_crw {z : ZL} (hz : recZ R z) (hc : capL (lln z) z.2.1) (hok : recOK R) {p v0 : Int32} {post : Int64 → Prop} {postX : String → Prop} (h1 : ∀ (j : Nat) (r : Nat × Nat × Nat), p = nI j → R[j]? = some r → post (lN r.1)) (h0 : (∀ j : Nat, j < R.length → p ≠ nI j) → postX sIOB) : P_X8_receiptWord post postX p v0 z :=
  p_creq hz hc hok (fun j r e hr => by
    show post (lwd z j)
    rw [(rec_at hz hr).1]; exact h1 j r e hr) h0
theorem p_crp {z : ZL} (hz : recZ R z) (hc : capL (lln z) z.2.1) (hok : recOK R) {p v0 : Int32} {post : Int32 → Prop} {postX : String → Prop} (h1 : ∀ (j : Nat) (r : Nat × Nat × Nat), p = nI j → R[j]? = some r → post (nI r.2.1)) (h0 : (∀ j : Nat, j < R.length → p ≠ nI j) → postX sIOB) : P_X8_receiptPrice post postX p v0 z :=
  p_creq hz hc hok (fun j r e hr => by
    show post (lpr z j)
    rw [(rec_at hz hr).2.1]; exact h1 j r e hr) h0
theorem p_crt {z : ZL} (hz : recZ R z) (hc : capL (lln z) z.2.1) (hok : recOK R) {p v0 : Int32} {post : Int32 → Prop} {postX : String → Prop} (h1 : ∀ (j : Nat) (r : Nat × Nat × Nat), p = nI j → R[j]? = some r → post (nI r.2.2)) (h0 : (∀ j : Nat, j < R.length → p ≠ nI j) → postX sIOB) : P_X8_isReturned post postX p v0 z :=
  p_creq hz hc hok (fun j r e hr => by
    show narrow .boolean (.int (lrt z j)) = .int (lrt z j) ∧ post (lrt z j)
    rw [(rec_at hz hr).2.2]
    exact ⟨nar2_le (hok.1 r (List.mem_of_getElem? hr)).2, h1 j r e hr⟩) h0
variable {N : Nat} {v2 : Int32} {w : Nat → Int64} {pr t : Nat → Int32}
theorem p_xrw (hx : recX R v2 N w pr t) (hN : capX R.length N) (hok : recOK R) {p v0 v1 v3 v4 v5 : Int32} {v6 : Nat} {post : Int64 → Int32 → Prop} (h1 : ∀ (j : Nat) (r : Nat × Nat × Nat), p = nI j → R[j]? = some r → post (lN r.1) 0) (h0 : (∀ j : Nat, j < R.length → p ≠ nI j) → post 0 1) : P_X9_receiptWord post p v0 v1 v2 v3 v4 v5 v6 N w := by
  have e2 := hx.1
  subst e2
  have hb := hN.2.2
  refine p_xreq hok (fun j r e hr => ⟨fun q => absurd q (by decide), fun _ => ?_⟩) (fun hno => ⟨fun _ => h0 hno, fun q => absurd rfl q⟩)
  have hjl := (List.getElem?_eq_some_iff.mp hr).1
  have hn1 := hN.1
  subst e
  rw [nI_clamp (show j < 2 ^ 31 by omega), (hx.2.2 j r hr).1]
  exact ⟨nI_in (by omega) (by omega), h1 j r rfl hr⟩
theorem p_xrp (hx : recX R v2 N w pr t) (hN : capX R.length N) (hok : recOK R) {p v0 v1 v3 v4 v5 : Int32} {v6 : Nat} {post : Int32 → Int32 → Prop} (h1 : ∀ (j : Nat) (r : Nat × Nat × Nat), p = nI j → R[j]? = some r → post (nI r.2.1) 0) (h0 : (∀ j : Nat, j < R.length → p ≠ nI j) → post 0 1) : P_X9_receiptPrice post p v0 v1 v2 v3 v4 v5 v6 N pr := by
  have e2 := hx.1
  subst e2
  have hb := hN.2.2
  refine p_xreq hok (fun j r e hr => ⟨fun q => absurd q (by decide), fun _ => ?_⟩) (fun hno => ⟨fun _ => h0 hno, fun q => absurd rfl q⟩)
  have hjl := (List.getElem?_eq_some_iff.mp hr).1
  have hn1 := hN.1
  subst e
  rw [nI_clamp (show j < 2 ^ 31 by omega), (hx.2.2 j r hr).2.1]
  exact ⟨nI_in (by omega) (by omega), h1 j r rfl hr⟩
theorem p_xrt (hx : recX R v2 N w pr t) (hN : capX R.length N) (hok : recOK R) {p v0 v1 v3 v4 v5 : Int32} {v6 : Nat} {post : Int32 → Int32 → Prop} (h1 : ∀ (j : Nat) (r : Nat × Nat × Nat), p = nI j → R[j]? = some r → post (nI r.2.2) 0) (h0 : (∀ j : Nat, j < R.length → p ≠ nI j) → post 0 1) : P_X9_isReturned post p v0 v1 v2 v3 v4 v5 v6 N t := by
  have e2 := hx.1
  subst e2
  have hb := hN.2.2
  refine p_xreq hok (fun j r e hr => ⟨fun q => absurd q (by decide), fun _ => ?_⟩) (fun hno => ⟨fun _ => h0 hno, fun q => absurd rfl q⟩)
  have hjl := (List.getElem?_eq_some_iff.mp hr).1
  have hn1 := hN.1
  subst e
  have ht := (hok.1 r (List.mem_of_getElem? hr)).2
  rw [nI_clamp (show j < 2 ^ 31 by omega), (hx.2.2 j r hr).2.2]
  have k := h1 j r rfl hr
  rcases (show r.2.2 = 0 ∨ r.2.2 = 1 by omega) with e | e
  · rw [e] at k ⊢
    exact ⟨nI_in (by omega) (by omega), fun _ => k, fun q => absurd rfl q⟩
  · rw [e] at k ⊢
    exact ⟨nI_in (by omega) (by omega), fun q => absurd q (by decide), fun _ => k⟩
end RR
/-! pieces by the letters of a spelt word; taking back -/
def addR (v : Nat → Int32) (n k : Nat) : Nat → Int32 := fun l => v l + nI (cntR n (wlen n) k l)
theorem addR_0 (v : Nat → Int32) (n : Nat) : addR v n 0 = v := by
  funext l
  show v l + nI 0 = v l
  rw [nI_0, Int32.add_zero]
theorem tkF_0 (v : Nat → Int32) (n : Nat) : tkF v n 0 = v := by
  funext l
  show v l - nI 0 = v l
  rw [nI_0, Int32.sub_zero]
theorem addR_s (v : Nat → Int32) (n k : Nat) : upd (addR v n k) (dg n (wlen n - 1 - k)) (addR v n k (dg n (wlen n - 1 - k)) + 1) = addR v n (k + 1) := by
  funext l
  unfold upd
  by_cases e : l = dg n (wlen n - 1 - k)
  · subst e
    rw [if_pos rfl]
    show v _ + nI (cntR n (wlen n) k _) + 1 = v _ + nI (cntR n (wlen n) k _ + (if dg n (wlen n - 1 - k) = dg n (wlen n - 1 - k) then 1 else 0))
    rw [if_pos rfl, nI_succ, Int32.add_assoc]
  · rw [if_neg e]
    show v l + nI (cntR n (wlen n) k l) = v l + nI (cntR n (wlen n) k l + (if dg n (wlen n - 1 - k) = l then 1 else 0))
    rw [if_neg (fun q => e q.symm), Nat.add_zero]
theorem addR_at (v : Nat → Int32) (n l : Nat) : addR v n (wlen n) l = v l + nI (cnt n l) := by
  show v l + nI (cntR n (wlen n) (wlen n) l) = _
  rw [cntR_len]
theorem tkF_at (v : Nat → Int32) (n l : Nat) : tkF v n (wlen n) l = v l - nI (cnt n l) := by
  show v l - nI (cntR n (wlen n) (wlen n) l) = _
  rw [cntR_len]
theorem putF_1 (v : Nat → Int32) (n l : Nat) : putF v n 1 (wlen n) l = v l + nI (cnt n l) := by
  show v l + 1 * nI (cntU n (wlen n) l) = _
  rw [Int32.one_mul]; rfl
theorem putF_m (v : Nat → Int32) (n l : Nat) : putF v n (-1) (wlen n) l = v l - nI (cnt n l) := by
  show v l + (-1) * nI (cntU n (wlen n) l) = _
  rw [Int32.neg_mul, Int32.one_mul, Int32.sub_eq_add_neg]; rfl
theorem isU_sub {v w : Nat → Int32} {u : Nat → Nat} {n : Nat} (hu : isU v u) (ho : okU u n (wlen n)) (hw : ∀ l : Nat, w l = v l - nI (cnt n l)) : isU w (fun l => u l - cnt n l) := fun l a b => by
  have ⟨h1, h2⟩ := hu l a b
  have h3 : cnt n l ≤ u l := ho l a b
  refine ⟨?_, by show u l - cnt n l < _; omega⟩
  rw [hw l, h1, nI_sub h3]
theorem isU_add {v w : Nat → Int32} {u x : Nat → Nat} (hu : isU v u) (hr : roomU u x) (hw : ∀ l : Nat, 1 ≤ l → l ≤ 26 → w l = v l + nI (x l)) : isU w (fun l => u l + x l) := fun l a b => by
  have ⟨h1, h2⟩ := hu l a b
  have h3 := hr l a b
  refine ⟨?_, by show u l + x l < _; omega⟩
  rw [hw l a b, h1, nI_add]
theorem sp_in {n k : Nat} (hw : isW n) (hk : k < wlen n) : 1 ≤ dg n (wlen n - 1 - k) ∧ dg n (wlen n - 1 - k) ≤ 26 := hw.2.2 _ (by omega)
theorem p_xtkA {n : Nat} (hw : isW n) {sp : Nat → Int32} (hsp : ∀ k : Nat, k < wlen n → sp k = nI (dg n (wlen n - 1 - k))) {z : Int32} {f6 f7 : Nat → Int32} {K : (Nat → Int32) → (Nat → Int32) → Prop} (h : K (addR f6 n (wlen n)) (tkF f7 n (wlen n))) :
    ∀ m k fuel : Nat, k + m = wlen n → m < fuel → P_X9_takeBack_L86 z (nI (wlen n)) sp K fuel (nI k) (addR f6 n k) (tkF f7 n k) := by
  have hl := isW_len hw
  intro m
  induction m with
  | zero =>
    intro k fuel hk hf
    obtain ⟨g, rfl⟩ : ∃ g, fuel = g + 1 := ⟨fuel - 1, by omega⟩
    have e : k = wlen n := by omega
    subst e
    unfold P_X9_takeBack_L86
    exact ⟨fun _ => h, fun q => absurd (nI_le (Nat.le_refl _) (by omega)) q⟩
  | succ m ih =>
    intro k fuel hk hf
    obtain ⟨g, rfl⟩ : ∃ g, fuel = g + 1 := ⟨fuel - 1, by omega⟩
    have hd := sp_in hw (show k < wlen n by omega)
    have key := ih (k + 1) g (by omega) (by omega)
    rw [← addR_s, ← tkF_s] at key
    unfold P_X9_takeBack_L86
    rw [nI_clamp (show k < 2 ^ 31 by omega), hsp k (by omega), nI_clamp (show dg n (wlen n - 1 - k) < 2 ^ 31 by omega), ← nI_succ]
    exact ⟨fun q => absurd q (nI_ge (by omega) (by omega)), fun _ => ⟨nI_in (by omega) (by omega), nI_in (by omega) (by omega), nI_in (by omega) (by omega), nI_in (by omega) (by omega), nI_in (by omega) (by omega), nI_in (by omega) (by omega), key⟩⟩
theorem p_xslL {n : Nat} (hw : isW n) {sp : Nat → Int32} (hsp : ∀ k : Nat, k < wlen n → sp k = nI (dg n (wlen n - 1 - k))) {z1 : Int64} {z3 : Int32} {f6 f8 : Nat → Int32} {K : (Nat → Int32) → (Nat → Int32) → Prop} (h : K (tkF f6 n (wlen n)) (addR f8 n (wlen n))) :
    ∀ m k fuel : Nat, k + m = wlen n → m < fuel → P_X9_sellNow_L13 z1 z3 (nI (wlen n)) sp K fuel (nI k) (tkF f6 n k) (addR f8 n k) := by
  have hl := isW_len hw
  intro m
  induction m with
  | zero =>
    intro k fuel hk hf
    obtain ⟨g, rfl⟩ : ∃ g, fuel = g + 1 := ⟨fuel - 1, by omega⟩
    have e : k = wlen n := by omega
    subst e
    unfold P_X9_sellNow_L13
    exact ⟨fun _ => h, fun q => absurd (nI_le (Nat.le_refl _) (by omega)) q⟩
  | succ m ih =>
    intro k fuel hk hf
    obtain ⟨g, rfl⟩ : ∃ g, fuel = g + 1 := ⟨fuel - 1, by omega⟩
    have hd := sp_in hw (show k < wlen n by omega)
    have key := ih (k + 1) g (by omega) (by omega)
    rw [← addR_s, ← tkF_s] at key
    unfold P_X9_sellNow_L13
    rw [nI_clamp (show k < 2 ^ 31 by omega), hsp k (by omega), nI_clamp (show dg n (wlen n - 1 - k) < 2 ^ 31 by omega), ← nI_succ]
    exact ⟨fun q => absurd q (nI_ge (by omega) (by omega)), fun _ => ⟨nI_in (by omega) (by omega), nI_in (by omega) (by omega), nI_in (by omega) (by omega), nI_in (by omega) (by omega), nI_in (by omega) (by omega), nI_in (by omega) (by omega), key⟩⟩
theorem p_xtrL {v co : Nat → Int32} {u x : Nat → Nat} (hu : isU v u) (hx : isU co x) {z : Int32} {K : Int32 → Prop} :
    ∀ m k fuel : Nat, k + m = 26 → m < fuel → (K 0 → P_X9_takeBack_L24 z v co K fuel 0 (nI (k + 1))) ∧ ((∀ l : Nat, 1 ≤ l → l ≤ k → u l + x l ≤ 999) → (roomU u x → K 1) → (¬ roomU u x → K 0) → P_X9_takeBack_L24 z v co K fuel 1 (nI (k + 1))) := by
  intro m
  induction m with
  | zero =>
    intro k fuel hk hf
    obtain ⟨g, rfl⟩ : ∃ g, fuel = g + 1 := ⟨fuel - 1, by omega⟩
    have e : k = 26 := by omega
    subst e
    have hh : (26 : Int32) < nI (26 + 1) := nI_lt (a := 26) (b := 27) (by omega) (by omega)
    unfold P_X9_takeBack_L24
    exact ⟨fun h => ⟨fun _ => h, fun q => absurd hh q⟩, fun a b _ => ⟨fun _ => b a, fun q => absurd hh q⟩⟩
  | succ m ih =>
    intro k fuel hk hf
    obtain ⟨g, rfl⟩ : ∃ g, fuel = g + 1 := ⟨fuel - 1, by omega⟩
    have hh : ¬ (26 : Int32) < nI (k + 1) := nI_nlt (a := 26) (by omega) (by omega)
    have ⟨i0, i1⟩ := ih (k + 1) g (by omega) (by omega)
    have hin : vp_in (nI (k + 1)) 27 := nI_in (by omega) (by omega)
    have ⟨a1, a2⟩ := hu (k + 1) (by omega) (by omega)
    have ⟨b1, b2⟩ := hx (k + 1) (by omega) (by omega)
    unfold P_X9_takeBack_L24
    rw [nI_clamp (show k + 1 < 2 ^ 31 by omega), a1, b1, nI_add, ← nI_succ]
    refine ⟨fun h => ⟨fun q => absurd q hh, fun _ => ⟨fun _ => i0 h, fun q => absurd rfl q⟩⟩, fun a b d => ⟨fun q => absurd q hh, fun _ => ⟨fun q => absurd q (by decide), fun _ => ⟨hin, hin, fun q => i0 (d fun z => ?_), fun q => i1 (fun l p1 p2 => ?_) b d⟩⟩⟩⟩
    · have q' := (nlt (a := 999) (by omega) (by omega)).mp q
      have := z (k + 1) (by omega) (by omega)
      omega
    · have q' : ¬ 999 < u (k + 1) + x (k + 1) := fun z => q ((nlt (a := 999) (by omega) (by omega)).mpr z)
      by_cases e : l = k + 1
      · rw [e]; omega
      · exact a l p1 (by omega)
/-- what is refunded -/
def refI (p : Nat) : Int32 := nI p - nI p / 10
theorem p_ctake {R : List (Nat × Nat × Nat)} {z : ZL} (hz : recZ R z) (hc : capL (lln z) z.2.1) (hok : recOK R) {p v1 : Int32} {v0 v2 v3 : Nat → Int32} {u : Nat → Nat} (hu : isU v0 u) {post : Int32 → (Nat → Int32) → Int32 → (Nat → Int32) → (Nat → Int32) → ZL → Prop} {postX : String → (Nat → Int32) → Int32 → (Nat → Int32) → (Nat → Int32) → ZL → Prop}
    (h1 : ∀ (j : Nat) (r : Nat × Nat × Nat), p = nI j → R[j]? = some r → r.2.2 = 0 → roomU u (cnt r.1) → ∀ inc, isU inc (cnt r.1) → post (refI r.2.1) (padF v0 inc 26) (v1 - refI r.2.1) (putF v2 r.1 (-1) (wlen r.1)) inc (lset z j 1))
    (h2 : ∀ (j : Nat) (r : Nat × Nat × Nat), p = nI j → R[j]? = some r → ¬ (r.2.2 = 0 ∧ roomU u (cnt r.1)) → ∀ inc, postX sISE v0 v1 v2 inc z) (h0 : (∀ j : Nat, j < R.length → p ≠ nI j) → postX sIOB v0 v1 v2 v3 z) : P_X8_takeBack post postX p v0 v1 v2 v3 z := by
  refine p_creq hz hc hok (fun j r e hr => ?_) h0
  have ⟨g1, g2, g3⟩ := rec_at hz hr
  have hjl := (List.getElem?_eq_some_iff.mp hr).1
  have hw := (hok.1 r (List.mem_of_getElem? hr)).1
  have ht := (hok.1 r (List.mem_of_getElem? hr)).2
  have s1 : lwd (lset z j 1) j = lN r.1 ∧ lpr (lset z j 1) j = nI r.2.1 ∧ lrt (lset z j 1) j = nI 1 := rec_at (rec_set hz hr) (i := j) (r := (r.1, r.2.1, 1)) (List.getElem?_set_self hjl)
  show (lrt z j = 0 → _) ∧ (¬ lrt z j = 0 → _)
  refine ⟨fun q => ?_, fun q => h2 j r e hr (fun w => q (by rw [g3, w.1]; rfl)) _⟩
  have r0 : r.2.2 = 0 := by
    rw [g3] at q
    exact (neq (b := 0) (by omega) (by omega)).mp q
  rw [g1]
  refine p_clear (p_put hw.2.1 (p_reqRoom hu (isU_clr hw.2.1 v3) (fun hr2 => p_putAll ?_) (fun hr2 => h2 j r e hr (fun w => hr2 w.2) _)))
  unfold P_X0_giveBack P_X4_refund
  dsimp only
  rw [s1.1, s1.2.1]
  refine p_put hw.2.1 ⟨lset_lga z j 1 j, ?_, ?_⟩
  · rw [lset_lln, rec_len hz]; exact hjl
  · exact h1 j r e hr r0 hr2 _ (isU_clr hw.2.1 v3)
theorem p_xtake {R : List (Nat × Nat × Nat)} (hok : recOK R) {N : Nat} (hN : capX R.length N) {p v0 v1 v2 v3 v4 v5 : Int32} {v6 v7 : Nat → Int32} {v8 v11 v14 : Nat} {v10 : Nat → Int64} {v13 v16 v17 v18 : Nat → Int32} (hx : recX R v2 N v10 v13 v16) {u : Nat → Nat} (hu : isU v6 u) {post : Int32 → Int32 → Int32 → Int32 → (Nat → Int32) → (Nat → Int32) → (Nat → Int32) → (Nat → Int32) → (Nat → Int32) → Prop}
    (h1 : ∀ (j : Nat) (r : Nat × Nat × Nat), p = nI j → R[j]? = some r → r.2.2 = 0 → roomU u (cnt r.1) → ∀ a sp co, post (refI r.2.1) 0 (v3 - refI r.2.1) a (addR v6 r.1 (wlen r.1)) (tkF v7 r.1 (wlen r.1)) (upd v16 j 1) sp co)
    (h2 : ∀ (j : Nat) (r : Nat × Nat × Nat), p = nI j → R[j]? = some r → ¬ (r.2.2 = 0 ∧ roomU u (cnt r.1)) → ∀ a sp co, post 0 2 v3 a v6 v7 v16 sp co) (h0 : (∀ j : Nat, j < R.length → p ≠ nI j) → ∀ a sp co, post 0 1 v3 a v6 v7 v16 sp co) : P_X9_takeBack post p v0 v1 v2 v3 v4 v5 v6 v7 v8 N v10 v11 N v13 v14 N v16 v17 v18 := by
  have e2 := hx.1
  subst e2
  have hb := hN.2.2
  refine p_xreq hok (fun j r e hr => ⟨fun q => absurd q (by decide), fun _ => ?_⟩) (fun hno => ⟨fun _ => h0 hno _ _ _, fun q => absurd rfl q⟩)
  have hjl := (List.getElem?_eq_some_iff.mp hr).1
  have hn1 := hN.1
  have hw := (hok.1 r (List.mem_of_getElem? hr)).1
  have ht := (hok.1 r (List.mem_of_getElem? hr)).2
  have ⟨g1, g2, g3⟩ := hx.2.2 j r hr
  have n1 : vp_nar .boolean 1 = 1 := rfl
  subst e
  have hin : vp_in (nI j) N := nI_in (by omega) (by omega)
  rw [nI_clamp (show j < 2 ^ 31 by omega), g1, g2, g3, n1]
  refine ⟨hin, p_xspell hw (fun sp co hs => ?_)⟩
  have hco : isU co (cnt r.1) := fun l a b => ⟨hs.2 l b, by have := cnt_le hw.2.1 l; omega⟩
  refine (p_xtrL (z := nI j) hu hco (K := _) 26 0 FU rfl (FU_s _ (by omega))).2 (fun l a b => absurd a (by omega)) (fun hro => ⟨hin, fun q => ⟨fun z => absurd z (by decide), fun _ => ?_⟩, fun q => ?_⟩) (fun hro => ⟨hin, fun q => ⟨fun _ => h2 j r rfl hr (fun w => hro w.2) _ _ _, fun z => absurd rfl z⟩, fun q => h2 j r rfl hr (fun w => hro w.2) _ _ _⟩)
  · have r0 : r.2.2 = 0 := (neq (b := 0) (by omega) (by omega)).mp q
    have key := p_xtkA hw hs.1 (z := nI j) (f6 := v6) (f7 := v7) (K := fun (w10 : Nat → Int32) (w11 : Nat → Int32) => vp_in (nI j) N ∧ vp_in (nI j) N ∧ vp_in (nI j) N ∧ ∀ y12 : Int32, y12 = (nI r.2.1 - nI r.2.1 / 10) → post y12 0 (v3 - y12) (nI (wlen r.1)) w10 w11 (upd v16 j 1) sp co)
      ⟨hin, hin, hin, fun y hy => by rw [hy]; exact h1 j r rfl hr r0 hro _ _ _⟩ (wlen r.1) 0 FU (Nat.zero_add _) (len_FU hw.2.1)
    rw [addR_0, tkF_0, nI_0] at key
    exact key
  · have r1 : r.2.2 ≠ 0 := fun e => q (by rw [e]; rfl)
    exact h2 j r rfl hr (fun w => r1 w.1) _ _ _
/-! one sale -/
def subU (u : Nat → Nat) (n : Nat) : Nat → Nat := fun l => u l - cnt n l
theorem p_hand {R : List (Nat × Nat × Nat)} {z : ZL} (hz : recZ R z) (hc : capL (lln z) z.2.1) {n : Nat} (hw : isW n) {v v1 v2 v4 : Nat → Int32} {v3 : Int32} {u b : Nat → Nat} (hu : isU v u) (hb : isB v1 b) (ht : isWt v2) (ho : okU u n (wlen n)) {mc ms : Nat} (hm : 2 ≤ mc) (hs : 3 + gCst (lln z) z.2.1 ≤ ms) {post : Int32 → (Nat → Int32) → Int32 → (Nat → Int32) → ZL → Prop}
    (h : ∀ v' z', isU v' (subU u n) → recZ (R ++ [(n, costN n u b, 0)]) z' → z'.2.1 = gNew (lln z) z.2.1 → post (nI (costN n u b)) v' (v3 + nI (costN n u b)) (putF v4 n 1 (wlen n)) z') : P_X8_handOver post mc ms (lN n) v v1 v2 v3 v4 z := by
  refine p_weigh hw hu hb ht ho (p_take hw hu (fun _ => ⟨mc, ms, 0, 0, ⟨Nat.le_refl _, Nat.le_refl _⟩, p_cwrite hz hc hm hs hw.2.1 (fun z' h1 h2 => h _ z' (isU_sub hu ho (putF_m v n)) h1 h2)⟩) (fun q => absurd ho q))
theorem p_xsell {R : List (Nat × Nat × Nat)} (hok : recOK R) {N : Nat} (hN : capX R.length N) (hl : R.length < 10240) {v2 : Int32} {v11 : Nat → Int64} {v14 v17 : Nat → Int32} (hx : recX R v2 N v11 v14 v17) {n : Nat} (hw : isW n) {v6 v7 v8 v18 v19 v20 : Nat → Int32} {u b : Nat → Nat} (hu : isU v6 u) (hb : isB v7 b) (ho : okU u n (wlen n)) {mc ms : Nat} (hm : 3 ≤ mc) (hs : dCst R.length N ≤ ms) {v0 v1 v3 v4 v5 : Int32} {v9 v12 v15 : Nat} {post : Int32 → Int32 → Int32 → Int32 → (Nat → Int32) → (Nat → Int32) → Nat → Nat → (Nat → Int64) → Nat → Nat → (Nat → Int32) → Nat → Nat → (Nat → Int32) → (Nat → Int32) → (Nat → Int32) → (Nat → Int32) → Prop}
    (h : ∀ v' x a b' c w p' t sp co iw, isU v' (subU u n) → recX (R ++ [(n, costN n u b, 0)]) (nI (R.length + 1)) (dNew R.length N) w p' t → post (nI (costN n u b)) (nI (R.length + 1)) (v3 + nI (costN n u b)) x v' (addR v8 n (wlen n)) a (dNew R.length N) w b' (dNew R.length N) p' c (dNew R.length N) t sp co iw) : P_X9_sellNow post mc ms (lN n) v0 v1 v2 v3 v4 v5 v6 v7 v8 v9 N v11 v12 N v14 v15 N v17 v18 v19 v20 := by
  refine p_xspell hw (fun sp co hs' => p_xcost hw hu hb hs'.1 ho (fun iw => ?_))
  have key := p_xslL hw hs'.1 (z1 := lN n) (z3 := nI (costN n u b)) (f6 := v6) (f8 := v8) (K := fun (w7 : Nat → Int32) (w8 : Nat → Int32) => ∃ mc21 ms22 : Nat, ∃ mc23 ms24 : Nat, (mc21 + mc23 ≤ mc ∧ ms22 + ms24 ≤ ms) ∧ P_X9_write (fun (w10 : Int32) (w11 : Int32) (w12 : Nat) (w13 : Nat) (w14 : Nat → Int64) (w15 : Nat) (w16 : Nat) (w17 : Nat → Int32) (w18 : Nat) (w19 : Nat) (w20 : Nat → Int32) => post (nI (costN n u b)) w10 w11 (nI (wlen n)) w7 w8 w12 w13 w14 w15 w16 w17 w18 w19 w20 sp co iw) mc21 ms22 (lN n) (nI (costN n u b)) v0 v1 v2 v3 (nI (wlen n)) v5 v9 N v11 v12 N v14 v15 N v17)
    ⟨mc, ms, 0, 0, ⟨Nat.le_refl _, Nat.le_refl _⟩, p_xwrite hok hN hl hx hm hs (fun a b' c w p' t hx' => h _ _ a b' c w p' t sp co iw (isU_sub hu ho (tkF_at v6 n)) hx')⟩ (wlen n) 0 FU (Nat.zero_add _) (len_FU hw.2.1)
  rw [addR_0, tkF_0, nI_0] at key
  exact key
/-! sales one after another -/
theorem best_ex {u b : Nat → Nat} {B : Nat} : ∀ L : List Nat, (∀ m ∈ L, isW m) → ∃ x : Nat, isBest u b (fun m => m ∈ L ∧ selB u b B m = true) x
  | [], _ => ⟨0, Or.inl ⟨rfl, fun m h => absurd h.1 List.not_mem_nil⟩⟩
  | y :: L, hL => by
    obtain ⟨x, hx⟩ := best_ex (u := u) (b := b) (B := B) L fun m hm => hL m (List.mem_cons_of_mem _ hm)
    by_cases hs : selB u b B y = true
    · have hy : isW y := hL y List.mem_cons_self
      rcases hx with ⟨e, h⟩ | ⟨h1, h2⟩
      · refine ⟨y, Or.inr ⟨⟨List.mem_cons_self, hs⟩, fun m hm => ?_⟩⟩
        rcases List.mem_cons.mp hm.1 with q | q
        · exact Or.inl q
        · exact absurd ⟨q, hm.2⟩ (h m)
      · by_cases hb : bett u b y x
        · refine ⟨y, Or.inr ⟨⟨List.mem_cons_self, hs⟩, fun m hm => ?_⟩⟩
          rcases List.mem_cons.mp hm.1 with q | q
          · exact Or.inl q
          · rcases h2 m ⟨q, hm.2⟩ with z | z
            · rw [z]; exact Or.inr hb
            · exact Or.inr (bett_tr hb z)
        · refine ⟨x, Or.inr ⟨⟨List.mem_cons_of_mem _ h1.1, h1.2⟩, fun m hm => ?_⟩⟩
          rcases List.mem_cons.mp hm.1 with q | q
          · rw [q]; exact bett_tot (hL x (List.mem_cons_of_mem _ h1.1)) hy hb
          · exact h2 m ⟨q, hm.2⟩
    · refine ⟨x, ?_⟩
      have hA : ∀ m, (m ∈ y :: L ∧ selB u b B m = true) ↔ (m ∈ L ∧ selB u b B m = true) := fun m => by
        constructor
        · rintro ⟨p, q⟩
          rcases List.mem_cons.mp p with z | z
          · rw [z] at q; exact absurd q hs
          · exact ⟨z, q⟩
        · rintro ⟨p, q⟩
          exact ⟨List.mem_cons_of_mem _ p, q⟩
      rcases hx with ⟨e, h⟩ | ⟨h1, h2⟩
      · exact Or.inl ⟨e, fun m hm => h m ((hA m).mp hm)⟩
      · exact Or.inr ⟨(hA x).mpr h1, fun m hm => h2 m ((hA m).mp hm)⟩
/-- the sales of a spend: word and price -/
def spR (S : List Nat) (b : Nat → Nat) : Nat → Nat → (Nat → Nat) → List (Nat × Nat) → Prop
  | 0, _, _, L => L = []
  | k + 1, B, u, L => ∃ x : Nat, isBest u b (fun m => m ∈ S ∧ selB u b B m = true) x ∧ ((x = 0 ∧ L = []) ∨ (x ≠ 0 ∧ ∃ L' : List (Nat × Nat), L = (x, costN x u b) :: L' ∧ spR S b k (B - costN x u b) (subU u x) L'))
theorem best_sel {S : List Nat} {u b : Nat → Nat} {B x : Nat} (h : isBest u b (fun m => m ∈ S ∧ selB u b B m = true) x) (h0 : x ≠ 0) : x ∈ S ∧ okU u x (wlen x) ∧ costN x u b ≤ B := by
  rcases h with ⟨e, -⟩ | ⟨⟨h1, h2⟩, -⟩
  · exact absurd e h0
  · refine ⟨h1, sel_ok h2, ?_⟩
    unfold selB at h2
    exact of_decide_eq_true (Bool.and_eq_true_iff.mp h2).2
theorem spR_ex {S : List Nat} (hS : ∀ m ∈ S, isW m) {b : Nat → Nat} : ∀ (k B : Nat) (u : Nat → Nat), ∃ L : List (Nat × Nat), spR S b k B u L ∧ L.length ≤ k ∧ ∀ e ∈ L, isW e.1
  | 0, _, _ => ⟨[], rfl, Nat.le_refl _, fun e he => absurd he List.not_mem_nil⟩
  | k + 1, B, u => by
    obtain ⟨x, hx⟩ := best_ex (u := u) (b := b) (B := B) S hS
    by_cases e : x = 0
    · exact ⟨[], ⟨x, hx, Or.inl ⟨e, rfl⟩⟩, Nat.zero_le _, fun e he => absurd he List.not_mem_nil⟩
    · obtain ⟨L, h1, h2, h3⟩ := spR_ex hS k (B - costN x u b) (subU u x) (b := b)
      refine ⟨(x, costN x u b) :: L, ⟨x, hx, Or.inr ⟨e, L, rfl, h1⟩⟩, by rw [List.length_cons]; omega, fun d hd => ?_⟩
      rcases List.mem_cons.mp hd with q | q
      · rw [q]; exact hS x (best_sel hx e).1
      · exact h3 d q
def ufin (u : Nat → Nat) (L : List (Nat × Nat)) : Nat → Nat := L.foldl (fun u e => subU u e.1) u
def balI (v : Int32) (L : List (Nat × Nat)) : Int32 := L.foldl (fun a e => a + nI e.2) v
def putS (v : Nat → Int32) (L : List (Nat × Nat)) : Nat → Int32 := L.foldl (fun f e => putF f e.1 1 (wlen e.1)) v
def sldS (v : Nat → Int32) (L : List (Nat × Nat)) : Nat → Int32 := L.foldl (fun f e => addR f e.1 (wlen e.1)) v
def rcsL (L : List (Nat × Nat)) : List (Nat × Nat × Nat) := L.map (fun e => (e.1, e.2, 0))
def gSum (r C : Nat) : Nat → Nat
  | 0 => 0
  | k + 1 => 3 + gCst r C + gSum (r + 1) (gNew r C) k
def gFin (r C : Nat) : Nat → Nat
  | 0 => C
  | k + 1 => gFin (r + 1) (gNew r C) k
def dSum (r N : Nat) : Nat → Nat
  | 0 => 0
  | k + 1 => dCst r N + dSum (r + 1) (dNew r N) k
def dFin (r N : Nat) : Nat → Nat
  | 0 => N
  | k + 1 => dFin (r + 1) (dNew r N) k
theorem rcs_cons (R : List (Nat × Nat × Nat)) (x p : Nat) (L : List (Nat × Nat)) : R ++ [(x, p, 0)] ++ rcsL L = R ++ rcsL ((x, p) :: L) := by
  rw [List.append_assoc]; rfl
theorem rcs_len (R : List (Nat × Nat × Nat)) (x p : Nat) : (R ++ [(x, p, 0)]).length = R.length + 1 := by rw [List.length_append]; rfl
section SP
variable {S : List Nat} {b : Nat → Nat}
theorem p_cspL {c : Int32} {f : Nat → Int64} (hr : rowIs c f S) (hd : dicS S) {v3 v4 : Nat → Int32} (hb : isB v3 b) (ht : isWt v4) {K39 K57 : Nat → Nat → Int32 → (Nat → Int32) → Int32 → (Nat → Int32) → ZL → Prop} :
    ∀ (k i fuel B : Nat) (u : Nat → Nat) (L : List (Nat × Nat)) (R : List (Nat × Nat × Nat)) (z : ZL) (v v6 : Nat → Int32) (v5 : Int32) (rc rs : Nat), i + k = 20 → k < fuel → B < 2 ^ 31 → spR S b k B u L → isU v u → recZ R z → capL (lln z) z.2.1 → R.length + k ≤ 10240 → 2 * L.length ≤ rc → gSum (lln z) z.2.1 L.length ≤ rs →
    (∀ (rc rs : Nat) v' z', isU v' (ufin u L) → recZ (R ++ rcsL L) z' → z'.2.1 = gFin (lln z) z.2.1 L.length → capL (lln z') z'.2.1 → K39 rc rs (nI (i + L.length)) v' (balI v5 L) (putS v6 L) z' ∧ K57 rc rs (nI (i + L.length)) v' (balI v5 L) (putS v6 L) z') →
    P_X8_spend_L8 c f v3 v4 K39 K57 fuel rc rs (nI B) (nI i) v v5 v6 z := by
  intro k
  induction k with
  | zero =>
    intro i fuel B u L R z v v6 v5 rc rs hi hf hB hL hu hz hc hR hrc hrs h
    obtain ⟨g, rfl⟩ : ∃ g, fuel = g + 1 := ⟨fuel - 1, by omega⟩
    have e : i = 20 := by omega
    have e2 : L = [] := hL
    subst e e2
    unfold P_X8_spend_L8
    refine ⟨fun _ => (h rc rs v z hu ?_ rfl hc).2, fun q => absurd (nI_le (a := 20) (b := 20) (by omega) (by omega)) q⟩
    show recZ (R ++ []) z
    rw [List.append_nil]; exact hz
  | succ k ih =>
    intro i fuel B u L R z v v6 v5 rc rs hi hf hB hL hu hz hc hR hrc hrs h
    obtain ⟨g, rfl⟩ : ∃ g, fuel = g + 1 := ⟨fuel - 1, by omega⟩
    have hlz := rec_len hz
    have es : lsz z = nI R.length := by unfold lsz; rw [hlz]
    obtain ⟨y, hy, hyL⟩ := hL
    unfold P_X8_spend_L8 P_X0_hasRoomFor
    rw [es, ← nI_succ, ← nI_succ]
    refine ⟨fun q => absurd q (nI_ge (b := 20) (by omega) (by omega)), fun _ => ⟨fun q => absurd ((nlt (a := 10240) (by omega) (by omega)).mp q) (by omega), fun _ => ⟨fun q => absurd q (by decide), fun _ => p_best hB hr hd hu hb ht (fun x hx => ?_)⟩⟩⟩
    have exy := best_one hx hy
    subst exy
    rcases hyL with ⟨e, e2⟩ | ⟨e, L', e2, hL'⟩
    · subst e2
      refine ⟨fun _ => (h rc rs v z hu ?_ rfl hc).1, fun q => absurd (show lN x = 0 by rw [e]; rfl) q⟩
      show recZ (R ++ []) z
      rw [List.append_nil]; exact hz
    · subst e2
      have ⟨hxS, hok, hcB⟩ := best_sel hx e
      have hwx := hd.1 x hxS
      have hlt : x < 2 ^ 63 := Nat.lt_trans hwx.2.1 (by decide)
      rw [List.length_cons] at hrc hrs
      have hs2 : 3 + gCst (lln z) z.2.1 + gSum (lln z + 1) (gNew (lln z) z.2.1) L'.length ≤ rs := hrs
      refine ⟨fun q => absurd ((lN_ne0 hlt).mp q) e, fun _ => ⟨2, 3 + gCst (lln z) z.2.1, rc - 2, rs - (3 + gCst (lln z) z.2.1), ⟨by omega, by omega⟩, ?_⟩⟩
      refine p_hand hz hc hwx hu hb ht hok (Nat.le_refl _) (Nat.le_refl _) (fun v' z' hu' hz' hc' y16 hy16 => ?_)
      rw [hy16, nI_sub hcB]
      have hl2 : lln z' = lln z + 1 := by rw [rec_len hz', rcs_len, hlz]
      have hcap : capL (lln z') z'.2.1 := by rw [hl2, hc']; exact cap_new hc (by omega)
      refine ih (i + 1) g (B - costN x u b) (subU u x) L' _ z' v' _ _ _ _ (by omega) (by omega) (by omega) hL' hu' hz' hcap (by rw [rcs_len]; omega) (by omega) (by rw [hl2, hc']; omega) (fun rc rs v'' z'' h1 h2 h3 h4 => ?_)
      rw [hl2, hc'] at h3
      rw [rcs_cons] at h2
      have key := h rc rs v'' z'' h1 h2 h3 h4
      rw [List.length_cons, show i + (L'.length + 1) = i + 1 + L'.length by omega] at key
      exact key
theorem p_cspend {c : Int32} {f : Nat → Int64} (hr : rowIs c f S) (hd : dicS S) {v v3 v4 : Nat → Int32} {u : Nat → Nat} (hu : isU v u) (hb : isB v3 b) (ht : isWt v4) {R : List (Nat × Nat × Nat)} {z : ZL} (hz : recZ R z) (hc : capL (lln z) z.2.1) (hR : R.length + 20 ≤ 10240) {p v5 : Int32} {v6 : Nat → Int32} {L : List (Nat × Nat)} (hL : ∀ B : Nat, p = nI B → B ≤ 99999 → spR S b 20 B u L) {mc ms : Nat} (hm : 1 + 2 * L.length ≤ mc) (hs : 6 + gSum (lln z) z.2.1 L.length ≤ ms) {post : Int32 → (Nat → Int32) → Int32 → (Nat → Int32) → ZL → Prop} {postX : String → (Nat → Int32) → Int32 → (Nat → Int32) → ZL → Prop}
    (h1 : inR p 0 99999 → ∀ v' z', isU v' (ufin u L) → recZ (R ++ rcsL L) z' → z'.2.1 = gFin (lln z) z.2.1 L.length → capL (lln z') z'.2.1 → post (nI L.length) v' (balI v5 L) (putS v6 L) z') (hi : ¬ inR p 0 99999 → postX sIAE v v5 v6 z) : P_X8_spend post postX mc ms p c f v v3 v4 v5 v6 z := by
  refine ⟨mc - 1, ms - 6, ⟨by omega, by omega⟩, p_reqBudget (fun hp => ?_) hi⟩
  obtain ⟨B, -, hB, rfl⟩ := hp
  have key := p_cspL hr hd hb ht (K39 := fun (mc24 : Nat) (ms25 : Nat) (x17 : Int32) (w18 : Nat → Int32) (w19 : Int32) (w20 : Nat → Int32) (w21 : ZL) => post x17 w18 w19 w20 w21) (K57 := fun (mc33 : Nat) (ms34 : Nat) (x26 : Int32) (w27 : Nat → Int32) (w28 : Int32) (w29 : Nat → Int32) (w30 : ZL) => post x26 w27 w28 w29 w30) 20 0 FU B u L R z v v6 v5 (mc - 1) (ms - 6) rfl (FU_s _ (by omega)) (by omega) (hL B rfl hB) hu hz hc hR (by omega) (by omega)
    (fun rc rs v' z' a1 a2 a3 a4 => by
      rw [Nat.zero_add]
      have k := h1 ⟨B, Nat.zero_le _, hB, rfl⟩ v' z' a1 a2 a3 a4
      exact ⟨k, k⟩)
  rw [nI_0] at key
  exact key
theorem p_xspdL {v1 : Int32} {v6 : Nat → Int64} {M : List Nat} (hr : rowIs v1 v6 M) (hd : dRel S M) {v8 : Nat → Int32} (hb : isB v8 b) {v0 v5 : Int32} {K : Nat → Nat → Int32 → Int32 → Int32 → Int32 → (Nat → Int32) → (Nat → Int32) → Nat → Nat → (Nat → Int64) → Nat → Nat → (Nat → Int32) → Nat → Nat → (Nat → Int32) → (Nat → Int32) → (Nat → Int32) → (Nat → Int32) → Prop} :
    ∀ (k i fuel B x : Nat) (u : Nat → Nat) (L : List (Nat × Nat)) (R : List (Nat × Nat × Nat)) (N rc rs : Nat) (v2 v3 v4 : Int32) (v7 v9 : Nat → Int32) (v10 : Nat) (v12 : Nat → Int64) (v13 : Nat) (v15 : Nat → Int32) (v16 : Nat) (v18 v19 v20 v21 : Nat → Int32), i + k = 20 → k < fuel → B < 2 ^ 31 → spR S b k B u L → isBest u b (fun m => m ∈ S ∧ selB u b B m = true) x → isU v7 u → recOK R → capX R.length N → recX R v2 N v12 v15 v18 → R.length + k ≤ 10240 → 3 * L.length ≤ rc → dSum R.length N L.length ≤ rs →
    (∀ (rc rs : Nat) v' x a b' c w p' t sp co iw, isU v' (ufin u L) → recX (R ++ rcsL L) (nI (R ++ rcsL L).length) (dFin R.length N L.length) w p' t → recOK (R ++ rcsL L) → capX (R ++ rcsL L).length (dFin R.length N L.length) → K rc rs (nI (i + L.length)) (nI (R ++ rcsL L).length) (balI v3 L) x v' (sldS v9 L) a (dFin R.length N L.length) w b' (dFin R.length N L.length) p' c (dFin R.length N L.length) t sp co iw) →
    P_X9_spend_L25 v0 v1 v5 v6 v8 K fuel rc rs (nI i) (nI B) (lN x) v2 v3 v4 v7 v9 v10 N v12 v13 N v15 v16 N v18 v19 v20 v21 := by
  intro k
  induction k with
  | zero =>
    intro i fuel B x u L R N rc rs v2 v3 v4 v7 v9 v10 v12 v13 v15 v16 v18 v19 v20 v21 hi hf hB hL hx hu hok hN hX hR hrc hrs h
    obtain ⟨g, rfl⟩ : ∃ g, fuel = g + 1 := ⟨fuel - 1, by omega⟩
    have e : i = 20 := by omega
    have e2 : L = [] := hL
    subst e e2
    have e3 := hX.1
    subst e3
    have hk : ∀ x, K rc rs (nI 20) (nI R.length) v3 x v7 v9 v10 N v12 v13 N v15 v16 N v18 v19 v20 v21 := fun x => by
      have en : R ++ rcsL [] = R := List.append_nil R
      have key := h rc rs v7 x v10 v13 v16 v12 v15 v18 v19 v20 v21 hu
      rw [en] at key
      exact key hX hok hN
    unfold P_X9_spend_L25
    exact ⟨fun _ => hk _, fun _ => ⟨fun _ => hk _, fun q => absurd (nI_le (a := 20) (b := 20) (by omega) (by omega)) q⟩⟩
  | succ k ih =>
    intro i fuel B x u L R N rc rs v2 v3 v4 v7 v9 v10 v12 v13 v15 v16 v18 v19 v20 v21 hi hf hB hL hx hu hok hN hX hR hrc hrs h
    obtain ⟨g, rfl⟩ : ∃ g, fuel = g + 1 := ⟨fuel - 1, by omega⟩
    obtain ⟨y, hy, hyL⟩ := hL
    have exy := best_one hx hy
    subst exy
    have e3 := hX.1
    subst e3
    unfold P_X9_spend_L25
    rw [← nI_succ]
    rcases hyL with ⟨e, e2⟩ | ⟨e, L', e2, hL'⟩
    · subst e2
      refine ⟨fun _ => ?_, fun q => absurd (show lN x = 0 by rw [e]; rfl) q⟩
      have en : R ++ rcsL [] = R := List.append_nil R
      have key := h rc rs v7 v4 v10 v13 v16 v12 v15 v18 v19 v20 v21 hu
      rw [en] at key
      exact key hX hok hN
    · subst e2
      have ⟨hxS, hokx, hcB⟩ := best_sel hx e
      have hwx := hd.1.1 x hxS
      have hlt : x < 2 ^ 63 := Nat.lt_trans hwx.2.1 (by decide)
      rw [List.length_cons] at hrc hrs
      have hs2 : dCst R.length N + dSum (R.length + 1) (dNew R.length N) L'.length ≤ rs := hrs
      refine ⟨fun q => absurd ((lN_ne0 hlt).mp q) e, fun _ => ⟨fun q => absurd q (nI_ge (b := 20) (by omega) (by omega)), fun _ => ⟨3, dCst R.length N, rc - 3, rs - dCst R.length N, ⟨by omega, by omega⟩, ?_⟩⟩⟩
      refine p_xsell hok hN (by omega) hX hwx hu hb hokx (Nat.le_refl _) (Nat.le_refl _) (fun v' x1 a b' c w p' t sp co iw hu' hX' y31 hy31 => ?_)
      rw [hy31, nI_sub hcB]
      refine p_xbest (by omega) hr hd hu' hb (fun x2 hx2 x3 sp2 co2 iw2 => ?_)
      have hl2 := rcs_len R x (costN x u b)
      refine ih (i + 1) g (B - costN x u b) x2 (subU u x) L' (R ++ [(x, costN x u b, 0)]) (dNew R.length N) _ _ _ _ _ _ _ _ _ _ _ _ _ _ _ _ (by omega) (by omega) (by omega) hL' hx2 hu' (recOK_add hok hwx (by omega)) (by rw [hl2]; exact capX_new hN (by omega)) hX' (by rw [hl2]; omega) (by omega) (by rw [hl2]; omega) ?_
      intro rc' rs' v'' x4 a4 b4 c4 w4 p4 t4 sp4 co4 iw4 q1 q2 q3 q4
      rw [rcs_cons] at q2 q3 q4 ⊢
      rw [hl2] at q2 q4 ⊢
      have key := h rc' rs' v'' x4 a4 b4 c4 w4 p4 t4 sp4 co4 iw4 q1 q2 q3 q4
      rw [List.length_cons, show i + (L'.length + 1) = i + 1 + L'.length by omega] at key
      exact key
theorem p_xspend {v1 : Int32} {v6 : Nat → Int64} {M : List Nat} (hr : rowIs v1 v6 M) (hd : dRel S M) {v7 v8 v9 v18 v19 v20 v21 : Nat → Int32} {u : Nat → Nat} (hu : isU v7 u) (hb : isB v8 b) {R : List (Nat × Nat × Nat)} (hok : recOK R) {N : Nat} (hN : capX R.length N) {v2 : Int32} {v12 : Nat → Int64} {v15 : Nat → Int32} (hX : recX R v2 N v12 v15 v18) (hR : R.length + 20 ≤ 10240) {p v0 v3 v4 v5 : Int32} {v10 v13 v16 : Nat} {L : List (Nat × Nat)} (hL : ∀ B : Nat, p = nI B → B ≤ 99999 → spR S b 20 B u L) {mc ms : Nat} (hm : 3 * L.length ≤ mc) (hs : dSum R.length N L.length ≤ ms) {post : Int32 → Int32 → Int32 → Int32 → Int32 → (Nat → Int32) → (Nat → Int32) → Nat → Nat → (Nat → Int64) → Nat → Nat → (Nat → Int32) → Nat → Nat → (Nat → Int32) → (Nat → Int32) → (Nat → Int32) → (Nat → Int32) → Prop}
    (h1 : inR p 0 99999 → ∀ v' x a b' c w p' t sp co iw, isU v' (ufin u L) → recX (R ++ rcsL L) (nI (R ++ rcsL L).length) (dFin R.length N L.length) w p' t → recOK (R ++ rcsL L) → capX (R ++ rcsL L).length (dFin R.length N L.length) → post (nI L.length) 0 (nI (R ++ rcsL L).length) (balI v3 L) x v' (sldS v9 L) a (dFin R.length N L.length) w b' (dFin R.length N L.length) p' c (dFin R.length N L.length) t sp co iw)
    (hi : ¬ inR p 0 99999 → post 0 1 v2 v3 v4 v7 v9 v10 N v12 v13 N v15 v16 N v18 v19 v20 v21) : P_X9_spend post mc ms p v0 v1 v2 v3 v4 v5 v6 v7 v8 v9 v10 N v12 v13 N v15 v16 N v18 v19 v20 v21 := by
  refine p_xbudget (fun hp => p_good1 ⟨fun q => absurd q (by decide), fun _ => ?_⟩) (fun hp => p_good0 ⟨fun _ => hi hp, fun q => absurd rfl q⟩)
  obtain ⟨B, -, hB, rfl⟩ := hp
  refine p_xbest (by omega) hr hd hu hb (fun x hx x4 sp co iw => ?_)
  have key := p_xspdL hr hd hb (v0 := 0) (v5 := v5) (K := fun (mc57 : Nat) (ms58 : Nat) (x37 : Int32) (w38 : Int32) (w39 : Int32) (w40 : Int32) (w41 : Nat → Int32) (w42 : Nat → Int32) (w43 : Nat) (w44 : Nat) (w45 : Nat → Int64) (w46 : Nat) (w47 : Nat) (w48 : Nat → Int32) (w49 : Nat) (w50 : Nat) (w51 : Nat → Int32) (w52 : Nat → Int32) (w53 : Nat → Int32) (w54 : Nat → Int32) => post x37 0 w38 w39 w40 w41 w42 w43 w44 w45 w46 w47 w48 w49 w50 w51 w52 w53 w54) 20 0 FU B x u L R N mc ms v2 v3 x4 v7 v9 v10 v12 v13 v15 v16 v18 sp co iw rfl (FU_s _ (by omega)) (by omega) (hL B rfl hB) hx hu hok hN hX hR hm hs
    (fun rc rs v' x a b' c w p' t sp co iw q1 q2 q3 q4 => by
      rw [Nat.zero_add]
      exact h1 ⟨B, Nat.zero_le _, hB, rfl⟩ v' x a b' c w p' t sp co iw q1 q2 q3 q4)
  rw [nI_0] at key
  exact key
/-! sell -/
def selOK (S : List Nat) (u b : Nat → Nat) (p : Int64) (z : Int32) : Prop := ∃ n B : Nat, p = lN n ∧ isW n ∧ z = nI B ∧ B ≤ 99999 ∧ refN S u b B n = 0
theorem p_csellN {c : Int32} {f : Nat → Int64} (hr : rowIs c f S) (hd : dicS S) {v v3 v4 : Nat → Int32} {u : Nat → Nat} (hu : isU v u) (hb : isB v3 b) (ht : isWt v4) {p : Int64} {z v5 : Int32} {v6 : Nat → Int32} {v7 : ZL} {mc ms : Nat} (hm : 5 ≤ mc) (hs : 21 ≤ ms) {post : Int32 → (Nat → Int32) → Int32 → (Nat → Int32) → ZL → Prop} {postX : String → (Nat → Int32) → Int32 → (Nat → Int32) → ZL → Prop} (hn : ¬ selOK S u b p z)
    (h2 : isWd p ∧ inR z 0 99999 → postX sISE v v5 v6 v7) (hi : ¬ (isWd p ∧ inR z 0 99999) → postX sIAE v v5 v6 v7) : P_X8_sell post postX mc ms p z c f v v3 v4 v5 v6 v7 := by
  refine ⟨mc - 1, ms - 6, ⟨by omega, by omega⟩, p_reqWord (fun hw => ⟨mc - 2, ms - 12, ⟨by omega, by omega⟩, p_reqBudget (fun hz => ?_) (fun q => hi fun w => q w.2)⟩) (fun q => hi fun w => q w.1)⟩
  obtain ⟨n, rfl, hw⟩ := hw
  obtain ⟨B, -, hB, rfl⟩ := hz
  have hle := ref_le (S := S) (u := u) (b := b) (B := B) (n := n)
  refine p_reason hw (by omega) hr hd hu hb ht ⟨fun q => ?_, fun _ => ⟨⟨by omega, by omega⟩, h2 ⟨⟨n, rfl, hw⟩, ⟨B, Nat.zero_le _, hB, rfl⟩⟩⟩⟩
  exact absurd ⟨n, B, rfl, hw, rfl, hB, (neq (b := 0) (by omega) (by omega)).mp q⟩ hn
theorem ref_all {S : List Nat} {u b : Nat → Nat} {B n : Nat} (h : refN S u b B n = 0) : n ∈ S ∧ okU u n (wlen n) ∧ costN n u b ≤ B := by
  unfold refN at h
  split at h
  · next h1 =>
    split at h
    · next h2 =>
      split at h
      · next h3 => exact ⟨h1, okB_iff.mp h2, h3⟩
      · omega
    · omega
  · omega
theorem p_csellY {c : Int32} {f : Nat → Int64} (hr : rowIs c f S) (hd : dicS S) {v v3 v4 : Nat → Int32} {u : Nat → Nat} (hu : isU v u) (hb : isB v3 b) (ht : isWt v4) {R : List (Nat × Nat × Nat)} {z : ZL} (hz : recZ R z) (hc : capL (lln z) z.2.1) (hR : R.length + 1 ≤ 10240) {n B : Nat} (hw : isW n) (hB : B ≤ 99999) (href : refN S u b B n = 0) {v5 : Int32} {v6 : Nat → Int32} {mc ms : Nat} (hm : 5 ≤ mc) (hs : 21 + gCst (lln z) z.2.1 ≤ ms) {post : Int32 → (Nat → Int32) → Int32 → (Nat → Int32) → ZL → Prop} {postX : String → (Nat → Int32) → Int32 → (Nat → Int32) → ZL → Prop}
    (h : ∀ v' z', isU v' (subU u n) → recZ (R ++ [(n, costN n u b, 0)]) z' → z'.2.1 = gNew (lln z) z.2.1 → post (nI (costN n u b)) v' (v5 + nI (costN n u b)) (putF v6 n 1 (wlen n)) z') : P_X8_sell post postX mc ms (lN n) (nI B) c f v v3 v4 v5 v6 z := by
  have ⟨hnS, hok, hcB⟩ := ref_all href
  have hlz := rec_len hz
  have es : lsz z = nI R.length := by unfold lsz; rw [hlz]
  refine ⟨mc - 1, ms - 6, ⟨by omega, by omega⟩, p_reqWord (fun _ => ⟨mc - 2, ms - 12, ⟨by omega, by omega⟩, p_reqBudget (fun _ => ?_) (fun q => absurd ⟨B, Nat.zero_le _, hB, rfl⟩ q)⟩) (fun q => absurd ⟨n, rfl, hw⟩ q)⟩
  refine p_reason hw (by omega) hr hd hu hb ht ⟨fun _ => ⟨mc - 3, ms - 18, ⟨by omega, by omega⟩, ?_⟩, fun q => absurd (by rw [href]; rfl) q⟩
  unfold P_X8_requireReceipts P_X0_hasRoomFor
  rw [es, ← nI_succ]
  refine ⟨fun q => absurd ((nlt (a := 10240) (by omega) (by omega)).mp q) (by omega), fun _ => ⟨fun q => absurd q (by decide), fun _ => ⟨mc - 3, ms - 18, 0, 0, ⟨by omega, by omega⟩, ?_⟩⟩⟩
  exact p_hand hz hc hw hu hb ht hok (by omega) (by omega) h
theorem p_xsellN {v1 : Int32} {v6 : Nat → Int64} {M : List Nat} (hr : rowIs v1 v6 M) (hd : dRel S M) {v7 v8 v9 v15 v18 v19 v20 v21 : Nat → Int32} {u : Nat → Nat} (hu : isU v7 u) (hb : isB v8 b) {p : Int64} {z v0 v2 v3 v4 v5 : Int32} {v10 v11 v13 v14 v16 v17 : Nat} {v12 : Nat → Int64} {mc ms : Nat} {post : Int32 → Int32 → Int32 → Int32 → Int32 → (Nat → Int32) → (Nat → Int32) → Nat → Nat → (Nat → Int64) → Nat → Nat → (Nat → Int32) → Nat → Nat → (Nat → Int32) → (Nat → Int32) → (Nat → Int32) → (Nat → Int32) → Prop} (hn : ¬ selOK S u b p z)
    (h2 : isWd p ∧ inR z 0 99999 → ∀ a sp co w, post 0 2 v2 v3 a v7 v9 v10 v11 v12 v13 v14 v15 v16 v17 v18 sp co w) (hi : ¬ (isWd p ∧ inR z 0 99999) → ∀ a sp co w, post 0 1 v2 v3 a v7 v9 v10 v11 v12 v13 v14 v15 v16 v17 v18 sp co w) : P_X9_sell post mc ms p z v0 v1 v2 v3 v4 v5 v6 v7 v8 v9 v10 v11 v12 v13 v14 v15 v16 v17 v18 v19 v20 v21 := by
  refine p_xisW (fun hw => ⟨fun q => absurd q (by decide), fun _ => p_xbudget (fun hz => ⟨fun q => absurd q (by decide), fun _ => ?_⟩) (fun h => ⟨fun _ => p_good0 ⟨fun _ => hi (fun q => h q.2) _ _ _ _, fun q => absurd rfl q⟩, fun q => absurd rfl q⟩)⟩) (fun h => ⟨fun _ => p_good0 ⟨fun _ => hi (fun q => h q.1) _ _ _ _, fun q => absurd rfl q⟩, fun q => absurd rfl q⟩)
  obtain ⟨n, rfl, hw⟩ := hw
  obtain ⟨B, -, hB, rfl⟩ := hz
  have hle := ref_le (S := S) (u := u) (b := b) (B := B) (n := n)
  refine p_good1 ⟨fun q => absurd q (by decide), fun _ => p_xref hw (by omega) hr hd hu hb (fun sp co w _ => ⟨fun q => ?_, fun _ => h2 ⟨⟨n, rfl, hw⟩, ⟨B, Nat.zero_le _, hB, rfl⟩⟩ _ _ _ _⟩)⟩
  exact absurd ⟨n, B, rfl, hw, rfl, hB, (neq (b := 0) (by omega) (by omega)).mp q⟩ hn
theorem p_xsellY {v1 : Int32} {v6 : Nat → Int64} {M : List Nat} (hr : rowIs v1 v6 M) (hd : dRel S M) {v7 v8 v9 v15 v18 v19 v20 v21 : Nat → Int32} {u : Nat → Nat} (hu : isU v7 u) (hb : isB v8 b) {R : List (Nat × Nat × Nat)} (hok : recOK R) {N : Nat} (hN : capX R.length N) {v2 : Int32} {v12 : Nat → Int64} (hX : recX R v2 N v12 v15 v18) (hR : R.length + 1 ≤ 10240) {n B : Nat} (hw : isW n) (hB : B ≤ 99999) (href : refN S u b B n = 0) {v0 v3 v4 v5 : Int32} {v10 v13 v16 : Nat} {mc ms : Nat} (hm : 3 ≤ mc) (hs : dCst R.length N ≤ ms) {post : Int32 → Int32 → Int32 → Int32 → Int32 → (Nat → Int32) → (Nat → Int32) → Nat → Nat → (Nat → Int64) → Nat → Nat → (Nat → Int32) → Nat → Nat → (Nat → Int32) → (Nat → Int32) → (Nat → Int32) → (Nat → Int32) → Prop}
    (h : ∀ v' x a b' c w p' t sp co iw, isU v' (subU u n) → recX (R ++ [(n, costN n u b, 0)]) (nI (R.length + 1)) (dNew R.length N) w p' t → post (nI (costN n u b)) 0 (nI (R.length + 1)) (v3 + nI (costN n u b)) x v' (addR v9 n (wlen n)) a (dNew R.length N) w b' (dNew R.length N) p' c (dNew R.length N) t sp co iw) : P_X9_sell post mc ms (lN n) (nI B) v0 v1 v2 v3 v4 v5 v6 v7 v8 v9 v10 N v12 v13 N v15 v16 N v18 v19 v20 v21 := by
  have ⟨hnS, hoku, hcB⟩ := ref_all href
  refine p_xisW (fun _ => ⟨fun q => absurd q (by decide), fun _ => p_xbudget (fun _ => ⟨fun q => absurd q (by decide), fun _ => ?_⟩) (fun q => absurd ⟨B, Nat.zero_le _, hB, rfl⟩ q)⟩) (fun q => absurd ⟨n, rfl, hw⟩ q)
  refine p_good1 ⟨fun q => absurd q (by decide), fun _ => p_xref hw (by omega) hr hd hu hb (fun sp co w _ => ⟨fun _ => ⟨mc, ms, 0, 0, ⟨Nat.le_refl _, Nat.le_refl _⟩, ?_⟩, fun q => absurd (by rw [href]; rfl) q⟩)⟩
  exact p_xsell hok hN (by omega) hX hw hu hb hoku hm hs h
end SP
/-! cutting to order -/
def plP (S : List Nat) (n k : Nat) : List Nat := (outP n k (S.filter (fitsB n))).1
def lefU (n : Nat) (P : List Nat) : Nat → Nat := fun l => cnt n l - cntS P l
def cutL (P : List Nat) : List (Nat × Nat) := P.map (fun w => (w, 2 * wlen w))
theorem plP_ok (S : List Nat) (n k : Nat) : (outP n k (S.filter (fitsB n))).2 = lenS (plP S n k) ∧ fitC n (plP S n k) = true ∧ (plP S n k).length ≤ k ∧ ∀ w ∈ plP S n k, w ∈ S := by
  have ok := outP_ok n k (S.filter (fitsB n))
  exact ⟨ok.1, ok.2.1, ok.2.2.1, fun w hw => (List.mem_filter.mp (ok.2.2.2 w hw)).1⟩
/-! the number of leftovers -/
def sumF (f : Nat → Nat) : Nat → Nat
  | 0 => 0
  | k + 1 => sumF f k + f (k + 1)
theorem sumF_T (f : Nat → Nat) : ∀ k : Nat, sumT f (k + 1) = f 0 + sumF f k
  | 0 => by show 0 + f 0 = f 0 + 0; omega
  | k + 1 => by
    have := sumF_T f k
    show sumT f (k + 1) + f (k + 1) = f 0 + (sumF f k + f (k + 1))
    omega
theorem sumI_F {v : Nat → Int32} {x : Nat → Nat} : ∀ k : Nat, (∀ l : Nat, 1 ≤ l → l ≤ k → v l = nI (x l)) → sumI v k = nI (sumF x k)
  | 0, _ => nI_0.symm
  | k + 1, h => by
    show sumI v k + v (k + 1) = nI (sumF x k + x (k + 1))
    rw [sumI_F k (fun l a b => h l a (by omega)), h (k + 1) (by omega) (by omega), nI_add]
theorem cntS_fit {n : Nat} {P : List Nat} (hP : ∀ w ∈ P, isW w) (h : fitC n P = true) (l : Nat) : cntS P l ≤ cnt n l := by
  by_cases e : l = 0 ∨ 26 < l
  · rw [cntS_out hP e]; exact Nat.zero_le _
  · exact fitC_iff.mp h l (by omega) (by omega)
theorem sum_left {n : Nat} (hw : isW n) {P : List Nat} (hP : ∀ w ∈ P, isW w) (hfit : fitC n P = true) {v : Nat → Int32} (hv : isU v (lefU n P)) : sumI v 26 = nI (wlen n - lenS P) := by
  rw [sumI_F 26 (fun l a b => (hv l a b).1)]
  have e1 := sumT_add (lefU n P) (cntS P) 32
  have e2 : (fun l => lefU n P l + cntS P l) = cnt n := by
    funext l
    have := cntS_fit hP hfit l
    show cnt n l - cntS P l + cntS P l = cnt n l
    omega
  rw [e2, sumT_cntS P hP] at e1
  have e3 : sumT (cnt n) 32 = wlen n := sumT_cntU n (wlen n)
  rw [e3] at e1
  have e4 := sumF_T (lefU n P) 31
  have z : ∀ l : Nat, (l = 0 ∨ 26 < l) → lefU n P l = 0 := fun l hl => by
    show cnt n l - cntS P l = 0
    rw [cnt_out hw hl]; exact Nat.zero_sub _
  have e5 : sumF (lefU n P) 31 = sumF (lefU n P) 26 + lefU n P 27 + lefU n P 28 + lefU n P 29 + lefU n P 30 + lefU n P 31 := rfl
  rw [z 27 (by omega), z 28 (by omega), z 29 (by omega), z 30 (by omega), z 31 (by omega)] at e5
  rw [z 0 (by omega)] at e4
  have e6 : sumF (lefU n P) 26 = wlen n - lenS P := by
    have e4' : sumT (lefU n P) 32 = 0 + sumF (lefU n P) 31 := e4
    omega
  rw [e6]
/-! the component -/
section CO
variable {S : List Nat}
theorem p_cmake {p : Int64} {z c : Int32} {f : Nat → Int64} (hr : rowIs c f S) (hd : dicS S) {v2 : Int32} {v3 : Nat → Int64} {v4 : Nat → Int32} {v5 v6 : Int32} {v7 : Nat → Int32} {v8 : Int32} {v9 : Nat → Int64} (h89 : rowIs v8 v9 []) {v10 : Int32} {v11 : Nat → Int64} {post : Int32 → (Nat → Int64) → (Nat → Int32) → Int32 → Int32 → (Nat → Int32) → Int32 → (Nat → Int64) → Int32 → (Nat → Int64) → Prop} {postX : String → Int32 → (Nat → Int64) → (Nat → Int32) → Int32 → Int32 → (Nat → Int32) → Int32 → (Nat → Int64) → Int32 → (Nat → Int64) → Prop}
    (h1 : ∀ n k : Nat, p = lN n → isW n → z = nI k → 1 ≤ k → k ≤ 3 → ∀ c1 f1 w4 a b left c2 f2 c3 f3, isU left (lefU n (plP S n k)) → rowIs c2 f2 [] → rowIs c3 f3 (plP S n k) → post c1 f1 w4 a b left c2 f2 c3 f3) (hi : ¬ (isWd p ∧ inR z 1 3) → postX sIAE v2 v3 v4 v5 v6 v7 v8 v9 v10 v11) : P_X8_makePlan post postX p z c f v2 v3 v4 v5 v6 v7 v8 v9 v10 v11 := by
  refine p_reqWord (fun hw => p_range (lo := 1) (hi := 3) (by omega) (by omega) (fun hz => ?_) (fun h => hi fun q => h q.2)) (fun h => hi fun q => h q.1)
  obtain ⟨n, rfl, hw⟩ := hw
  obtain ⟨k, a, b, rfl⟩ := hz
  refine p_fitting hr hd.1 hw.2.1 (fun c' f' v' hr' => ?_)
  rw [fit_eq hd.1 n, fit_ask n] at hr'
  refine p_plan hw hr' (fun m hm => hd.1 m (List.mem_filter.mp hm).1) b h89 (fun a1 b1 left c2 f2 c3 f3 h2 h3 h4 => ?_)
  exact h1 n k rfl hw rfl a b c' f' v' a1 b1 left c2 f2 c3 f3 h2 h3 h4
theorem p_cpl {p : Int64} {z c : Int32} {f : Nat → Int64} (hr : rowIs c f S) (hd : dicS S) {v2 : Int32} {v3 : Nat → Int64} {v4 : Nat → Int32} {v5 v6 : Int32} {v7 : Nat → Int32} {v8 : Int32} {v9 : Nat → Int64} (h89 : rowIs v8 v9 []) {v10 : Int32} {v11 : Nat → Int64} {post : Int32 → Int32 → (Nat → Int64) → (Nat → Int32) → Int32 → Int32 → (Nat → Int32) → Int32 → (Nat → Int64) → Int32 → (Nat → Int64) → Prop} {postX : String → Int32 → (Nat → Int64) → (Nat → Int32) → Int32 → Int32 → (Nat → Int32) → Int32 → (Nat → Int64) → Int32 → (Nat → Int64) → Prop}
    (h1 : ∀ n k : Nat, p = lN n → isW n → z = nI k → 1 ≤ k → k ≤ 3 → ∀ c1 f1 w4 a b left c2 f2 c3 f3, rowIs c2 f2 [] → post (nI (plP S n k).length) c1 f1 w4 a b left c2 f2 c3 f3) (hi : ¬ (isWd p ∧ inR z 1 3) → postX sIAE v2 v3 v4 v5 v6 v7 v8 v9 v10 v11) : P_X8_planLength post postX p z c f v2 v3 v4 v5 v6 v7 v8 v9 v10 v11 :=
  p_cmake hr hd h89 (fun n k e1 e2 e3 e4 e5 c1 f1 w4 a b left c2 f2 c3 f3 q1 q2 q3 => by
    show post c3 _ _ _ _ _ _ _ _ _ _
    rw [q3.1]
    exact h1 n k e1 e2 e3 e4 e5 c1 f1 w4 a b left c2 f2 _ f3 q2) hi
theorem p_cpw {p : Int64} {z i c : Int32} {f : Nat → Int64} (hr : rowIs c f S) (hd : dicS S) {v2 : Int32} {v3 : Nat → Int64} {v4 : Nat → Int32} {v5 v6 : Int32} {v7 : Nat → Int32} {v8 : Int32} {v9 : Nat → Int64} (h89 : rowIs v8 v9 []) {v10 : Int32} {v11 : Nat → Int64} {post : Int64 → Int32 → (Nat → Int64) → (Nat → Int32) → Int32 → Int32 → (Nat → Int32) → Int32 → (Nat → Int64) → Int32 → (Nat → Int64) → Prop} {postX : String → Int32 → (Nat → Int64) → (Nat → Int32) → Int32 → Int32 → (Nat → Int32) → Int32 → (Nat → Int64) → Int32 → (Nat → Int64) → Prop}
    (h1 : ∀ n k j w : Nat, p = lN n → isW n → z = nI k → 1 ≤ k → k ≤ 3 → i = nI j → (plP S n k)[j]? = some w → ∀ c1 f1 w4 a b left c2 f2 c3 f3, rowIs c2 f2 [] → post (lN w) c1 f1 w4 a b left c2 f2 c3 f3) (h2 : ∀ n k : Nat, p = lN n → isW n → z = nI k → 1 ≤ k → k ≤ 3 → (∀ j : Nat, j < (plP S n k).length → i ≠ nI j) → ∀ c1 f1 w4 a b left c2 f2 c3 f3, rowIs c2 f2 [] → postX sIOB c1 f1 w4 a b left c2 f2 c3 f3) (hi : ¬ (isWd p ∧ inR z 1 3) → postX sIAE v2 v3 v4 v5 v6 v7 v8 v9 v10 v11) : P_X8_planWord post postX p z i c f v2 v3 v4 v5 v6 v7 v8 v9 v10 v11 :=
  p_cmake hr hd h89 (fun n k e1 e2 e3 e4 e5 c1 f1 w4 a b left c2 f2 c3 f3 q1 q2 q3 =>
    p_reqWordOf q3 (post := fun (r13 : Int64) => post r13 c1 f1 w4 a b left c2 f2 c3 f3) (postX := fun (E14 : String) => postX E14 c1 f1 w4 a b left c2 f2 c3 f3) (fun j w g1 g2 => h1 n k j w e1 e2 e3 e4 e5 g1 g2 _ _ _ _ _ _ _ _ _ _ q2) (fun g => h2 n k e1 e2 e3 e4 e5 g _ _ _ _ _ _ _ _ _ _ q2)) hi
theorem p_clo {p : Int64} {z c : Int32} {f : Nat → Int64} (hr : rowIs c f S) (hd : dicS S) {v2 : Int32} {v3 : Nat → Int64} {v4 : Nat → Int32} {v5 v6 : Int32} {v7 : Nat → Int32} {v8 : Int32} {v9 : Nat → Int64} (h89 : rowIs v8 v9 []) {v10 : Int32} {v11 : Nat → Int64} {post : Int32 → Int32 → (Nat → Int64) → (Nat → Int32) → Int32 → Int32 → (Nat → Int32) → Int32 → (Nat → Int64) → Int32 → (Nat → Int64) → Prop} {postX : String → Int32 → (Nat → Int64) → (Nat → Int32) → Int32 → Int32 → (Nat → Int32) → Int32 → (Nat → Int64) → Int32 → (Nat → Int64) → Prop}
    (h1 : ∀ n k : Nat, p = lN n → isW n → z = nI k → 1 ≤ k → k ≤ 3 → ∀ c1 f1 w4 a b left c2 f2 c3 f3, rowIs c2 f2 [] → post (nI (wlen n - lenS (plP S n k))) c1 f1 w4 a b left c2 f2 c3 f3) (hi : ¬ (isWd p ∧ inR z 1 3) → postX sIAE v2 v3 v4 v5 v6 v7 v8 v9 v10 v11) : P_X8_leftoverCount post postX p z c f v2 v3 v4 v5 v6 v7 v8 v9 v10 v11 :=
  p_cmake hr hd h89 (fun n k e1 e2 e3 e4 e5 c1 f1 w4 a b left c2 f2 c3 f3 q1 q2 q3 => by
    have ok := plP_ok S n k
    refine p_total ?_
    rw [sum_left e2 (fun w hw => hd.1 w (ok.2.2.2 w hw)) ok.2.1 q1]
    exact h1 n k e1 e2 e3 e4 e5 c1 f1 w4 a b left c2 f2 c3 f3 q2) hi
theorem p_ccoL {P : List Nat} {v14 : Int32} {v15 : Nat → Int64} (hP : rowIs v14 v15 P) (hPW : ∀ w ∈ P, isW w) {z1 : Int64} {v9 v10 : Int32} {K : Nat → Nat → Int32 → (Nat → Int32) → ZL → Prop} :
    ∀ (T : List Nat) (j fuel : Nat) (R : List (Nat × Nat × Nat)) (z : ZL) (v6 : Int32) (v8 : Nat → Int32) (rc rs : Nat), P.drop j = T → j ≤ P.length → T.length < fuel → recZ R z → capL (lln z) z.2.1 → R.length + T.length ≤ 10240 → 2 * (cutL T).length ≤ rc → gSum (lln z) z.2.1 (cutL T).length ≤ rs →
    (∀ rc rs z', recZ (R ++ rcsL (cutL T)) z' → z'.2.1 = gFin (lln z) z.2.1 (cutL T).length → capL (lln z') z'.2.1 → K rc rs (balI v6 (cutL T)) (putS v8 (cutL T)) z') →
    P_X8_cutToOrder_L34 z1 v9 v10 v14 v15 K fuel rc rs (nI j) v6 v8 z := by
  obtain ⟨rfl, h60, -⟩ := id hP
  intro T
  induction T with
  | nil =>
    intro j fuel R z v6 v8 rc rs hdr hj hf hz hc hR hrc hrs h
    obtain ⟨g, rfl⟩ : ∃ g, fuel = g + 1 := ⟨fuel - 1, by simp at hf; omega⟩
    have en : R ++ rcsL (cutL []) = R := List.append_nil R
    rw [en] at h
    unfold P_X8_cutToOrder_L34
    exact ⟨fun _ => h rc rs z hz rfl hc, fun q => absurd (nI_le (drop_nil hdr) (by omega)) q⟩
  | cons x T ih =>
    intro j fuel R z v6 v8 rc rs hdr hj hf hz hc hR hrc hrs h
    obtain ⟨g, rfl⟩ : ∃ g, fuel = g + 1 := ⟨fuel - 1, by simp at hf; omega⟩
    obtain ⟨hai, hd2⟩ := drop_at hdr
    have hil := (List.getElem?_eq_some_iff.mp hai).1
    have hwx := hPW x (List.mem_of_getElem? hai)
    have hf2 : T.length < g := by simp at hf; omega
    have hlz := rec_len hz
    rw [List.length_cons] at hR
    have hs2 : 3 + gCst (lln z) z.2.1 + gSum (lln z + 1) (gNew (lln z) z.2.1) (cutL T).length ≤ rs := hrs
    have hc2 : 2 * ((cutL T).length + 1) ≤ rc := hrc
    have e2 : (2 : Int32) * nI (wlen x) = nI (2 * wlen x) := nI_mul 2 (wlen x)
    unfold P_X8_cutToOrder_L34
    rw [← nI_succ]
    refine ⟨fun q => absurd q (nI_ge hil (by omega)), fun _ => p_word hP hai (p_len hwx.2.1 ⟨2, 3 + gCst (lln z) z.2.1, rc - 2, rs - (3 + gCst (lln z) z.2.1), ⟨by omega, by omega⟩, ?_⟩)⟩
    rw [e2]
    refine p_cwrite hz hc (Nat.le_refl _) (Nat.le_refl _) hwx.2.1 (fun z' hz' hc' => ?_)
    have hl2 : lln z' = lln z + 1 := by rw [rec_len hz', rcs_len, hlz]
    have hcap : capL (lln z') z'.2.1 := by rw [hl2, hc']; exact cap_new hc (by omega)
    refine ih (j + 1) g _ z' _ _ _ _ hd2 (by omega) hf2 hz' hcap (by rw [rcs_len]; omega) (by omega) (by rw [hl2, hc']; omega) (fun rc' rs' z'' h1 h2 h3 => ?_)
    rw [hl2, hc'] at h2
    rw [rcs_cons] at h1
    exact h rc' rs' z'' h1 h2 h3
theorem p_ccto {p : Int64} {z c : Int32} {f : Nat → Int64} (hr : rowIs c f S) (hd : dicS S) {v2 : Int32} {v3 : Nat → Int64} {v4 v5 : Nat → Int32} {v6 : Int32} {v7 v8 : Nat → Int32} {v9 v10 : Int32} {v11 : Nat → Int32} {v12 : Int32} {v13 : Nat → Int64} (h89 : rowIs v12 v13 []) {v14 : Int32} {v15 : Nat → Int64} {u : Nat → Nat} (hu : isU v5 u) {R : List (Nat × Nat × Nat)} {zl : ZL} (hz : recZ R zl) (hc : capL (lln zl) zl.2.1) (hR : R.length + 20 ≤ 10240) {L : List (Nat × Nat)} (hL : ∀ n k : Nat, p = lN n → isW n → z = nI k → 1 ≤ k → k ≤ 3 → roomU u (lefU n (plP S n k)) → L = cutL (plP S n k)) {mc ms : Nat} (hm : 4 + 2 * L.length ≤ mc) (hs : 24 + gSum (lln zl) zl.2.1 L.length ≤ ms)
    {post : Int32 → Int32 → (Nat → Int64) → (Nat → Int32) → (Nat → Int32) → Int32 → (Nat → Int32) → (Nat → Int32) → Int32 → Int32 → (Nat → Int32) → Int32 → (Nat → Int64) → Int32 → (Nat → Int64) → ZL → Prop} {postX : String → Int32 → (Nat → Int64) → (Nat → Int32) → (Nat → Int32) → Int32 → (Nat → Int32) → (Nat → Int32) → Int32 → Int32 → (Nat → Int32) → Int32 → (Nat → Int64) → Int32 → (Nat → Int64) → ZL → Prop}
    (h1 : ∀ n k : Nat, p = lN n → isW n → z = nI k → 1 ≤ k → k ≤ 3 → roomU u (lefU n (plP S n k)) → ∀ c1 f1 w4 v' a b left c2 f2 c3 f3 z', isU v' (fun l => u l + lefU n (plP S n k) l) → rowIs c2 f2 [] → recZ (R ++ rcsL L) z' → z'.2.1 = gFin (lln zl) zl.2.1 L.length → capL (lln z') z'.2.1 → post (nI (wlen n - lenS (plP S n k))) c1 f1 w4 v' (balI v6 L) (putF v7 n 1 (wlen n)) (putS v8 L) a b left c2 f2 c3 f3 z')
    (h2 : ∀ n k : Nat, p = lN n → isW n → z = nI k → 1 ≤ k → k ≤ 3 → ¬ roomU u (lefU n (plP S n k)) → ∀ c1 f1 w4 a b left c2 f2 c3 f3, rowIs c2 f2 [] → postX sISE c1 f1 w4 v5 v6 v7 v8 a b left c2 f2 c3 f3 zl)
    (hi : ¬ (isWd p ∧ inR z 1 3) → postX sIAE v2 v3 v4 v5 v6 v7 v8 v9 v10 v11 v12 v13 v14 v15 zl) : P_X8_cutToOrder post postX mc ms p z c f v2 v3 v4 v5 v6 v7 v8 v9 v10 v11 v12 v13 v14 v15 zl := by
  refine ⟨mc - 2, ms - 12, ⟨by omega, by omega⟩, p_cmake hr hd h89 (fun n k e1 e2 e3 e4 e5 c1 f1 w4 a b left c2 f2 c3 f3 q1 q2 q3 => ?_) hi⟩
  have q3' := q3.1
  subst q3'
  have ok := plP_ok S n k
  have hPW : ∀ w ∈ plP S n k, isW w := fun w hw => hd.1 w (ok.2.2.2 w hw)
  refine ⟨mc - 3, ms - 18, ⟨by omega, by omega⟩, p_reqRoom hu q1 (fun hro => ?_) (fun hro => h2 n k e1 e2 e3 e4 e5 hro c1 f1 w4 a b left c2 f2 _ f3 q2)⟩
  have eL := hL n k e1 e2 e3 e4 e5 hro
  have eLn : L.length = (plP S n k).length := by rw [eL]; exact List.length_map _
  have hlz := rec_len hz
  have es : lsz zl = nI R.length := by unfold lsz; rw [hlz]
  refine ⟨mc - 4, ms - 24, ⟨by omega, by omega⟩, ?_⟩
  unfold P_X8_requireReceipts P_X0_hasRoomFor
  rw [es, nI_add]
  refine ⟨fun q => absurd ((nlt (a := 10240) (by omega) (by omega)).mp q) (by omega), fun _ => ⟨fun q => absurd q (by decide), fun _ => ?_⟩⟩
  have key := p_ccoL q3 hPW (z1 := p) (v9 := a) (v10 := b) (K := fun (mc41 : Nat) (ms42 : Nat) (w36 : Int32) (w37 : Nat → Int32) (w38 : ZL) => P_X2_put (fun (w44 : Nat → Int32) => P_X3_leftovers (P_X2_putAll (fun (w47 : Nat → Int32) => P_X3_leftovers (P_X2_total (fun (r49 : Int32) => post r49 c1 f1 w4 w47 w36 w44 w37 a b left c2 f2 (nI (plP S n k).length) f3 w38) left) a b) v5 left) a b) p 1 v7)
    (plP S n k) 0 FU R zl v6 v8 (mc - 4) (ms - 24) rfl (Nat.zero_le _) (FU_s _ (by omega)) hz hc (by omega) (by rw [← eL]; omega) (by rw [← eL]; omega) (fun rc rs z' g1 g2 g3 => by
      rw [← eL] at g1 g2 ⊢
      rw [e1]
      refine p_put e2.2.1 (p_putAll (p_total ?_))
      rw [sum_left e2 hPW ok.2.1 q1]
      exact h1 n k e1 e2 e3 e4 e5 hro c1 f1 w4 _ a b left c2 f2 _ f3 z' (isU_add hu hro (fun l x y => by rw [padF_in x y, (q1 l x y).1])) q2 g1 g2 g3)
  rw [nI_0] at key
  exact key
end CO
/-! cutting to order, by the model -/
theorem p_xwin {n : Nat} (hn : n ≤ 10240) {p : Int32} {post : Int32 → Prop} (h1 : ∀ j : Nat, j < n → p = nI j → post 1) (h0 : (∀ j : Nat, j < n → p ≠ nI j) → post 0) : P_X9_isWithin post p 0 (nI n - 1) := by
  unfold P_X9_isWithin
  rcases pk_ix p (n := n) (by omega) with q | q | ⟨j, hj, rfl⟩
  · exact ⟨fun _ => h0 fun j hj e => nI_pos (n := j) (by omega) (by rw [← e]; exact q), fun c => absurd q c⟩
  · have hno : ∀ j : Nat, j < n → p ≠ nI j := fun j hj e => nI_ge hj (by omega) (by rw [← e]; exact q)
    refine ⟨fun _ => h0 hno, fun c => ⟨fun _ => h0 hno, fun c2 => absurd ?_ c2⟩⟩
    have q' := Int32.le_iff_toInt_le.mp q
    rw [nI_toInt (by omega)] at q'
    rw [Int32.lt_iff_toInt_lt]
    by_cases e : n = 0
    · rw [e, show nI 0 - 1 = -1 by decide, show (-1 : Int32).toInt = -1 by decide]
      omega
    · obtain ⟨k, hk⟩ : ∃ k, n = k + 1 := ⟨n - 1, by omega⟩
      rw [hk, nI_pred, nI_toInt (by omega)]
      omega
  · obtain ⟨k, hk⟩ : ∃ k, n = k + 1 := ⟨n - 1, by omega⟩
    refine ⟨fun c => absurd c (nI_pos (by omega)), fun _ => ⟨fun c => absurd c ?_, fun _ => h1 j hj rfl⟩⟩
    rw [hk, nI_pred]
    exact nI_nlt (by omega) (by omega)
theorem p_xisO {p : Int64} {z v0 v1 v2 v3 v4 v5 : Int32} {post : Int32 → Int32 → Prop} (h1 : ∀ n k : Nat, p = lN n → isW n → z = nI k → 1 ≤ k → k ≤ 3 → post 1 0) (hi : ¬ (isWd p ∧ inR z 1 3) → post 0 1) : P_X9_isOrder post p z v0 v1 v2 v3 v4 v5 := by
  refine p_xisW (fun hw => ⟨fun q => absurd q (by decide), fun _ => p_xwith (lo := 1) (hi := 3) (by omega) (by omega) (fun hz => ⟨fun q => absurd q (by decide), fun _ => ?_⟩) (fun h => ⟨fun _ => p_good0 ⟨rfl, hi fun q => h q.2⟩, fun q => absurd rfl q⟩)⟩) (fun h => ⟨fun _ => p_good0 ⟨rfl, hi fun q => h q.1⟩, fun q => absurd rfl q⟩)
  obtain ⟨n, rfl, hw⟩ := hw
  obtain ⟨k, a, b, rfl⟩ := hz
  exact p_good1 ⟨rfl, h1 n k rfl hw rfl a b⟩
section XO
variable {v1 : Int32} {v6 : Nat → Int64} {S M : List Nat}
theorem p_xpl (hr : rowIs v1 v6 M) (hd : dRel S M) {p : Int64} {z v0 v2 v3 v4 v5 : Int32} {v7 v8 v9 v10 v11 : Nat → Int32} {post : Int32 → Int32 → Int32 → Int32 → (Nat → Int32) → (Nat → Int32) → (Nat → Int32) → (Nat → Int32) → (Nat → Int32) → Prop}
    (h1 : ∀ n k : Nat, p = lN n → isW n → z = nI k → 1 ≤ k → k ≤ 3 → ∀ a b sp co w o pl, post (nI (plP S n k).length) 0 a b sp co w o pl) (hi : ¬ (isWd p ∧ inR z 1 3) → post 0 1 v4 v5 v7 v8 v9 v10 v11) : P_X9_planLength post p z v0 v1 v2 v3 v4 v5 v6 v7 v8 v9 v10 v11 := by
  refine p_xisO (fun n k e1 e2 e3 e4 e5 => ⟨fun q => absurd q (by decide), fun _ => ?_⟩) (fun h => ⟨fun _ => hi h, fun q => absurd rfl q⟩)
  have k1 := h1 n k e1 e2 e3 e4 e5
  subst e1 e3
  exact p_xplan hr hd e2 e4 e5 (fun sp co w o pl _ _ => k1 _ _ _ _ _ _ _)
theorem p_xpw (hr : rowIs v1 v6 M) (hd : dRel S M) {p : Int64} {z i v0 v2 v3 v4 v5 : Int32} {v7 v8 v9 v10 v11 : Nat → Int32} {post : Int64 → Int32 → Int32 → Int32 → (Nat → Int32) → (Nat → Int32) → (Nat → Int32) → (Nat → Int32) → (Nat → Int32) → Prop}
    (h1 : ∀ n k j w : Nat, p = lN n → isW n → z = nI k → 1 ≤ k → k ≤ 3 → i = nI j → (plP S n k)[j]? = some w → ∀ a b sp co iw o pl, post (lN w) 0 a b sp co iw o pl) (h2 : ∀ n k : Nat, p = lN n → isW n → z = nI k → 1 ≤ k → k ≤ 3 → (∀ j : Nat, j < (plP S n k).length → i ≠ nI j) → ∀ a b sp co iw o pl, post (0 : Int32).toInt64 2 a b sp co iw o pl) (hi : ¬ (isWd p ∧ inR z 1 3) → post 0 1 v4 v5 v7 v8 v9 v10 v11) : P_X9_planWord post p z i v0 v1 v2 v3 v4 v5 v6 v7 v8 v9 v10 v11 := by
  refine p_xisO (fun n k e1 e2 e3 e4 e5 => ⟨fun q => absurd q (by decide), fun _ => ?_⟩) (fun h => ⟨fun _ => hi h, fun q => absurd rfl q⟩)
  have ok := plP_ok S n k
  have hpl := ok.2.2.1
  have k1 := fun j w => h1 n k j w e1 e2 e3 e4 e5
  have k2 := h2 n k e1 e2 e3 e4 e5
  subst e1 e3
  refine p_xplan hr hd e2 e4 e5 (fun sp co w o pl _ hpa => ?_)
  refine p_xwin (n := (plP S n k).length) (by omega) (fun j hj e => ⟨fun q => absurd q (by decide), fun _ => ?_⟩) (fun hno => ⟨fun _ => k2 hno _ _ _ _ _ _ _, fun q => absurd rfl q⟩)
  have hw := List.getElem?_eq_getElem hj
  obtain ⟨m, em, mm⟩ := hpa j _ hw
  have hm := (List.getElem?_eq_some_iff.mp mm).1
  have h60 := hr.2.1
  have key := k1 j _ e hw
  subst e
  rw [nI_clamp (show j < 2 ^ 31 by omega), em, nI_clamp (show m < 2 ^ 31 by omega), hr.2.2 m _ mm]
  exact ⟨nI_in (by omega) (by omega), nI_in (by omega) (by omega), key _ _ _ _ _ _ _⟩
theorem p_xlo (hr : rowIs v1 v6 M) (hd : dRel S M) {p : Int64} {z v0 v2 v3 v4 v5 : Int32} {v7 v8 v9 v10 v11 : Nat → Int32} {post : Int32 → Int32 → Int32 → Int32 → (Nat → Int32) → (Nat → Int32) → (Nat → Int32) → (Nat → Int32) → (Nat → Int32) → Prop}
    (h1 : ∀ n k : Nat, p = lN n → isW n → z = nI k → 1 ≤ k → k ≤ 3 → ∀ a b sp co w o pl, post (nI (wlen n - lenS (plP S n k))) 0 a b sp co w o pl) (hi : ¬ (isWd p ∧ inR z 1 3) → post 0 1 v4 v5 v7 v8 v9 v10 v11) : P_X9_leftoverCount post p z v0 v1 v2 v3 v4 v5 v6 v7 v8 v9 v10 v11 := by
  refine p_xisO (fun n k e1 e2 e3 e4 e5 => ⟨fun q => absurd q (by decide), fun _ => ?_⟩) (fun h => ⟨fun _ => hi h, fun q => absurd rfl q⟩)
  have ok := plP_ok S n k
  have k1 := h1 n k e1 e2 e3 e4 e5
  subst e1 e3
  refine p_xplan hr hd e2 e4 e5 (fun sp co w o pl _ _ => ?_)
  rw [ok.1]
  exact k1 _ _ _ _ _ _ _
/-- pieces left over of a letter -/
theorem p_xlefL (hr : rowIs v1 v6 M) (hM : ∀ m ∈ M, isW m) {n : Nat} (hn : n < 32 ^ 12) {P : List Nat} (hP3 : P.length ≤ 3) (hPW : ∀ w ∈ P, isW w) (hfit : fitC n P = true) {pl : Nat → Int32} (hpl : plaF M P pl) {l : Nat} (hl : l ≤ 26) {K : Int32 → Prop} (h : K (nI (lefU n P l))) :
    ∀ (T : List Nat) (j fuel : Nat), P.drop j = T → j ≤ P.length → T.length < fuel → P_X9_leftOf_L9 (nI l) (nI P.length) v6 pl K fuel (nI (cnt n l - cntS (P.take j) l)) (nI j) := by
  have h60 := hr.2.1
  intro T
  induction T with
  | nil =>
    intro j fuel hd hj hf
    obtain ⟨g, rfl⟩ : ∃ g, fuel = g + 1 := ⟨fuel - 1, by simp at hf; omega⟩
    unfold P_X9_leftOf_L9
    rw [List.take_of_length_le (drop_nil hd)]
    exact ⟨fun _ => h, fun q => absurd (nI_le (drop_nil hd) (by omega)) q⟩
  | cons x T ih =>
    intro j fuel hd hj hf
    obtain ⟨g, rfl⟩ : ∃ g, fuel = g + 1 := ⟨fuel - 1, by simp at hf; omega⟩
    obtain ⟨hai, hd2⟩ := drop_at hd
    have hil := (List.getElem?_eq_some_iff.mp hai).1
    have hwx := hPW x (List.mem_of_getElem? hai)
    have hf2 : T.length < g := by simp at hf; omega
    obtain ⟨m, em, mm⟩ := hpl j x hai
    have hm := (List.getElem?_eq_some_iff.mp mm).1
    have et : P.take (j + 1) = P.take j ++ [x] := by rw [List.take_add_one, hai]; rfl
    have es : P.take j ++ [x] ++ T = P := by rw [← et, ← hd2]; exact List.take_append_drop _ _
    have hle := cntS_fit hPW hfit l
    have e1 : cntS P l = cntS (P.take j) l + cnt x l + cntS T l := by
      rw [← es, cntS_app, cntS_app]
      rw [es]; rfl
    have e2 : cntS (P.take (j + 1)) l = cntS (P.take j) l + cnt x l := by rw [et, cntS_app]; rfl
    unfold P_X9_leftOf_L9
    rw [nI_clamp (show j < 2 ^ 31 by omega), em, nI_clamp (show m < 2 ^ 31 by omega), hr.2.2 m x mm, ← nI_succ]
    refine ⟨fun q => absurd q (nI_ge hil (by omega)), fun _ => ⟨nI_in (by omega) (by omega), nI_in (by omega) (by omega), p_xcin (Nat.lt_trans hwx.2.1 (by decide)) (by omega) (fun y hy => ?_)⟩⟩
    rw [nI_sub (by omega), show cnt n l - cntS (P.take j) l - cnt x l = cnt n l - cntS (P.take (j + 1)) l by omega] at hy
    rw [hy]
    exact ih (j + 1) g hd2 (by omega) hf2
theorem p_xleft (hr : rowIs v1 v6 M) (hM : ∀ m ∈ M, isW m) {n : Nat} (hn : n < 32 ^ 12) {P : List Nat} (hP3 : P.length ≤ 3) (hPW : ∀ w ∈ P, isW w) (hfit : fitC n P = true) {pl co : Nat → Int32} (hpl : plaF M P pl) (hco : ∀ l : Nat, l ≤ 26 → co l = nI (cnt n l)) {l : Nat} (hl : l ≤ 26) {v0 v2 v3 v4 : Int32} {post : Int32 → Prop} (h : post (nI (lefU n P l))) : P_X9_leftOf post (nI l) v0 v1 v2 v3 v4 (nI P.length) v6 co pl := by
  refine ⟨nI_in (by omega) (by omega), fun y hy => ?_⟩
  rw [nI_clamp (by omega), hco l hl] at hy
  rw [hy]
  have key := p_xlefL hr hM hn hP3 hPW hfit hpl hl (K := fun (x4 : Int32) => post x4) h P 0 FU rfl (Nat.zero_le _) (FU_s _ (by omega))
  rw [nI_0] at key
  exact key
theorem p_xctA (hr : rowIs v1 v6 M) (hM : ∀ m ∈ M, isW m) {n : Nat} (hn : n < 32 ^ 12) {P : List Nat} (hP3 : P.length ≤ 3) (hPW : ∀ w ∈ P, isW w) (hfit : fitC n P = true) {pl co v7 : Nat → Int32} (hpl : plaF M P pl) (hco : ∀ l : Nat, l ≤ 26 → co l = nI (cnt n l)) {u : Nat → Nat} (hu : isU v7 u) {z4 v0 v2 v3 v4 : Int32} {K49 K61 : Prop} (h1 : roomU u (lefU n P) → K61) (h0 : ¬ roomU u (lefU n P) → K49) :
    ∀ m k fuel : Nat, k + m = 26 → m < fuel → (∀ l : Nat, 1 ≤ l → l ≤ k → u l + lefU n P l ≤ 999) → P_X9_cutToOrder_L22 z4 v0 v1 v2 v3 v4 (nI P.length) v6 v7 co pl K49 K61 fuel (nI (k + 1)) := by
  intro m
  induction m with
  | zero =>
    intro k fuel hk hf hj
    obtain ⟨g, rfl⟩ : ∃ g, fuel = g + 1 := ⟨fuel - 1, by omega⟩
    have e : k = 26 := by omega
    subst e
    unfold P_X9_cutToOrder_L22
    exact ⟨fun _ => h1 hj, fun q => absurd (nI_lt (a := 26) (b := 27) (by omega) (by omega)) q⟩
  | succ m ih =>
    intro k fuel hk hf hj
    obtain ⟨g, rfl⟩ : ∃ g, fuel = g + 1 := ⟨fuel - 1, by omega⟩
    have ⟨a1, a2⟩ := hu (k + 1) (by omega) (by omega)
    have hcl := cnt_le hn (k + 1)
    have hll : lefU n P (k + 1) ≤ 12 := by show cnt n (k + 1) - cntS P (k + 1) ≤ 12; omega
    unfold P_X9_cutToOrder_L22
    rw [← nI_succ]
    refine ⟨fun q => absurd q (nI_nlt (a := 26) (by omega) (by omega)), fun _ => ⟨nI_in (by omega) (by omega), p_xleft hr hM hn hP3 hPW hfit hpl hco (by omega) ?_⟩⟩
    rw [nI_clamp (show k + 1 < 2 ^ 31 by omega), a1, nI_add]
    refine ⟨fun q => ?_, fun q => h0 fun z => q ((nle (b := 999) (by omega) (by omega)).mpr (z (k + 1) (by omega) (by omega)))⟩
    have q' := (nle (b := 999) (by omega) (by omega)).mp q
    refine ih (k + 1) g (by omega) (by omega) (fun l a d => ?_)
    by_cases e : l = k + 1
    · rw [e]; exact q'
    · exact hj l a (by omega)
theorem p_xctB (hr : rowIs v1 v6 M) (hM : ∀ m ∈ M, isW m) {n : Nat} (hn : n < 32 ^ 12) {P : List Nat} (hP3 : P.length ≤ 3) (hPW : ∀ w ∈ P, isW w) (hfit : fitC n P = true) {pl co f7 f8 f9 : Nat → Int32} (hpl : plaF M P pl) (hco : ∀ l : Nat, l ≤ 26 → co l = nI (cnt n l)) {z4 v0 v2 v3 v4 : Int32} {K : (Nat → Int32) → (Nat → Int32) → (Nat → Int32) → Prop} (h : K (padF f7 (fun l => nI (lefU n P l)) 26) (padF f8 co 26) (padF f9 (fun l => co l - nI (lefU n P l)) 26)) :
    ∀ m k fuel : Nat, k + m = 26 → m < fuel → P_X9_cutToOrder_L64 z4 v0 v1 v2 v3 v4 (nI P.length) v6 co pl K fuel (nI (k + 1)) (padF f7 (fun l => nI (lefU n P l)) k) (padF f8 co k) (padF f9 (fun l => co l - nI (lefU n P l)) k) := by
  intro m
  induction m with
  | zero =>
    intro k fuel hk hf
    obtain ⟨g, rfl⟩ : ∃ g, fuel = g + 1 := ⟨fuel - 1, by omega⟩
    have e : k = 26 := by omega
    subst e
    unfold P_X9_cutToOrder_L64
    exact ⟨fun _ => h, fun q => absurd (nI_lt (a := 26) (b := 27) (by omega) (by omega)) q⟩
  | succ m ih =>
    intro k fuel hk hf
    obtain ⟨g, rfl⟩ : ∃ g, fuel = g + 1 := ⟨fuel - 1, by omega⟩
    have hin : vp_in (nI (k + 1)) 27 := nI_in (by omega) (by omega)
    have key := ih (k + 1) g (by omega) (by omega)
    rw [← padF_s, ← padF_s, ← padF_s] at key
    unfold P_X9_cutToOrder_L64
    rw [← nI_succ]
    refine ⟨fun q => absurd q (nI_nlt (a := 26) (by omega) (by omega)), fun _ => ⟨hin, p_xleft hr hM hn hP3 hPW hfit hpl hco (by omega) ⟨hin, hin, hin, p_xleft hr hM hn hP3 hPW hfit hpl hco (by omega) ⟨hin, hin, hin, hin, ?_⟩⟩⟩⟩
    rw [nI_clamp (show k + 1 < 2 ^ 31 by omega)]
    exact key
theorem p_xctC (hr : rowIs v1 v6 M) {P : List Nat} (hP3 : P.length ≤ 3) (hPW : ∀ w ∈ P, isW w) {pl : Nat → Int32} (hpl : plaF M P pl) {z4 v0 v4 : Int32} {K : Nat → Nat → Int32 → Int32 → Nat → Nat → (Nat → Int64) → Nat → Nat → (Nat → Int32) → Nat → Nat → (Nat → Int32) → Prop} :
    ∀ (T : List Nat) (j fuel : Nat) (R : List (Nat × Nat × Nat)) (N rc rs : Nat) (v2 v3 : Int32) (v10 : Nat) (v12 : Nat → Int64) (v13 : Nat) (v15 : Nat → Int32) (v16 : Nat) (v18 : Nat → Int32), P.drop j = T → j ≤ P.length → T.length < fuel → recOK R → capX R.length N → recX R v2 N v12 v15 v18 → R.length + T.length ≤ 10240 → 3 * (cutL T).length ≤ rc → dSum R.length N (cutL T).length ≤ rs →
    (∀ (rc rs a b' c : Nat) w p' t, recX (R ++ rcsL (cutL T)) (nI (R ++ rcsL (cutL T)).length) (dFin R.length N (cutL T).length) w p' t → recOK (R ++ rcsL (cutL T)) → capX (R ++ rcsL (cutL T)).length (dFin R.length N (cutL T).length) → K rc rs (nI (R ++ rcsL (cutL T)).length) (balI v3 (cutL T)) a (dFin R.length N (cutL T).length) w b' (dFin R.length N (cutL T).length) p' c (dFin R.length N (cutL T).length) t) →
    P_X9_cutToOrder_L137 z4 v0 v1 v4 (nI P.length) v6 pl K fuel rc rs (nI j) v2 v3 v10 N v12 v13 N v15 v16 N v18 := by
  have h60 := hr.2.1
  intro T
  induction T with
  | nil =>
    intro j fuel R N rc rs v2 v3 v10 v12 v13 v15 v16 v18 hd hj hf hok hN hX hR hrc hrs h
    obtain ⟨g, rfl⟩ : ∃ g, fuel = g + 1 := ⟨fuel - 1, by simp at hf; omega⟩
    have e3 := hX.1
    subst e3
    have en : R ++ rcsL (cutL []) = R := List.append_nil R
    have key := h rc rs v10 v13 v16 v12 v15 v18
    rw [en] at key
    unfold P_X9_cutToOrder_L137
    exact ⟨fun _ => key hX hok hN, fun q => absurd (nI_le (drop_nil hd) (by omega)) q⟩
  | cons x T ih =>
    intro j fuel R N rc rs v2 v3 v10 v12 v13 v15 v16 v18 hd hj hf hok hN hX hR hrc hrs h
    obtain ⟨g, rfl⟩ : ∃ g, fuel = g + 1 := ⟨fuel - 1, by simp at hf; omega⟩
    obtain ⟨hai, hd2⟩ := drop_at hd
    have hil := (List.getElem?_eq_some_iff.mp hai).1
    have hwx := hPW x (List.mem_of_getElem? hai)
    have hf2 : T.length < g := by simp at hf; omega
    obtain ⟨m, em, mm⟩ := hpl j x hai
    have hm := (List.getElem?_eq_some_iff.mp mm).1
    rw [List.length_cons] at hR
    have hs2 : dCst R.length N + dSum (R.length + 1) (dNew R.length N) (cutL T).length ≤ rs := hrs
    have hc2 : 3 * ((cutL T).length + 1) ≤ rc := hrc
    have e2 : (2 : Int32) * nI (wlen x) = nI (2 * wlen x) := nI_mul 2 (wlen x)
    have hl2 := rcs_len R x (2 * wlen x)
    have hin1 : vp_in (nI j) 3 := nI_in (by omega) (by omega)
    have hin2 : vp_in (nI m) 60 := nI_in (by omega) (by omega)
    unfold P_X9_cutToOrder_L137
    rw [nI_clamp (show j < 2 ^ 31 by omega), em, nI_clamp (show m < 2 ^ 31 by omega), hr.2.2 m x mm, ← nI_succ]
    refine ⟨fun q => absurd q (nI_ge hil (by omega)), fun _ => ⟨hin1, hin2, hin1, hin2, p_xlen (Nat.lt_trans hwx.2.1 (by decide)) ⟨3, dCst R.length N, rc - 3, rs - dCst R.length N, ⟨by omega, by omega⟩, ?_⟩⟩⟩
    rw [e2]
    refine p_xwrite hok hN (by omega) hX (Nat.le_refl _) (Nat.le_refl _) (fun a b c w p' t hX' => ?_)
    refine ih (j + 1) g (R ++ [(x, 2 * wlen x, 0)]) (dNew R.length N) _ _ _ _ _ _ _ _ _ _ hd2 (by omega) hf2 (recOK_add hok hwx (by omega)) (by rw [hl2]; exact capX_new hN (by omega)) hX' (by rw [hl2]; omega) (by omega) (by rw [hl2]; omega) ?_
    intro rc' rs' a4 b4 c4 w4 p4 t4 q1 q2 q3
    rw [rcs_cons] at q1 q2 q3 ⊢
    rw [hl2] at q1 q3 ⊢
    exact h rc' rs' a4 b4 c4 w4 p4 t4 q1 q2 q3
theorem p_xcto (hr : rowIs v1 v6 M) (hd : dRel S M) {p : Int64} {z v0 v2 v3 v4 v5 : Int32} {v7 v8 v9 v18 v19 v20 v21 v22 v23 : Nat → Int32} {u : Nat → Nat} (hu : isU v7 u) {R : List (Nat × Nat × Nat)} (hok : recOK R) {N : Nat} (hN : capX R.length N) {v12 : Nat → Int64} {v15 : Nat → Int32} (hX : recX R v2 N v12 v15 v18) (hR : R.length + 20 ≤ 10240) {v10 v13 v16 : Nat} {L : List (Nat × Nat)} (hL : ∀ n k : Nat, p = lN n → isW n → z = nI k → 1 ≤ k → k ≤ 3 → roomU u (lefU n (plP S n k)) → L = cutL (plP S n k)) {mc ms : Nat} (hm : 3 * L.length ≤ mc) (hs : dSum R.length N L.length ≤ ms) {post : Int32 → Int32 → Int32 → Int32 → Int32 → Int32 → (Nat → Int32) → (Nat → Int32) → (Nat → Int32) → Nat → Nat → (Nat → Int64) → Nat → Nat → (Nat → Int32) → Nat → Nat → (Nat → Int32) → (Nat → Int32) → (Nat → Int32) → (Nat → Int32) → (Nat → Int32) → (Nat → Int32) → Prop}
    (h1 : ∀ n k : Nat, p = lN n → isW n → z = nI k → 1 ≤ k → k ≤ 3 → roomU u (lefU n (plP S n k)) → ∀ x y v' (f8 f9 : Nat → Int32) a b' c w p' t sp co iw o pl, isU v' (fun l => u l + lefU n (plP S n k) l) → (∀ l : Nat, 1 ≤ l → l ≤ 26 → f8 l = v8 l + nI (cnt n l)) → (∀ l : Nat, 1 ≤ l → l ≤ 26 → f9 l = v9 l + nI (cntS (plP S n k) l)) → recX (R ++ rcsL L) (nI (R ++ rcsL L).length) (dFin R.length N L.length) w p' t → recOK (R ++ rcsL L) → capX (R ++ rcsL L).length (dFin R.length N L.length) → post (nI (wlen n - lenS (plP S n k))) 0 (nI (R ++ rcsL L).length) (balI v3 L) x y v' f8 f9 a (dFin R.length N L.length) w b' (dFin R.length N L.length) p' c (dFin R.length N L.length) t sp co iw o pl)
    (h2 : ∀ n k : Nat, p = lN n → isW n → z = nI k → 1 ≤ k → k ≤ 3 → ¬ roomU u (lefU n (plP S n k)) → ∀ x y sp co iw o pl, post 0 2 v2 v3 x y v7 v8 v9 v10 N v12 v13 N v15 v16 N v18 sp co iw o pl)
    (hi : ¬ (isWd p ∧ inR z 1 3) → post 0 1 v2 v3 v4 v5 v7 v8 v9 v10 N v12 v13 N v15 v16 N v18 v19 v20 v21 v22 v23) : P_X9_cutToOrder post mc ms p z v0 v1 v2 v3 v4 v5 v6 v7 v8 v9 v10 N v12 v13 N v15 v16 N v18 v19 v20 v21 v22 v23 := by
  refine p_xisO (fun n k e1 e2 e3 e4 e5 => ⟨fun q => absurd q (by decide), fun _ => ?_⟩) (fun h => ⟨fun _ => hi h, fun q => absurd rfl q⟩)
  have ok := plP_ok S n k
  have hPW : ∀ w ∈ plP S n k, isW w := fun w hw => hd.1.1 w (ok.2.2.2 w hw)
  have hM := dRel_W hd
  have hP3 : (plP S n k).length ≤ 3 := by have := ok.2.2.1; omega
  have k1 := h1 n k e1 e2 e3 e4 e5
  have k2 := h2 n k e1 e2 e3 e4 e5
  have k3 := hL n k e1 e2 e3 e4 e5
  subst e1 e3
  refine p_xplan hr hd e2 e4 e5 (fun sp co iw o pl hs' hpl => ?_)
  have hco := hs'.2
  rw [ok.1]
  refine p_xctA hr hM e2.2.1 hP3 hPW ok.2.1 hpl hco hu (fun hro => ?_) (fun hro => k2 hro _ _ _ _ _ _ _) 26 0 FU rfl (FU_s _ (by omega)) (fun l a b => absurd a (by omega))
  have eL := k3 hro
  have eLn : L.length = (plP S n k).length := by rw [eL]; exact List.length_map _
  have key := p_xctB hr hM e2.2.1 hP3 hPW ok.2.1 hpl hco (z4 := nI (wlen n - lenS (plP S n k))) (v0 := 0) (v2 := v2) (v3 := v3) (v4 := nI (wlen n)) (f7 := v7) (f8 := v8) (f9 := v9) (K := fun (w16 : Nat → Int32) (w17 : Nat → Int32) (w18 : Nat → Int32) => P_X9_cutToOrder_L137 (nI (wlen n - lenS (plP S n k))) 0 v1 (nI (wlen n)) (nI (plP S n k).length) v6 pl (fun (mc49 : Nat) (ms50 : Nat) (w36 : Int32) (w37 : Int32) (w38 : Nat) (w39 : Nat) (w40 : Nat → Int64) (w41 : Nat) (w42 : Nat) (w43 : Nat → Int32) (w44 : Nat) (w45 : Nat) (w46 : Nat → Int32) => post (nI (wlen n - lenS (plP S n k))) 0 w36 w37 (nI (wlen n)) (nI (plP S n k).length) w16 w17 w18 w38 w39 w40 w41 w42 w43 w44 w45 w46 sp co iw o pl) FU mc ms 0 v2 v3 v10 N v12 v13 N v15 v16 N v18)
    (by
      have key2 := p_xctC hr hP3 hPW hpl (z4 := nI (wlen n - lenS (plP S n k))) (v0 := 0) (v4 := nI (wlen n)) (K := fun (mc49 : Nat) (ms50 : Nat) (w36 : Int32) (w37 : Int32) (w38 : Nat) (w39 : Nat) (w40 : Nat → Int64) (w41 : Nat) (w42 : Nat) (w43 : Nat → Int32) (w44 : Nat) (w45 : Nat) (w46 : Nat → Int32) => post (nI (wlen n - lenS (plP S n k))) 0 w36 w37 (nI (wlen n)) (nI (plP S n k).length) (padF v7 (fun l => nI (lefU n (plP S n k) l)) 26) (padF v8 co 26) (padF v9 (fun l => co l - nI (lefU n (plP S n k) l)) 26) w38 w39 w40 w41 w42 w43 w44 w45 w46 sp co iw o pl)
        (plP S n k) 0 FU R N mc ms v2 v3 v10 v12 v13 v15 v16 v18 rfl (Nat.zero_le _) (FU_s _ (by omega)) hok hN hX (by omega) (by rw [← eL]; omega) (by rw [← eL]; omega) (fun rc rs a b' c w p' t g1 g2 g3 => by
          rw [← eL] at g1 g2 g3 ⊢
          refine k1 hro _ _ _ _ _ a b' c w p' t sp co iw o pl (isU_add hu hro (fun l x y => padF_in x y)) (fun l x y => by rw [padF_in x y, hco l y]) (fun l x y => ?_) g1 g2 g3
          have hle := cntS_fit hPW ok.2.1 l
          have e9 : cnt n l - lefU n (plP S n k) l = cntS (plP S n k) l := by show cnt n l - (cnt n l - cntS (plP S n k) l) = _; omega
          rw [padF_in x y, hco l y, nI_sub (show lefU n (plP S n k) l ≤ cnt n l from Nat.sub_le _ _), e9])
      rw [nI_0] at key2
      exact key2) 26 0 FU rfl (FU_s _ (by omega))
  rw [padF_0, padF_0, padF_0] at key
  exact key
end XO
/-! the start of both; what holds between calls -/
def pr0 (i : Nat) : Nat := if i = 1 ∨ i = 5 ∨ i = 9 ∨ i = 15 ∨ i = 21 then 40 else if i = 10 ∨ i = 17 ∨ i = 24 ∨ i = 26 then 90 else 60
theorem kpr_eq : ∀ i : Nat, i < 27 → kprice i = nI (pr0 i) := by decide +kernel
theorem kwt_eq : ∀ i : Nat, i < 27 → kweight i = nI (wN i) := by decide +kernel
theorem pr0_in (i : Nat) : 1 ≤ pr0 i ∧ pr0 i < 1000 := by
  unfold pr0
  split
  · omega
  · split <;> omega
def iniF (f : Nat → Int32) (v : Nat → Int32) (i : Nat) : Prop := ∀ l : Nat, 1 ≤ l → l < i → v l = f l
theorem iniF_s {f v : Nat → Int32} {i : Nat} (h : iniF f v i) {c : Int32} (hc : c = f i) : iniF f (upd v i c) (i + 1) := fun l a b => by
  unfold upd
  by_cases e : l = i
  · rw [if_pos e, hc, e]
  · rw [if_neg e]
    exact h l a (by omega)
theorem p_x5iL {K : (Nat → Int32) → (Nat → Int32) → Prop} (h : ∀ v1 v2, iniF kprice v1 27 → iniF kweight v2 27 → K v1 v2) : ∀ (m i fuel : Nat) (v1 v2 : Nat → Int32), i + m = 27 → 1 ≤ i → m < fuel → iniF kprice v1 i → iniF kweight v2 i → P_X5_init_L33 K fuel (nI i) v1 v2 := by
  intro m
  induction m with
  | zero =>
    intro i fuel v1 v2 hi h1 hf a b
    obtain ⟨g, rfl⟩ : ∃ g, fuel = g + 1 := ⟨fuel - 1, by omega⟩
    have e : i = 27 := by omega
    subst e
    unfold P_X5_init_L33
    exact ⟨fun _ => h v1 v2 a b, fun q => absurd (nI_lt (a := 26) (b := 27) (by omega) (by omega)) q⟩
  | succ m ih =>
    intro i fuel v1 v2 hi h1 hf a b
    obtain ⟨g, rfl⟩ : ∃ g, fuel = g + 1 := ⟨fuel - 1, by omega⟩
    unfold P_X5_init_L33
    rw [nI_clamp (show i < 2 ^ 31 by omega), ← nI_succ]
    exact ⟨fun q => absurd q (nI_nlt (a := 26) (by omega) (by omega)), fun _ => ⟨i, rfl, by omega, nI_in (by omega) (by omega), i, rfl, by omega, nI_in (by omega) (by omega), ih (i + 1) g _ _ (by omega) (by omega) (by omega) (iniF_s a rfl) (iniF_s b rfl)⟩⟩
theorem p_x8i {post : (Nat → Int32) → (Nat → Int32) → Prop} (h : ∀ v1 v2, isB v1 pr0 → isWt v2 → post v1 v2) : P_X8_init post :=
  p_x5iL (K := fun (w7 : Nat → Int32) (w8 : Nat → Int32) => post w7 w8) (fun v1 v2 a b => h v1 v2 (fun l x y => ⟨by rw [a l x (by omega)]; exact kpr_eq l (by omega), pr0_in l⟩) (fun l x y => by rw [b l x (by omega)]; exact kwt_eq l (by omega))) 26 1 FU _ _ rfl (by omega) (FU_s _ (by omega)) (fun l a b => absurd a (by omega)) (fun l a b => absurd a (by omega))
def vow (i : Nat) : Prop := i = 1 ∨ i = 5 ∨ i = 9 ∨ i = 15 ∨ i = 21
theorem p_xvow {i : Nat} (hi : i < 27) {post : Int32 → Prop} (h1 : vow i → post 1) (h0 : ¬ vow i → post 0) : P_X9_isVowel post (nI i) := by
  have e : ∀ k : Nat, k < 27 → (nI i = nI k ↔ i = k) := fun k hk => neq (by omega) (by omega)
  unfold vow at h1 h0
  refine ⟨fun q => h1 (Or.inl ((e 1 (by omega)).mp q)), fun q1 => ⟨fun q => h1 ?_, fun q2 => ⟨fun q => h1 ?_, fun q3 => ⟨fun q => h1 ?_, fun q4 => ⟨fun q => h1 ?_, fun q5 => h0 ?_⟩⟩⟩⟩⟩
  · have := (e 5 (by omega)).mp q; omega
  · have := (e 9 (by omega)).mp q; omega
  · have := (e 15 (by omega)).mp q; omega
  · have := (e 21 (by omega)).mp q; omega
  · have a1 : ¬ i = 1 := fun z => q1 ((e 1 (by omega)).mpr z)
    have a2 : ¬ i = 5 := fun z => q2 ((e 5 (by omega)).mpr z)
    have a3 : ¬ i = 9 := fun z => q3 ((e 9 (by omega)).mpr z)
    have a4 : ¬ i = 15 := fun z => q4 ((e 15 (by omega)).mpr z)
    have a5 : ¬ i = 21 := fun z => q5 ((e 21 (by omega)).mpr z)
    omega
theorem p_x9iL {K : (Nat → Int32) → Prop} (h : ∀ v, iniF (fun l => nI (pr0 l)) v 27 → K v) : ∀ (m i fuel : Nat) (v : Nat → Int32), i + m = 27 → 1 ≤ i → m < fuel → iniF (fun l => nI (pr0 l)) v i → P_X9_init_L109 K fuel (nI i) v := by
  intro m
  induction m with
  | zero =>
    intro i fuel v hi h1 hf a
    obtain ⟨g, rfl⟩ : ∃ g, fuel = g + 1 := ⟨fuel - 1, by omega⟩
    have e : i = 27 := by omega
    subst e
    unfold P_X9_init_L109
    exact ⟨fun _ => h v a, fun q => absurd (nI_lt (a := 26) (b := 27) (by omega) (by omega)) q⟩
  | succ m ih =>
    intro i fuel v hi h1 hf a
    obtain ⟨g, rfl⟩ : ∃ g, fuel = g + 1 := ⟨fuel - 1, by omega⟩
    have hin : vp_in (nI i) 27 := nI_in (by omega) (by omega)
    have go : ∀ (c : Int32) (p : Nat), c = nI p → pr0 i = p → P_X9_init_L109 K g (nI (i + 1)) (upd v i c) := fun c p e1 e2 => ih (i + 1) g _ (by omega) (by omega) (by omega) (iniF_s a (by rw [e1, e2]))
    have e : ∀ k : Nat, k < 27 → (nI i = nI k ↔ i = k) := fun k hk => neq (by omega) (by omega)
    have pv : vow i → pr0 i = 40 := fun hv => if_pos hv
    have pj : ¬ vow i → (i = 10 ∨ i = 17 ∨ i = 24 ∨ i = 26) → pr0 i = 90 := fun hv hj => by
      have hv' : ¬ (i = 1 ∨ i = 5 ∨ i = 9 ∨ i = 15 ∨ i = 21) := hv
      unfold pr0
      rw [if_neg hv', if_pos hj]
    have po : ¬ vow i → ¬ (i = 10 ∨ i = 17 ∨ i = 24 ∨ i = 26) → pr0 i = 60 := fun hv hj => by
      have hv' : ¬ (i = 1 ∨ i = 5 ∨ i = 9 ∨ i = 15 ∨ i = 21) := hv
      unfold pr0
      rw [if_neg hv', if_neg hj]
    unfold P_X9_init_L109
    rw [nI_clamp (show i < 2 ^ 31 by omega), ← nI_succ]
    refine ⟨fun q => absurd q (nI_nlt (a := 26) (by omega) (by omega)), fun _ => p_xvow (by omega) (fun hv => ⟨fun q => absurd q (by decide), fun _ => ⟨hin, go 40 40 rfl (pv hv)⟩⟩) (fun hv => ⟨fun _ => ⟨fun q => ⟨hin, go 90 90 rfl (pj hv ?_)⟩, fun q1 => ⟨fun q => ⟨hin, go 90 90 rfl (pj hv ?_)⟩, fun q2 => ⟨fun q => ⟨hin, go 90 90 rfl (pj hv ?_)⟩, fun q3 => ⟨fun q => ⟨hin, go 90 90 rfl (pj hv ?_)⟩, fun q4 => ⟨hin, go 60 60 rfl (po hv ?_)⟩⟩⟩⟩⟩, fun q => absurd rfl q⟩)⟩
    · have := (e 10 (by omega)).mp q; omega
    · have := (e 17 (by omega)).mp q; omega
    · have := (e 24 (by omega)).mp q; omega
    · have := (e 26 (by omega)).mp q; omega
    · have a1 : ¬ i = 10 := fun z => q1 ((e 10 (by omega)).mpr z)
      have a2 : ¬ i = 17 := fun z => q2 ((e 17 (by omega)).mpr z)
      have a3 : ¬ i = 24 := fun z => q3 ((e 24 (by omega)).mpr z)
      have a4 : ¬ i = 26 := fun z => q4 ((e 26 (by omega)).mpr z)
      omega
theorem p_x9i {post : (Nat → Int32) → Prop} (h : ∀ v, isB v pr0 → post v) : P_X9_init post :=
  p_x9iL (K := fun (w15 : Nat → Int32) => post w15) (fun v a => h v (fun l x y => ⟨a l x (by omega), pr0_in l⟩)) 26 1 FU _ rfl (by omega) (FU_s _ (by omega)) (fun l a b => absurd a (by omega))
/-! what holds between calls -/
def eqF (v w : Nat → Int32) : Prop := ∀ l : Nat, 1 ≤ l → l ≤ 26 → v l = w l
def invD (S M : List Nat) (v0 : Int32) (v1 : Nat → Int64) (v20 : Int32) (v25 : Nat → Int64) : Prop := rowIs v0 v1 S ∧ rowIs v20 v25 M ∧ dRel S M
def invU (u : Nat → Nat) (v5 v26 : Nat → Int32) : Prop := isU v5 u ∧ isU v26 u ∧ ∀ l : Nat, 1 ≤ l → l ≤ 26 → u l ≤ 999
def invB (b : Nat → Nat) (v6 v27 : Nat → Int32) : Prop := isB v6 b ∧ isB v27 b
def invA (v8 : Int32) (v9 v10 : Nat → Int32) (v22 : Int32) (v28 v29 : Nat → Int32) : Prop := v8 = v22 ∧ eqF v9 v28 ∧ eqF v10 v29
def invR (R : List (Nat × Nat × Nat)) (N : Nat) (z : ZL) (v21 : Int32) (v31 : Nat) (v32 : Nat → Int64) (v34 : Nat) (v35 : Nat → Int32) (v37 : Nat) (v38 : Nat → Int32) : Prop :=
  recZ R z ∧ capL (lln z) z.2.1 ∧ recOK R ∧ capX R.length N ∧ v31 = N ∧ v34 = N ∧ v37 = N ∧ recX R v21 N v32 v35 v38
/-- k calls are left: what they may still make -/
def bud (k r C N rc rs : Nat) : Prop := r + 20 * k ≤ 10240 ∧ 5 * (10240 - r) + 10 * k ≤ rc ∧ 3 * (10240 - r) + 60 * k + 4 * (16000 - C) + 6 * (20480 - N) ≤ rs
theorem bud_s {k r C N rc rs rc' rs' : Nat} (h : bud (k + 1) r C N rc rs) (h1 : rc ≤ rc' + 10) (h2 : rs ≤ rs' + 60) : bud k r C N rc' rs' := by
  obtain ⟨a, b, c⟩ := h
  exact ⟨by omega, by omega, by omega⟩
theorem gpot : ∀ (n r C : Nat), capL r C → r + n ≤ 10240 → gSum r C n + 4 * (16000 - gFin r C n) ≤ 3 * n + 4 * (16000 - C) ∧ capL (r + n) (gFin r C n)
  | 0, r, C, h, _ => ⟨by show 0 + 4 * (16000 - C) ≤ _; omega, h⟩
  | n + 1, r, C, h, hn => by
    have ⟨a, b⟩ := gpot n (r + 1) (gNew r C) (cap_new h (by omega)) (by omega)
    have hc := cap_new h (show r < 10240 by omega)
    have st : gCst r C + 4 * (16000 - gNew r C) ≤ 4 * (16000 - C) := by
      obtain ⟨h1, h2, h3⟩ := h
      unfold gCst gNew
      by_cases e : r < C
      · rw [if_pos e, if_pos e]; omega
      · rw [if_neg e, if_neg e]
        unfold lgrow
        by_cases e0 : C = 0
        · rw [if_pos e0]; omega
        · rw [if_neg e0]; omega
    refine ⟨?_, by rw [show r + (n + 1) = r + 1 + n by omega]; exact b⟩
    show 3 + gCst r C + gSum (r + 1) (gNew r C) n + 4 * (16000 - gFin (r + 1) (gNew r C) n) ≤ _
    omega
theorem dpot : ∀ (n r N : Nat), capX r N → r + n ≤ 10240 → dSum r N n + 6 * (20480 - dFin r N n) ≤ 6 * (20480 - N)
  | 0, r, N, _, _ => by show 0 + 6 * (20480 - N) ≤ _; omega
  | n + 1, r, N, h, hn => by
    have a := dpot n (r + 1) (dNew r N) (capX_new h (by omega)) (by omega)
    have st : dCst r N + 6 * (20480 - dNew r N) ≤ 6 * (20480 - N) := by
      obtain ⟨h1, h2, h3⟩ := h
      unfold dCst dNew
      by_cases e : r = N
      · rw [if_pos e, if_pos e]; omega
      · rw [if_neg e, if_neg e]; omega
    show dCst r N + dSum (r + 1) (dNew r N) n + 6 * (20480 - dFin (r + 1) (dNew r N) n) ≤ _
    omega
/-- after n sales -/
theorem bud_n {k r C N rc rs n x : Nat} (h : bud (k + 1) r C N rc rs) (hn : n ≤ 20) (hc : capL r C) (hN : capX r N) (hx : x ≤ 60) {rc' rs' : Nat} (h1 : rc ≤ rc' + (10 + 5 * n)) (h2 : rs ≤ rs' + (x + gSum r C n + dSum r N n)) : bud k (r + n) (gFin r C n) (dFin r N n) rc' rs' := by
  obtain ⟨a, b, c⟩ := h
  have g := (gpot n r C hc (by omega)).1
  have d := dpot n r N hN (by omega)
  refine ⟨by omega, by omega, by omega⟩
theorem bud_g {k r C N rc rs n : Nat} (h : bud (k + 1) r C N rc rs) (hn : n ≤ 20) (hc : capL r C) (hN : capX r N) : 10 + 5 * n ≤ rc ∧ 60 + gSum r C n + dSum r N n ≤ rs ∧ r + 20 ≤ 10240 := by
  obtain ⟨a, b, c⟩ := h
  have g := (gpot n r C hc (by omega)).1
  have d := dpot n r N hN (by omega)
  exact ⟨by omega, by omega, by omega⟩
theorem in01 : vp_in 0 1 := nI_in (c := 0) (by omega) (by omega)
theorem fin0 {f : Nat → Int64} {x : Int64} {A : Prop} (h : A) : ((0 : Int32) = 0 → ((0 : Int32) = 0 → vp_in 0 1 ∧ (vp_updL f (0 : Int32).toNatClampNeg x (0 : Int32).toNatClampNeg = x → A) ∧ (¬ (vp_updL f (0 : Int32).toNatClampNeg x (0 : Int32).toNatClampNeg = x) → False)) ∧ (¬ ((0 : Int32) = 0) → A)) ∧ (¬ ((0 : Int32) = 0) → False) :=
  ⟨fun _ => ⟨fun _ => ⟨in01, fun _ => h, fun q => absurd pk_uLs q⟩, fun q => absurd rfl q⟩, fun q => absurd rfl q⟩
theorem finX {c : Int32} (hc : ¬ c = 0) {A B : Prop} (h : A) : (c = c → (c = 0 → B) ∧ (¬ (c = 0) → A)) ∧ (¬ (c = c) → False) := ⟨fun _ => ⟨fun q => absurd q hc, fun _ => h⟩, fun q => absurd rfl q⟩
theorem finB {f : Nat → Int64} {t : Nat} (ht : t ≤ 1) {A : Prop} (h : A) : ((0 : Int32) = 0 → ((0 : Int32) = 0 → vp_in 0 1 ∧ (nI t = 0 → (vp_updL f (0 : Int32).toNatClampNeg (lN t) (0 : Int32).toNatClampNeg = 0 → A) ∧ (¬ (vp_updL f (0 : Int32).toNatClampNeg (lN t) (0 : Int32).toNatClampNeg = 0) → False)) ∧ (¬ (nI t = 0) → (vp_updL f (0 : Int32).toNatClampNeg (lN t) (0 : Int32).toNatClampNeg = 1 → A) ∧ (¬ (vp_updL f (0 : Int32).toNatClampNeg (lN t) (0 : Int32).toNatClampNeg = 1) → False))) ∧ (¬ ((0 : Int32) = 0) → A)) ∧ (¬ ((0 : Int32) = 0) → False) := by
  refine ⟨fun _ => ⟨fun _ => ⟨in01, fun q => ⟨fun _ => h, fun z => absurd ?_ z⟩, fun q => ⟨fun _ => h, fun z => absurd ?_ z⟩⟩, fun q => absurd rfl q⟩, fun q => absurd rfl q⟩
  · have e : t = 0 := (neq (b := 0) (by omega) (by omega)).mp q
    subst e
    exact pk_uLs
  · have e : t ≠ 0 := fun w => q (by rw [w]; rfl)
    have e1 : t = 1 := by omega
    subst e1
    exact pk_uLs
theorem lNu {n m : Nat} (e : lN n = lN m) (hn : isW n) (hm : isW m) : n = m := (pk_lEQ (Nat.lt_trans hn.2.1 (by decide)) (Nat.lt_trans hm.2.1 (by decide))).mp e
theorem at_u {α : Type} {S : List α} (h : S.length ≤ 20000) {j j' : Nat} {n n' : α} (e : nI j = nI j') (a : S[j]? = some n) (b : S[j']? = some n') : n = n' := by
  have h1 := (List.getElem?_eq_some_iff.mp a).1
  have h2 := (List.getElem?_eq_some_iff.mp b).1
  have e2 := (neq (by omega) (by omega)).mp e
  rw [e2, b] at a
  exact (Option.some.inj a).symm
theorem lt_at {α : Type} {S : List α} {j : Nat} {n : α} (a : S[j]? = some n) : j < S.length := (List.getElem?_eq_some_iff.mp a).1
/-! the law, case by case -/
theorem cs_196 {z4 : Int32} {v21 : Int32} {v22 : Int32} {v23 : Int32} {v24 : Int32} {v46 : Nat} {v47 : Nat → Int32} {v0 : Int32} {v1 : Nat → Int64} {v19 : Int32} {v20 : Int32} {v25 : Nat → Int64} {v44 : Nat → Int64} {rc rs : Nat} {K : Nat → Nat → Int32 → (Nat → Int64) → Int32 → Int32 → (Nat → Int64) → (Nat → Int64) → Prop} (i1 : vp_in (z4 + 1) v46) (i2 : vp_in (z4 + 2) v46) (hb1 : 10 ≤ rc) (hb2 : 60 ≤ rs) {S M : List Nat} (hr : rowIs v0 v1 S) (hr2 : rowIs v20 v25 M) (hd : dRel S M)
    (hK : ∀ (rc' rs' : Nat) S' M' a b c d e w, rc ≤ rc' + 10 → rs ≤ rs' + 60 → rowIs a b S' → rowIs d e M' → dRel S' M' → K rc' rs' a b c d e w) :
    P_L_law_L196 z4 v21 v22 v23 v24 v46 v47 K FU rc rs v0 v1 v19 v20 v25 v44 := by
  obtain ⟨f0, hf0⟩ : ∃ f0, FU = f0 + 1 := ⟨19999, rfl⟩
  rw [hf0]
  unfold P_L_law_L196
  have hl : M.length = S.length := hd.2.length_eq
  have hmm : ∀ x, x ∈ M ↔ x ∈ S := fun x => hd.2.mem_iff
  refine ⟨i1, i2, rc - 10, rs - 60, ⟨by omega, by omega⟩, ?_⟩
  unfold P_L_addWord
  refine p_cadd hr hd.1 (fun n e hw hn hn60 f' hf' => ⟨in01, i1, i2, p_xadd hr2 (dRel_W hd) (fun n' e' hw' hn' hl' f2 hf2 => ?_) (fun hb => absurd ⟨n, e, hw⟩ hb) (fun n' e' hw' hq => ?_)⟩) (fun hb => Or.inl ⟨rfl, i1, i2, p_xadd hr2 (dRel_W hd) (fun n' e' hw' _ _ _ _ => absurd ⟨n', e', hw'⟩ hb) (fun _ => finX (by decide) (hK _ _ _ _ _ _ _ _ _ _ (by omega) (by omega) hr hr2 hd)) (fun n' e' hw' _ => absurd ⟨n', e', hw'⟩ hb)⟩) (fun n e hw hq => Or.inr ⟨rfl, i1, i2, p_xadd hr2 (dRel_W hd) (fun n' e' hw' hn' hl' f2 hf2 => ?_) (fun hb => absurd ⟨n, e, hw⟩ hb) (fun n' e' hw' hq' => finX (by decide) (hK _ _ _ _ _ _ _ _ _ _ (by omega) (by omega) hr hr2 hd))⟩)
  · have en := lNu (e.symm.trans e') hw hw'
    subst en
    rw [hl] at hf2 ⊢
    exact fin0 (hK _ _ _ _ _ _ _ _ _ _ (by omega) (by omega) hf' hf2 (dRel_ins hd hw hn))
  · have en := lNu (e.symm.trans e') hw hw'
    subst en
    rcases hq with q | q
    · exact absurd ((hmm n).mp q) hn
    · omega
  · have en := lNu (e.symm.trans e') hw hw'
    subst en
    rcases hq with q | q
    · exact absurd ((hmm n).mpr q) hn'
    · omega

theorem cs_284 {z4 : Int32} {v21 : Int32} {v22 : Int32} {v23 : Int32} {v24 : Int32} {v46 : Nat} {v47 : Nat → Int32} {v0 : Int32} {v1 : Nat → Int64} {v19 : Int32} {v20 : Int32} {v25 : Nat → Int64} {v44 : Nat → Int64} {rc rs : Nat} {K : Nat → Nat → Int32 → (Nat → Int64) → Int32 → Int32 → (Nat → Int64) → (Nat → Int64) → Prop} (i1 : vp_in (z4 + 1) v46) (i2 : vp_in (z4 + 2) v46) (hb1 : 10 ≤ rc) (hb2 : 60 ≤ rs) {S M : List Nat} (hr : rowIs v0 v1 S) (hr2 : rowIs v20 v25 M) (hd : dRel S M)
    (hK : ∀ (rc' rs' : Nat) S' M' a b c d e w, rc ≤ rc' + 10 → rs ≤ rs' + 60 → rowIs a b S' → rowIs d e M' → dRel S' M' → K rc' rs' a b c d e w) :
    P_L_law_L284 z4 v21 v22 v23 v24 v46 v47 K FU rc rs v0 v1 v19 v20 v25 v44 := by
  obtain ⟨f0, hf0⟩ : ∃ f0, FU = f0 + 1 := ⟨19999, rfl⟩
  rw [hf0]
  unfold P_L_law_L284
  have hl : M.length = S.length := hd.2.length_eq
  have hmm : ∀ x, x ∈ M ↔ x ∈ S := fun x => hd.2.mem_iff
  refine ⟨i1, i2, rc - 10, rs - 60, ⟨by omega, by omega⟩, ?_⟩
  unfold P_L_removeWord
  refine p_crem hr hd.1 (fun n e hw hn f' hf' => ⟨in01, i1, i2, p_xrem hr2 (dRel_W hd) (fun n' k z e' hw' hk hz f2 hf2 => ?_) (fun hb => absurd ⟨n, e, hw⟩ hb) (fun n' e' hw' hq => ?_)⟩) (fun hb => Or.inl ⟨rfl, i1, i2, p_xrem hr2 (dRel_W hd) (fun n' _ _ e' hw' _ _ _ _ => absurd ⟨n', e', hw'⟩ hb) (fun _ => finX (by decide) (hK _ _ _ _ _ _ _ _ _ _ (by omega) (by omega) hr hr2 hd)) (fun n' e' hw' _ => absurd ⟨n', e', hw'⟩ hb)⟩) (fun n e hw hq => Or.inr ⟨rfl, i1, i2, p_xrem hr2 (dRel_W hd) (fun n' k z e' hw' hk hz f2 hf2 => ?_) (fun hb => absurd ⟨n, e, hw⟩ hb) (fun n' e' hw' hq' => finX (by decide) (hK _ _ _ _ _ _ _ _ _ _ (by omega) (by omega) hr hr2 hd))⟩)
  · have en := lNu (e.symm.trans e') hw hw'
    subst en
    rw [hl] at hf2 ⊢
    exact fin0 (hK _ _ _ _ _ _ _ _ _ _ (by omega) (by omega) hf' hf2 (dRel_del hd hn hk hz))
  · have en := lNu (e.symm.trans e') hw hw'
    subst en
    exact absurd ((hmm n).mpr hn) hq
  · have en := lNu (e.symm.trans e') hw hw'
    subst en
    exact absurd ((hmm n).mp (List.mem_of_getElem? hk)) hq

theorem cs_372 {z4 : Int32} {v0 : Int32} {v20 : Int32} {v21 : Int32} {v22 : Int32} {v23 : Int32} {v24 : Int32} {v19 : Int32} {rc rs : Nat} {K : Nat → Nat → Int32 → Prop}  (hb1 : 10 ≤ rc) (hb2 : 60 ≤ rs) {v1 : Nat → Int64} {v25 : Nat → Int64} {S M : List Nat} (hr : rowIs v0 v1 S) (hr2 : rowIs v20 v25 M) (hd : dRel S M)
    (hK : ∀ (rc' rs' : Nat) x_v19, rc ≤ rc' + 10 → rs ≤ rs' + 60 → K rc' rs' x_v19) :
    P_L_law_L372 z4 v0 v20 v21 v22 v23 v24 K FU rc rs v19 := by
  obtain ⟨f0, hf0⟩ : ∃ f0, FU = f0 + 1 := ⟨19999, rfl⟩
  rw [hf0]
  unfold P_L_law_L372
  have hl : M.length = S.length := hd.2.length_eq
  have e : v0 = v20 := by rw [hr.1, hr2.1, hl]
  exact ⟨fun _ => hK _ _ _ (by omega) (by omega), fun q => absurd e q⟩

theorem cs_722 {z4 : Int32} {v0 : Int32} {v1 : Nat → Int64} {v20 : Int32} {v21 : Int32} {v22 : Int32} {v24 : Int32} {v25 : Nat → Int64} {v2 : Int32} {v3 : Nat → Int64} {v4 : Nat → Int32} {v19 : Int32} {v23 : Int32} {v39 : Nat → Int32} {v40 : Nat → Int32} {rc rs : Nat} {K : Nat → Nat → Int32 → (Nat → Int64) → (Nat → Int32) → Int32 → Int32 → (Nat → Int32) → (Nat → Int32) → Prop}  (hb1 : 10 ≤ rc) (hb2 : 60 ≤ rs) {S M : List Nat} (hr : rowIs v0 v1 S) (hr2 : rowIs v20 v25 M) (hd : dRel S M)
    (hK : ∀ (rc' rs' : Nat) x_v2 x_v3 x_v4 x_v19 x_v23 x_v39 x_v40, rc ≤ rc' + 10 → rs ≤ rs' + 60 → K rc' rs' x_v2 x_v3 x_v4 x_v19 x_v23 x_v39 x_v40) :
    P_L_law_L722 z4 v0 v1 v20 v21 v22 v24 v25 K FU rc rs v2 v3 v4 v19 v23 v39 v40 := by
  obtain ⟨f0, hf0⟩ : ∃ f0, FU = f0 + 1 := ⟨19999, rfl⟩
  rw [hf0]
  unfold P_L_law_L722
  exact p_clar hr hd.1 (fun a b c => p_xlar hr2 hd (fun x y z => ⟨fun _ => hK _ _ _ _ _ _ _ _ _ (by omega) (by omega), fun q => absurd rfl q⟩))

theorem cs_1078 {z4 : Int32} {v5 : Nat → Int32} {v20 : Int32} {v21 : Int32} {v22 : Int32} {v23 : Int32} {v24 : Int32} {v26 : Nat → Int32} {v19 : Int32} {rc rs : Nat} {K : Nat → Nat → Int32 → Prop}  (hb1 : 10 ≤ rc) (hb2 : 60 ≤ rs) {u : Nat → Nat} (hu : invU u v5 v26)
    (hK : ∀ (rc' rs' : Nat) x_v19, rc ≤ rc' + 10 → rs ≤ rs' + 60 → K rc' rs' x_v19) :
    P_L_law_L1078 z4 v5 v20 v21 v22 v23 v24 v26 K FU rc rs v19 := by
  obtain ⟨f0, hf0⟩ : ∃ f0, FU = f0 + 1 := ⟨19999, rfl⟩
  rw [hf0]
  unfold P_L_law_L1078
  have e : sumI v5 26 = sumI v26 26 := sumI_ext 26 (fun l a b => by rw [(hu.1 l a b).1, (hu.2.1 l a b).1])
  exact p_total (p_xtotal ⟨fun _ => hK _ _ _ (by omega) (by omega), fun q => absurd e q⟩)

theorem cs_2313 {z4 : Int32} {v8 : Int32} {v20 : Int32} {v21 : Int32} {v22 : Int32} {v23 : Int32} {v24 : Int32} {v45 : ZL} {v19 : Int32} {rc rs : Nat} {K : Nat → Nat → Int32 → Prop}  (hb1 : 10 ≤ rc) (hb2 : 60 ≤ rs) {R : List (Nat × Nat × Nat)} (hz : recZ R v45) (h21 : v21 = nI R.length)
    (hK : ∀ (rc' rs' : Nat) x_v19, rc ≤ rc' + 10 → rs ≤ rs' + 60 → K rc' rs' x_v19) :
    P_L_law_L2313 z4 v8 v20 v21 v22 v23 v24 v45 K FU rc rs v19 := by
  obtain ⟨f0, hf0⟩ : ∃ f0, FU = f0 + 1 := ⟨19999, rfl⟩
  rw [hf0]
  unfold P_L_law_L2313
  have e : lsz v45 = v21 := by unfold lsz; rw [rec_len hz, h21]
  exact ⟨fun _ => hK _ _ _ (by omega) (by omega), fun q => absurd e q⟩

theorem cs_2556 {z4 : Int32} {v8 : Int32} {v20 : Int32} {v21 : Int32} {v22 : Int32} {v23 : Int32} {v24 : Int32} {v19 : Int32} {rc rs : Nat} {K : Nat → Nat → Int32 → Prop}  (hb1 : 10 ≤ rc) (hb2 : 60 ≤ rs) (h8 : v8 = v22)
    (hK : ∀ (rc' rs' : Nat) x_v19, rc ≤ rc' + 10 → rs ≤ rs' + 60 → K rc' rs' x_v19) :
    P_L_law_L2556 z4 v8 v20 v21 v22 v23 v24 K FU rc rs v19 := by
  obtain ⟨f0, hf0⟩ : ∃ f0, FU = f0 + 1 := ⟨19999, rfl⟩
  rw [hf0]
  unfold P_L_law_L2556
  exact ⟨fun _ => hK _ _ _ (by omega) (by omega), fun q => absurd h8 q⟩

theorem cs_385 {z4 : Int32} {v0 : Int32} {v1 : Nat → Int64} {v20 : Int32} {v21 : Int32} {v22 : Int32} {v23 : Int32} {v24 : Int32} {v25 : Nat → Int64} {v40 : Nat → Int32} {v46 : Nat} {v47 : Nat → Int32} {v19 : Int32} {v44 : Nat → Int64} {rc rs : Nat} {K : Nat → Nat → Int32 → (Nat → Int64) → Prop} (i1 : vp_in (z4 + 1) v46) (hb1 : 10 ≤ rc) (hb2 : 60 ≤ rs) {S M : List Nat} (hr : rowIs v0 v1 S) (hr2 : rowIs v20 v25 M) (hd : dRel S M)
    (hK : ∀ (rc' rs' : Nat) x_v19 x_v44, rc ≤ rc' + 10 → rs ≤ rs' + 60 → K rc' rs' x_v19 x_v44) :
    P_L_law_L385 z4 v0 v1 v20 v21 v22 v23 v24 v25 v40 v46 v47 K FU rc rs v19 v44 := by
  obtain ⟨f0, hf0⟩ : ∃ f0, FU = f0 + 1 := ⟨19999, rfl⟩
  rw [hf0]
  unfold P_L_law_L385
  refine ⟨i1, rc - 10, rs - 60, ⟨by omega, by omega⟩, ?_⟩
  unfold P_L_wordAt P_X8_wordAt P_X1_words
  have h60 := hr.2.1
  refine p_reqWordOf hr (fun j n e hn => ⟨in01, i1, p_xwordAt hr2 hd (fun j' n' e' hn' => ?_) (fun hb => absurd e (hb j (lt_at hn)))⟩) (fun hb => ⟨rfl, i1, p_xwordAt hr2 hd (fun j' n' e' hn' => absurd e' (hb j' (lt_at hn'))) (fun _ => finX (by decide) (hK _ _ _ _ (by omega) (by omega)))⟩)
  have en := at_u (by omega) (e.symm.trans e') hn hn'
  subst en
  exact fin0 (hK _ _ _ _ (by omega) (by omega))

theorem cs_440 {z4 : Int32} {v0 : Int32} {v1 : Nat → Int64} {v20 : Int32} {v21 : Int32} {v22 : Int32} {v23 : Int32} {v24 : Int32} {v25 : Nat → Int64} {v46 : Nat} {v47 : Nat → Int32} {v19 : Int32} {v44 : Nat → Int64} {rc rs : Nat} {K : Nat → Nat → Int32 → (Nat → Int64) → Prop} (i1 : vp_in (z4 + 1) v46) (i2 : vp_in (z4 + 2) v46) (hb1 : 10 ≤ rc) (hb2 : 60 ≤ rs) {S M : List Nat} (hr : rowIs v0 v1 S) (hr2 : rowIs v20 v25 M) (hd : dRel S M)
    (hK : ∀ (rc' rs' : Nat) x_v19 x_v44, rc ≤ rc' + 10 → rs ≤ rs' + 60 → K rc' rs' x_v19 x_v44) :
    P_L_law_L440 z4 v0 v1 v20 v21 v22 v23 v24 v25 v46 v47 K FU rc rs v19 v44 := by
  obtain ⟨f0, hf0⟩ : ∃ f0, FU = f0 + 1 := ⟨19999, rfl⟩
  rw [hf0]
  unfold P_L_law_L440
  have hmm : ∀ x, x ∈ M ↔ x ∈ S := fun x => hd.2.mem_iff
  refine ⟨i1, i2, rc - 10, rs - 60, ⟨by omega, by omega⟩, ?_⟩
  unfold P_L_hasWord
  refine p_chas hr hd.1 (fun n e hw hn => ⟨fun q => absurd q (by decide), fun _ => ⟨in01, i1, i2, p_xhas hr2 (dRel_W hd) (fun n' e' hw' hn' => ?_) (fun n' e' hw' hn' => ?_) (fun hb => absurd ⟨n, e, hw⟩ hb)⟩⟩) (fun n e hw hn => ⟨fun _ => ⟨in01, i1, i2, p_xhas hr2 (dRel_W hd) (fun n' e' hw' hn' => ?_) (fun n' e' hw' hn' => ?_) (fun hb => absurd ⟨n, e, hw⟩ hb)⟩, fun q => absurd rfl q⟩) (fun hb => ⟨rfl, i1, i2, p_xhas hr2 (dRel_W hd) (fun n' e' hw' hn' => absurd ⟨n', e', hw'⟩ hb) (fun n' e' hw' hn' => absurd ⟨n', e', hw'⟩ hb) (fun _ => finX (by decide) (hK _ _ _ _ (by omega) (by omega)))⟩)
  · exact finB (t := 1) (by omega) (hK _ _ _ _ (by omega) (by omega))
  · have en := lNu (e.symm.trans e') hw hw'
    subst en
    exact absurd ((hmm n).mpr hn) hn'
  · have en := lNu (e.symm.trans e') hw hw'
    subst en
    exact absurd ((hmm n).mp hn') hn
  · exact finB (t := 0) (by omega) (hK _ _ _ _ (by omega) (by omega))

theorem cs_535 {z4 : Int32} {v0 : Int32} {v1 : Nat → Int64} {v20 : Int32} {v21 : Int32} {v22 : Int32} {v24 : Int32} {v25 : Nat → Int64} {v46 : Nat} {v47 : Nat → Int32} {v2 : Int32} {v3 : Nat → Int64} {v4 : Nat → Int32} {v19 : Int32} {v23 : Int32} {v39 : Nat → Int32} {v40 : Nat → Int32} {v44 : Nat → Int64} {rc rs : Nat} {K : Nat → Nat → Int32 → (Nat → Int64) → (Nat → Int32) → Int32 → Int32 → (Nat → Int32) → (Nat → Int32) → (Nat → Int64) → Prop} (i1 : vp_in (z4 + 1) v46) (i2 : vp_in (z4 + 2) v46) (hb1 : 10 ≤ rc) (hb2 : 60 ≤ rs) {S M : List Nat} (hr : rowIs v0 v1 S) (hr2 : rowIs v20 v25 M) (hd : dRel S M)
    (hK : ∀ (rc' rs' : Nat) x_v2 x_v3 x_v4 x_v19 x_v23 x_v39 x_v40 x_v44, rc ≤ rc' + 10 → rs ≤ rs' + 60 → K rc' rs' x_v2 x_v3 x_v4 x_v19 x_v23 x_v39 x_v40 x_v44) :
    P_L_law_L535 z4 v0 v1 v20 v21 v22 v24 v25 v46 v47 K FU rc rs v2 v3 v4 v19 v23 v39 v40 v44 := by
  obtain ⟨f0, hf0⟩ : ∃ f0, FU = f0 + 1 := ⟨19999, rfl⟩
  rw [hf0]
  unfold P_L_law_L535
  refine ⟨i1, i2, rc - 10, rs - 60, ⟨by omega, by omega⟩, ?_⟩
  unfold P_L_anagramCount
  refine p_canaC hr hd.1 (fun n e hw a b d => ⟨in01, i1, i2, p_xcountQ (q := 2) (by omega) hr2 hd (fun n' e' hw' a' sp co => ?_) (fun hb => absurd ⟨n, e, hw⟩ hb)⟩) (fun hb => ⟨rfl, i1, i2, p_xcountQ (q := 2) (by omega) hr2 hd (fun n' e' hw' => absurd ⟨n', e', hw'⟩ hb) (fun _ a' sp co => finX (by decide) (hK _ _ _ _ _ _ _ _ _ _ (by omega) (by omega)))⟩)
  have en := lNu (e.symm.trans e') hw hw'
  subst en
  exact fin0 (hK _ _ _ _ _ _ _ _ _ _ (by omega) (by omega))

theorem cs_735 {z4 : Int32} {v0 : Int32} {v1 : Nat → Int64} {v20 : Int32} {v21 : Int32} {v22 : Int32} {v24 : Int32} {v25 : Nat → Int64} {v46 : Nat} {v47 : Nat → Int32} {v2 : Int32} {v3 : Nat → Int64} {v4 : Nat → Int32} {v19 : Int32} {v23 : Int32} {v39 : Nat → Int32} {v40 : Nat → Int32} {v44 : Nat → Int64} {rc rs : Nat} {K : Nat → Nat → Int32 → (Nat → Int64) → (Nat → Int32) → Int32 → Int32 → (Nat → Int32) → (Nat → Int32) → (Nat → Int64) → Prop} (i1 : vp_in (z4 + 1) v46) (i2 : vp_in (z4 + 2) v46) (hb1 : 10 ≤ rc) (hb2 : 60 ≤ rs) {S M : List Nat} (hr : rowIs v0 v1 S) (hr2 : rowIs v20 v25 M) (hd : dRel S M)
    (hK : ∀ (rc' rs' : Nat) x_v2 x_v3 x_v4 x_v19 x_v23 x_v39 x_v40 x_v44, rc ≤ rc' + 10 → rs ≤ rs' + 60 → K rc' rs' x_v2 x_v3 x_v4 x_v19 x_v23 x_v39 x_v40 x_v44) :
    P_L_law_L735 z4 v0 v1 v20 v21 v22 v24 v25 v46 v47 K FU rc rs v2 v3 v4 v19 v23 v39 v40 v44 := by
  obtain ⟨f0, hf0⟩ : ∃ f0, FU = f0 + 1 := ⟨19999, rfl⟩
  rw [hf0]
  unfold P_L_law_L735
  refine ⟨i1, i2, rc - 10, rs - 60, ⟨by omega, by omega⟩, ?_⟩
  unfold P_L_fittingCount
  refine p_cfitC hr hd.1 (fun n e hw a b d => ⟨in01, i1, i2, p_xcountQ (q := 1) (by omega) hr2 hd (fun n' e' hw' a' sp co => ?_) (fun hb => absurd ⟨n, e, hw⟩ hb)⟩) (fun hb => ⟨rfl, i1, i2, p_xcountQ (q := 1) (by omega) hr2 hd (fun n' e' hw' => absurd ⟨n', e', hw'⟩ hb) (fun _ a' sp co => finX (by decide) (hK _ _ _ _ _ _ _ _ _ _ (by omega) (by omega)))⟩)
  have en := lNu (e.symm.trans e') hw hw'
  subst en
  exact fin0 (hK _ _ _ _ _ _ _ _ _ _ (by omega) (by omega))

theorem cs_623 {z4 : Int32} {v0 : Int32} {v1 : Nat → Int64} {v20 : Int32} {v21 : Int32} {v22 : Int32} {v24 : Int32} {v25 : Nat → Int64} {v46 : Nat} {v47 : Nat → Int32} {v2 : Int32} {v3 : Nat → Int64} {v4 : Nat → Int32} {v19 : Int32} {v23 : Int32} {v39 : Nat → Int32} {v40 : Nat → Int32} {v44 : Nat → Int64} {rc rs : Nat} {K : Nat → Nat → Int32 → (Nat → Int64) → (Nat → Int32) → Int32 → Int32 → (Nat → Int32) → (Nat → Int32) → (Nat → Int64) → Prop} (i1 : vp_in (z4 + 1) v46) (i2 : vp_in (z4 + 2) v46) (i3 : vp_in (z4 + 3) v46) (hb1 : 10 ≤ rc) (hb2 : 60 ≤ rs) {S M : List Nat} (hr : rowIs v0 v1 S) (hr2 : rowIs v20 v25 M) (hd : dRel S M)
    (hK : ∀ (rc' rs' : Nat) x_v2 x_v3 x_v4 x_v19 x_v23 x_v39 x_v40 x_v44, rc ≤ rc' + 10 → rs ≤ rs' + 60 → K rc' rs' x_v2 x_v3 x_v4 x_v19 x_v23 x_v39 x_v40 x_v44) :
    P_L_law_L623 z4 v0 v1 v20 v21 v22 v24 v25 v46 v47 K FU rc rs v2 v3 v4 v19 v23 v39 v40 v44 := by
  obtain ⟨f0, hf0⟩ : ∃ f0, FU = f0 + 1 := ⟨19999, rfl⟩
  rw [hf0]
  unfold P_L_law_L623
  have h60 := hr.2.1
  refine ⟨i1, i2, i3, rc - 10, rs - 60, ⟨by omega, by omega⟩, ?_⟩
  unfold P_L_anagramAt
  refine p_canaA hr hd.1 (fun n j m e hw ez hm a b d => ⟨in01, i1, i2, i3, p_xfindQ (q := 2) (by omega) hr2 hd (fun n' j' m' e' hw' ez' hm' a' sp co => ?_) (fun n' e' hw' hno a' sp co => ?_) (fun hb => absurd ⟨n, e, hw⟩ hb)⟩) (fun n e hw hno a b d => Or.inr ⟨rfl, i1, i2, i3, p_xfindQ (q := 2) (by omega) hr2 hd (fun n' j' m' e' hw' ez' hm' a' sp co => ?_) (fun n' e' hw' hno' a' sp co => finX (by decide) (hK _ _ _ _ _ _ _ _ _ _ (by omega) (by omega))) (fun hb => absurd ⟨n, e, hw⟩ hb)⟩) (fun hb => Or.inl ⟨rfl, i1, i2, i3, p_xfindQ (q := 2) (by omega) hr2 hd (fun n' j' m' e' hw' => absurd ⟨n', e', hw'⟩ hb) (fun n' e' hw' => absurd ⟨n', e', hw'⟩ hb) (fun _ a' sp co => finX (by decide) (hK _ _ _ _ _ _ _ _ _ _ (by omega) (by omega)))⟩)
  · have en := lNu (e.symm.trans e') hw hw'
    subst en
    have em := at_u (by have := filt_len (q := askB n 2) h60; omega) (ez.symm.trans ez') hm hm'
    subst em
    exact fin0 (hK _ _ _ _ _ _ _ _ _ _ (by omega) (by omega))
  · have en := lNu (e.symm.trans e') hw hw'
    subst en
    exact absurd ez (hno j (lt_at hm))
  · have en := lNu (e.symm.trans e') hw hw'
    subst en
    exact absurd ez' (hno j' (lt_at hm'))

theorem cs_823 {z4 : Int32} {v0 : Int32} {v1 : Nat → Int64} {v20 : Int32} {v21 : Int32} {v22 : Int32} {v24 : Int32} {v25 : Nat → Int64} {v46 : Nat} {v47 : Nat → Int32} {v2 : Int32} {v3 : Nat → Int64} {v4 : Nat → Int32} {v19 : Int32} {v23 : Int32} {v39 : Nat → Int32} {v40 : Nat → Int32} {v44 : Nat → Int64} {rc rs : Nat} {K : Nat → Nat → Int32 → (Nat → Int64) → (Nat → Int32) → Int32 → Int32 → (Nat → Int32) → (Nat → Int32) → (Nat → Int64) → Prop} (i1 : vp_in (z4 + 1) v46) (i2 : vp_in (z4 + 2) v46) (i3 : vp_in (z4 + 3) v46) (hb1 : 10 ≤ rc) (hb2 : 60 ≤ rs) {S M : List Nat} (hr : rowIs v0 v1 S) (hr2 : rowIs v20 v25 M) (hd : dRel S M)
    (hK : ∀ (rc' rs' : Nat) x_v2 x_v3 x_v4 x_v19 x_v23 x_v39 x_v40 x_v44, rc ≤ rc' + 10 → rs ≤ rs' + 60 → K rc' rs' x_v2 x_v3 x_v4 x_v19 x_v23 x_v39 x_v40 x_v44) :
    P_L_law_L823 z4 v0 v1 v20 v21 v22 v24 v25 v46 v47 K FU rc rs v2 v3 v4 v19 v23 v39 v40 v44 := by
  obtain ⟨f0, hf0⟩ : ∃ f0, FU = f0 + 1 := ⟨19999, rfl⟩
  rw [hf0]
  unfold P_L_law_L823
  have h60 := hr.2.1
  refine ⟨i1, i2, i3, rc - 10, rs - 60, ⟨by omega, by omega⟩, ?_⟩
  unfold P_L_fittingWord
  refine p_cfitA hr hd.1 (fun n j m e hw ez hm a b d => ⟨in01, i1, i2, i3, p_xfindQ (q := 1) (by omega) hr2 hd (fun n' j' m' e' hw' ez' hm' a' sp co => ?_) (fun n' e' hw' hno a' sp co => ?_) (fun hb => absurd ⟨n, e, hw⟩ hb)⟩) (fun n e hw hno a b d => Or.inr ⟨rfl, i1, i2, i3, p_xfindQ (q := 1) (by omega) hr2 hd (fun n' j' m' e' hw' ez' hm' a' sp co => ?_) (fun n' e' hw' hno' a' sp co => finX (by decide) (hK _ _ _ _ _ _ _ _ _ _ (by omega) (by omega))) (fun hb => absurd ⟨n, e, hw⟩ hb)⟩) (fun hb => Or.inl ⟨rfl, i1, i2, i3, p_xfindQ (q := 1) (by omega) hr2 hd (fun n' j' m' e' hw' => absurd ⟨n', e', hw'⟩ hb) (fun n' e' hw' => absurd ⟨n', e', hw'⟩ hb) (fun _ a' sp co => finX (by decide) (hK _ _ _ _ _ _ _ _ _ _ (by omega) (by omega)))⟩)
  · have en := lNu (e.symm.trans e') hw hw'
    subst en
    have em := at_u (by have := filt_len (q := askB n 1) h60; omega) (ez.symm.trans ez') hm hm'
    subst em
    exact fin0 (hK _ _ _ _ _ _ _ _ _ _ (by omega) (by omega))
  · have en := lNu (e.symm.trans e') hw hw'
    subst en
    exact absurd ez (hno j (lt_at hm))
  · have en := lNu (e.symm.trans e') hw hw'
    subst en
    exact absurd ez' (hno j' (lt_at hm'))

theorem cs_1022 {z4 : Int32} {v5 : Nat → Int32} {v20 : Int32} {v21 : Int32} {v22 : Int32} {v23 : Int32} {v24 : Int32} {v26 : Nat → Int32} {v46 : Nat} {v47 : Nat → Int32} {v19 : Int32} {v44 : Nat → Int64} {rc rs : Nat} {K : Nat → Nat → Int32 → (Nat → Int64) → Prop} (i1 : vp_in (z4 + 1) v46) (hb1 : 10 ≤ rc) (hb2 : 60 ≤ rs) {u : Nat → Nat} (hu : invU u v5 v26)
    (hK : ∀ (rc' rs' : Nat) x_v19 x_v44, rc ≤ rc' + 10 → rs ≤ rs' + 60 → K rc' rs' x_v19 x_v44) :
    P_L_law_L1022 z4 v5 v20 v21 v22 v23 v24 v26 v46 v47 K FU rc rs v19 v44 := by
  obtain ⟨f0, hf0⟩ : ∃ f0, FU = f0 + 1 := ⟨19999, rfl⟩
  rw [hf0]
  unfold P_L_law_L1022
  refine ⟨i1, rc - 10, rs - 60, ⟨by omega, by omega⟩, ?_⟩
  unfold P_L_stockOf
  refine p_cstock (fun l a b e => ⟨in01, i1, p_xofL (fun l' a' b' e' => ?_) (fun hq => absurd ⟨l, a, b, e⟩ hq)⟩) (fun hq => ⟨rfl, i1, p_xofL (fun l' a' b' e' => absurd ⟨l', a', b', e'⟩ hq) (fun _ => finX (by decide) (hK _ _ _ _ (by omega) (by omega)))⟩)
  have en : l = l' := (neq (by omega) (by omega)).mp (e.symm.trans e')
  subst en
  rw [(hu.1 l a b).1, (hu.2.1 l a b).1]
  exact fin0 (hK _ _ _ _ (by omega) (by omega))

theorem cs_1159 {z4 : Int32} {v6 : Nat → Int32} {v20 : Int32} {v21 : Int32} {v22 : Int32} {v23 : Int32} {v24 : Int32} {v27 : Nat → Int32} {v46 : Nat} {v47 : Nat → Int32} {v19 : Int32} {v44 : Nat → Int64} {rc rs : Nat} {K : Nat → Nat → Int32 → (Nat → Int64) → Prop} (i1 : vp_in (z4 + 1) v46) (hb1 : 10 ≤ rc) (hb2 : 60 ≤ rs) {b : Nat → Nat} (hb : invB b v6 v27)
    (hK : ∀ (rc' rs' : Nat) x_v19 x_v44, rc ≤ rc' + 10 → rs ≤ rs' + 60 → K rc' rs' x_v19 x_v44) :
    P_L_law_L1159 z4 v6 v20 v21 v22 v23 v24 v27 v46 v47 K FU rc rs v19 v44 := by
  obtain ⟨f0, hf0⟩ : ∃ f0, FU = f0 + 1 := ⟨19999, rfl⟩
  rw [hf0]
  unfold P_L_law_L1159
  refine ⟨i1, rc - 10, rs - 60, ⟨by omega, by omega⟩, ?_⟩
  unfold P_L_basePriceOf
  refine p_cbase (fun l a b e => ⟨in01, i1, p_xofL (fun l' a' b' e' => ?_) (fun hq => absurd ⟨l, a, b, e⟩ hq)⟩) (fun hq => ⟨rfl, i1, p_xofL (fun l' a' b' e' => absurd ⟨l', a', b', e'⟩ hq) (fun _ => finX (by decide) (hK _ _ _ _ (by omega) (by omega)))⟩)
  have en : l = l' := (neq (by omega) (by omega)).mp (e.symm.trans e')
  subst en
  rw [(hb.1 l a b).1, (hb.2 l a b).1]
  exact fin0 (hK _ _ _ _ (by omega) (by omega))

theorem cs_2569 {z4 : Int32} {v8 : Int32} {v9 : Nat → Int32} {v20 : Int32} {v21 : Int32} {v22 : Int32} {v23 : Int32} {v24 : Int32} {v28 : Nat → Int32} {v46 : Nat} {v47 : Nat → Int32} {v19 : Int32} {v44 : Nat → Int64} {rc rs : Nat} {K : Nat → Nat → Int32 → (Nat → Int64) → Prop} (i1 : vp_in (z4 + 1) v46) (hb1 : 10 ≤ rc) (hb2 : 60 ≤ rs) (he : eqF v9 v28)
    (hK : ∀ (rc' rs' : Nat) x_v19 x_v44, rc ≤ rc' + 10 → rs ≤ rs' + 60 → K rc' rs' x_v19 x_v44) :
    P_L_law_L2569 z4 v8 v9 v20 v21 v22 v23 v24 v28 v46 v47 K FU rc rs v19 v44 := by
  obtain ⟨f0, hf0⟩ : ∃ f0, FU = f0 + 1 := ⟨19999, rfl⟩
  rw [hf0]
  unfold P_L_law_L2569
  refine ⟨i1, rc - 10, rs - 60, ⟨by omega, by omega⟩, ?_⟩
  unfold P_L_cameIn
  refine p_cstock (fun l a b e => ⟨in01, i1, p_xofL (fun l' a' b' e' => ?_) (fun hq => absurd ⟨l, a, b, e⟩ hq)⟩) (fun hq => ⟨rfl, i1, p_xofL (fun l' a' b' e' => absurd ⟨l', a', b', e'⟩ hq) (fun _ => finX (by decide) (hK _ _ _ _ (by omega) (by omega)))⟩)
  have en : l = l' := (neq (by omega) (by omega)).mp (e.symm.trans e')
  subst en
  rw [he l a b]
  exact fin0 (hK _ _ _ _ (by omega) (by omega))

theorem cs_2625 {z4 : Int32} {v8 : Int32} {v10 : Nat → Int32} {v20 : Int32} {v21 : Int32} {v22 : Int32} {v23 : Int32} {v24 : Int32} {v29 : Nat → Int32} {v46 : Nat} {v47 : Nat → Int32} {v19 : Int32} {v44 : Nat → Int64} {rc rs : Nat} {K : Nat → Nat → Int32 → (Nat → Int64) → Prop} (i1 : vp_in (z4 + 1) v46) (hb1 : 10 ≤ rc) (hb2 : 60 ≤ rs) (he : eqF v10 v29)
    (hK : ∀ (rc' rs' : Nat) x_v19 x_v44, rc ≤ rc' + 10 → rs ≤ rs' + 60 → K rc' rs' x_v19 x_v44) :
    P_L_law_L2625 z4 v8 v10 v20 v21 v22 v23 v24 v29 v46 v47 K FU rc rs v19 v44 := by
  obtain ⟨f0, hf0⟩ : ∃ f0, FU = f0 + 1 := ⟨19999, rfl⟩
  rw [hf0]
  unfold P_L_law_L2625
  refine ⟨i1, rc - 10, rs - 60, ⟨by omega, by omega⟩, ?_⟩
  unfold P_L_soldPieces
  refine p_cstock (fun l a b e => ⟨in01, i1, p_xofL (fun l' a' b' e' => ?_) (fun hq => absurd ⟨l, a, b, e⟩ hq)⟩) (fun hq => ⟨rfl, i1, p_xofL (fun l' a' b' e' => absurd ⟨l', a', b', e'⟩ hq) (fun _ => finX (by decide) (hK _ _ _ _ (by omega) (by omega)))⟩)
  have en : l = l' := (neq (by omega) (by omega)).mp (e.symm.trans e')
  subst en
  rw [he l a b]
  exact fin0 (hK _ _ _ _ (by omega) (by omega))

theorem cs_1215 {z4 : Int32} {v5 : Nat → Int32} {v6 : Nat → Int32} {v20 : Int32} {v21 : Int32} {v22 : Int32} {v23 : Int32} {v24 : Int32} {v26 : Nat → Int32} {v27 : Nat → Int32} {v46 : Nat} {v47 : Nat → Int32} {v19 : Int32} {v44 : Nat → Int64} {rc rs : Nat} {K : Nat → Nat → Int32 → (Nat → Int64) → Prop} (i1 : vp_in (z4 + 1) v46) (hb1 : 10 ≤ rc) (hb2 : 60 ≤ rs) {u : Nat → Nat} (hu : invU u v5 v26) {b : Nat → Nat} (hb : invB b v6 v27)
    (hK : ∀ (rc' rs' : Nat) x_v19 x_v44, rc ≤ rc' + 10 → rs ≤ rs' + 60 → K rc' rs' x_v19 x_v44) :
    P_L_law_L1215 z4 v5 v6 v20 v21 v22 v23 v24 v26 v27 v46 v47 K FU rc rs v19 v44 := by
  obtain ⟨f0, hf0⟩ : ∃ f0, FU = f0 + 1 := ⟨19999, rfl⟩
  rw [hf0]
  unfold P_L_law_L1215
  refine ⟨i1, rc - 10, rs - 60, ⟨by omega, by omega⟩, ?_⟩
  unfold P_L_presentPriceOf
  refine p_cpres hu.1 hb.1 (fun l a b e => ⟨in01, i1, p_xpres hu.2.1 hb.2 (fun l' a' b' e' => ?_) (fun hq => absurd ⟨l, a, b, e⟩ hq)⟩) (fun hq => ⟨rfl, i1, p_xpres hu.2.1 hb.2 (fun l' a' b' e' => absurd ⟨l', a', b', e'⟩ hq) (fun _ => finX (by decide) (hK _ _ _ _ (by omega) (by omega)))⟩)
  have en : l = l' := (neq (by omega) (by omega)).mp (e.symm.trans e')
  subst en
  
  exact fin0 (hK _ _ _ _ (by omega) (by omega))

theorem cs_1091 {z4 : Int32} {v20 : Int32} {v21 : Int32} {v22 : Int32} {v23 : Int32} {v24 : Int32} {v46 : Nat} {v47 : Nat → Int32} {v6 : Nat → Int32} {v19 : Int32} {v27 : Nat → Int32} {v44 : Nat → Int64} {rc rs : Nat} {K : Nat → Nat → (Nat → Int32) → Int32 → (Nat → Int32) → (Nat → Int64) → Prop} (i1 : vp_in (z4 + 1) v46) (i2 : vp_in (z4 + 2) v46) (hb1 : 10 ≤ rc) (hb2 : 60 ≤ rs) {b : Nat → Nat} (hb : invB b v6 v27)
    (hK : ∀ (rc' rs' : Nat) (b' : Nat → Nat) v6' x v27' w, rc ≤ rc' + 10 → rs ≤ rs' + 60 → invB b' v6' v27' → K rc' rs' v6' x v27' w) :
    P_L_law_L1091 z4 v20 v21 v22 v23 v24 v46 v47 K FU rc rs v6 v19 v27 v44 := by
  obtain ⟨f0, hf0⟩ : ∃ f0, FU = f0 + 1 := ⟨19999, rfl⟩
  rw [hf0]
  unfold P_L_law_L1091
  have up : ∀ (v : Nat → Int32) (l c : Nat), isB v b → 1 ≤ c → c ≤ 999 → isB (upd v l (nI c)) (fun x => if x = l then c else b x) := fun v l c hv h1 h2 x p q => by
    unfold upd
    dsimp only
    by_cases e : x = l
    · rw [if_pos e, if_pos e]; exact ⟨rfl, h1, by omega⟩
    · rw [if_neg e, if_neg e]; exact hv x p q
  refine ⟨i1, i2, rc - 10, rs - 60, ⟨by omega, by omega⟩, ?_⟩
  unfold P_L_setBasePrice
  refine p_cset (fun l c h1 h2 e h3 h4 ec => ⟨in01, i1, i2, p_xset (fun l' c' h1' h2' e' h3' h4' ec' => ?_) (fun hq => absurd ⟨⟨l, h1, h2, e⟩, ⟨c, h3, h4, ec⟩⟩ hq)⟩) (fun hq => ⟨rfl, i1, i2, p_xset (fun l' c' h1' h2' e' h3' h4' ec' => absurd ⟨⟨l', h1', h2', e'⟩, ⟨c', h3', h4', ec'⟩⟩ hq) (fun _ => finX (by decide) (hK _ _ b _ _ _ _ (by omega) (by omega) hb))⟩)
  have en : l = l' := (neq (by omega) (by omega)).mp (e.symm.trans e')
  subst en
  have ec2 : c = c' := (neq (by omega) (by omega)).mp (ec.symm.trans ec')
  subst ec2
  rw [(hb.1 l h1 h2).1, (hb.2 l h1 h2).1]
  exact fin0 (hK _ _ _ _ _ _ _ (by omega) (by omega) ⟨up v6 l c hb.1 h3 h4, up v27 l c hb.2 h3 h4⟩)

theorem cs_1271 {z4 : Int32} {v7 : Nat → Int32} {v20 : Int32} {v21 : Int32} {v22 : Int32} {v23 : Int32} {v24 : Int32} {v46 : Nat} {v47 : Nat → Int32} {v19 : Int32} {v44 : Nat → Int64} {rc rs : Nat} {K : Nat → Nat → Int32 → (Nat → Int64) → Prop} (i1 : vp_in (z4 + 1) v46) (i2 : vp_in (z4 + 2) v46) (hb1 : 10 ≤ rc) (hb2 : 60 ≤ rs) (ht : isWt v7)
    (hK : ∀ (rc' rs' : Nat) x_v19 x_v44, rc ≤ rc' + 10 → rs ≤ rs' + 60 → K rc' rs' x_v19 x_v44) :
    P_L_law_L1271 z4 v7 v20 v21 v22 v23 v24 v46 v47 K FU rc rs v19 v44 := by
  obtain ⟨f0, hf0⟩ : ∃ f0, FU = f0 + 1 := ⟨19999, rfl⟩
  rw [hf0]
  unfold P_L_law_L1271
  refine ⟨i1, i2, rc - 10, rs - 60, ⟨by omega, by omega⟩, ?_⟩
  unfold P_L_weightOf
  refine p_cwei ht (fun n e hw => ⟨in01, i1, i2, p_xwei (fun n' e' hw' => ?_) (fun hb => absurd ⟨n, e, hw⟩ hb)⟩) (fun hb => ⟨rfl, i1, i2, p_xwei (fun n' e' hw' => absurd ⟨n', e', hw'⟩ hb) (fun _ => finX (by decide) (hK _ _ _ _ (by omega) (by omega)))⟩)
  have en := lNu (e.symm.trans e') hw hw'
  subst en
  exact fin0 (hK _ _ _ _ (by omega) (by omega))

theorem cs_1359 {z4 : Int32} {v6 : Nat → Int32} {v7 : Nat → Int32} {v20 : Int32} {v21 : Int32} {v22 : Int32} {v24 : Int32} {v26 : Nat → Int32} {v27 : Nat → Int32} {v46 : Nat} {v47 : Nat → Int32} {v5 : Nat → Int32} {v19 : Int32} {v23 : Int32} {v39 : Nat → Int32} {v40 : Nat → Int32} {v41 : Nat → Int32} {v44 : Nat → Int64} {rc rs : Nat} {K : Nat → Nat → (Nat → Int32) → Int32 → Int32 → (Nat → Int32) → (Nat → Int32) → (Nat → Int32) → (Nat → Int64) → Prop} (i1 : vp_in (z4 + 1) v46) (i2 : vp_in (z4 + 2) v46) (hb1 : 10 ≤ rc) (hb2 : 60 ≤ rs) {u : Nat → Nat} (hu : invU u v5 v26) {b : Nat → Nat} (hb : invB b v6 v27) (ht : isWt v7)
    (hK : ∀ (rc' rs' : Nat) x_v19 x_v23 x_v39 x_v40 x_v41 x_v44, rc ≤ rc' + 10 → rs ≤ rs' + 60 → K rc' rs' v5 x_v19 x_v23 x_v39 x_v40 x_v41 x_v44) :
    P_L_law_L1359 z4 v6 v7 v20 v21 v22 v24 v26 v27 v46 v47 K FU rc rs v5 v19 v23 v39 v40 v41 v44 := by
  obtain ⟨f0, hf0⟩ : ∃ f0, FU = f0 + 1 := ⟨19999, rfl⟩
  rw [hf0]
  unfold P_L_law_L1359
  refine ⟨i1, i2, rc - 10, rs - 60, ⟨by omega, by omega⟩, ?_⟩
  unfold P_L_costOf
  refine p_ccost hu.1 hb.1 ht (fun n e hw ho => ⟨in01, i1, i2, p_xcostOf hu.2.1 hb.2 (fun n' e' hw' ho' a sp co w => ?_) (fun n' e' hw' ho' a sp co w => ?_) (fun hq => absurd ⟨n, e, hw⟩ hq)⟩) (fun n e hw ho => Or.inr ⟨rfl, i1, i2, p_xcostOf hu.2.1 hb.2 (fun n' e' hw' ho' a sp co w => ?_) (fun n' e' hw' ho' a sp co w => finX (by decide) (hK _ _ _ _ _ _ _ _ (by omega) (by omega))) (fun hq => absurd ⟨n, e, hw⟩ hq)⟩) (fun hq => Or.inl ⟨rfl, i1, i2, p_xcostOf hu.2.1 hb.2 (fun n' e' hw' => absurd ⟨n', e', hw'⟩ hq) (fun n' e' hw' => absurd ⟨n', e', hw'⟩ hq) (fun _ a sp co w => finX (by decide) (hK _ _ _ _ _ _ _ _ (by omega) (by omega)))⟩)
  · have en := lNu (e.symm.trans e') hw hw'
    subst en
    exact fin0 (hK _ _ _ _ _ _ _ _ (by omega) (by omega))
  · have en := lNu (e.symm.trans e') hw hw'
    subst en
    exact absurd ho ho'
  · have en := lNu (e.symm.trans e') hw hw'
    subst en
    exact absurd ho' ho

theorem cs_1447 {z4 : Int32} {v5 : Nat → Int32} {v20 : Int32} {v21 : Int32} {v22 : Int32} {v24 : Int32} {v26 : Nat → Int32} {v46 : Nat} {v47 : Nat → Int32} {v19 : Int32} {v23 : Int32} {v39 : Nat → Int32} {v40 : Nat → Int32} {v44 : Nat → Int64} {rc rs : Nat} {K : Nat → Nat → Int32 → Int32 → (Nat → Int32) → (Nat → Int32) → (Nat → Int64) → Prop} (i1 : vp_in (z4 + 1) v46) (i2 : vp_in (z4 + 2) v46) (hb1 : 10 ≤ rc) (hb2 : 60 ≤ rs) {u : Nat → Nat} (hu : invU u v5 v26)
    (hK : ∀ (rc' rs' : Nat) x_v19 x_v23 x_v39 x_v40 x_v44, rc ≤ rc' + 10 → rs ≤ rs' + 60 → K rc' rs' x_v19 x_v23 x_v39 x_v40 x_v44) :
    P_L_law_L1447 z4 v5 v20 v21 v22 v24 v26 v46 v47 K FU rc rs v19 v23 v39 v40 v44 := by
  obtain ⟨f0, hf0⟩ : ∃ f0, FU = f0 + 1 := ⟨19999, rfl⟩
  rw [hf0]
  unfold P_L_law_L1447
  refine ⟨i1, i2, rc - 10, rs - 60, ⟨by omega, by omega⟩, ?_⟩
  unfold P_L_missingLetter
  refine p_cmis hu.1 (fun n l e hw hm => ⟨in01, i1, i2, p_xmis hu.2.1 (fun n' l' e' hw' hm' a sp co => ?_) (fun n' e' hw' ho' a sp co => ?_) (fun hq => absurd ⟨n, e, hw⟩ hq)⟩) (fun n e hw ho => ⟨in01, i1, i2, p_xmis hu.2.1 (fun n' l' e' hw' hm' a sp co => ?_) (fun n' e' hw' ho' a sp co => fin0 (hK _ _ _ _ _ _ _ (by omega) (by omega))) (fun hq => absurd ⟨n, e, hw⟩ hq)⟩) (fun hq => ⟨rfl, i1, i2, p_xmis hu.2.1 (fun n' l' e' hw' => absurd ⟨n', e', hw'⟩ hq) (fun n' e' hw' => absurd ⟨n', e', hw'⟩ hq) (fun _ a sp co => finX (by decide) (hK _ _ _ _ _ _ _ (by omega) (by omega)))⟩)
  · have en := lNu (e.symm.trans e') hw hw'
    subst en
    have el := missAt_one hm hm'
    subst el
    exact fin0 (hK _ _ _ _ _ _ _ (by omega) (by omega))
  · have en := lNu (e.symm.trans e') hw hw'
    subst en
    exact absurd ho' (missAt_no hm)
  · have en := lNu (e.symm.trans e') hw hw'
    subst en
    exact absurd ho (missAt_no hm')

theorem cs_1535 {z4 : Int32} {v0 : Int32} {v1 : Nat → Int64} {v6 : Nat → Int32} {v7 : Nat → Int32} {v20 : Int32} {v21 : Int32} {v22 : Int32} {v24 : Int32} {v25 : Nat → Int64} {v26 : Nat → Int32} {v27 : Nat → Int32} {v46 : Nat} {v47 : Nat → Int32} {v5 : Nat → Int32} {v19 : Int32} {v23 : Int32} {v39 : Nat → Int32} {v40 : Nat → Int32} {v41 : Nat → Int32} {v44 : Nat → Int64} {rc rs : Nat} {K : Nat → Nat → (Nat → Int32) → Int32 → Int32 → (Nat → Int32) → (Nat → Int32) → (Nat → Int32) → (Nat → Int64) → Prop} (i1 : vp_in (z4 + 1) v46) (i2 : vp_in (z4 + 2) v46) (i3 : vp_in (z4 + 3) v46) (hb1 : 10 ≤ rc) (hb2 : 60 ≤ rs) {S M : List Nat} (hr : rowIs v0 v1 S) (hr2 : rowIs v20 v25 M) (hd : dRel S M) {u : Nat → Nat} (hu : invU u v5 v26) {b : Nat → Nat} (hb : invB b v6 v27) (ht : isWt v7)
    (hK : ∀ (rc' rs' : Nat) x_v19 x_v23 x_v39 x_v40 x_v41 x_v44, rc ≤ rc' + 10 → rs ≤ rs' + 60 → K rc' rs' v5 x_v19 x_v23 x_v39 x_v40 x_v41 x_v44) :
    P_L_law_L1535 z4 v0 v1 v6 v7 v20 v21 v22 v24 v25 v26 v27 v46 v47 K FU rc rs v5 v19 v23 v39 v40 v41 v44 := by
  obtain ⟨f0, hf0⟩ : ∃ f0, FU = f0 + 1 := ⟨19999, rfl⟩
  rw [hf0]
  unfold P_L_law_L1535
  refine ⟨i1, i2, i3, rc - 10, rs - 60, ⟨by omega, by omega⟩, ?_⟩
  unfold P_L_refusalOf
  refine p_crefO hr hd.1 hu.1 hb.1 ht (fun n B e hw ez hB => ⟨in01, i1, i2, i3, p_xrefO hr2 hd hu.2.1 hb.2 (fun n' B' e' hw' ez' hB' a sp co w => ?_) (fun hq => absurd ⟨⟨n, e, hw⟩, ⟨B, Nat.zero_le _, hB, ez⟩⟩ hq)⟩) (fun hq => ⟨rfl, i1, i2, i3, p_xrefO hr2 hd hu.2.1 hb.2 (fun n' B' e' hw' ez' hB' => absurd ⟨⟨n', e', hw'⟩, ⟨B', Nat.zero_le _, hB', ez'⟩⟩ hq) (fun _ a sp co w => finX (by decide) (hK _ _ _ _ _ _ _ _ (by omega) (by omega)))⟩)
  have en := lNu (e.symm.trans e') hw hw'
  subst en
  have eB : B = B' := (neq (by omega) (by omega)).mp (ez.symm.trans ez')
  subst eB
  exact fin0 (hK _ _ _ _ _ _ _ _ (by omega) (by omega))

theorem cs_1735 {z4 : Int32} {v0 : Int32} {v1 : Nat → Int64} {v6 : Nat → Int32} {v7 : Nat → Int32} {v20 : Int32} {v21 : Int32} {v22 : Int32} {v24 : Int32} {v25 : Nat → Int64} {v26 : Nat → Int32} {v27 : Nat → Int32} {v46 : Nat} {v47 : Nat → Int32} {v5 : Nat → Int32} {v19 : Int32} {v23 : Int32} {v39 : Nat → Int32} {v40 : Nat → Int32} {v41 : Nat → Int32} {v44 : Nat → Int64} {rc rs : Nat} {K : Nat → Nat → (Nat → Int32) → Int32 → Int32 → (Nat → Int32) → (Nat → Int32) → (Nat → Int32) → (Nat → Int64) → Prop} (i1 : vp_in (z4 + 1) v46) (hb1 : 10 ≤ rc) (hb2 : 60 ≤ rs) {S M : List Nat} (hr : rowIs v0 v1 S) (hr2 : rowIs v20 v25 M) (hd : dRel S M) {u : Nat → Nat} (hu : invU u v5 v26) {b : Nat → Nat} (hb : invB b v6 v27) (ht : isWt v7)
    (hK : ∀ (rc' rs' : Nat) x_v19 x_v23 x_v39 x_v40 x_v41 x_v44, rc ≤ rc' + 10 → rs ≤ rs' + 60 → K rc' rs' v5 x_v19 x_v23 x_v39 x_v40 x_v41 x_v44) :
    P_L_law_L1735 z4 v0 v1 v6 v7 v20 v21 v22 v24 v25 v26 v27 v46 v47 K FU rc rs v5 v19 v23 v39 v40 v41 v44 := by
  obtain ⟨f0, hf0⟩ : ∃ f0, FU = f0 + 1 := ⟨19999, rfl⟩
  rw [hf0]
  unfold P_L_law_L1735
  refine ⟨i1, rc - 10, rs - 60, ⟨by omega, by omega⟩, ?_⟩
  unfold P_L_affordableWords
  refine p_caff hr hd.1.1 hu.1 hb.1 ht (fun B ez hB => ⟨in01, i1, p_xaff hr2 hd hu.2.1 hb.2 (fun B' ez' hB' a sp co w => ?_) (fun hq => absurd ⟨B, Nat.zero_le _, hB, ez⟩ hq)⟩) (fun hq => ⟨rfl, i1, p_xaff hr2 hd hu.2.1 hb.2 (fun B' ez' hB' => absurd ⟨B', Nat.zero_le _, hB', ez'⟩ hq) (fun _ a sp co w => finX (by decide) (hK _ _ _ _ _ _ _ _ (by omega) (by omega)))⟩)
  have eB : B = B' := (neq (by omega) (by omega)).mp (ez.symm.trans ez')
  subst eB
  exact fin0 (hK _ _ _ _ _ _ _ _ (by omega) (by omega))

theorem cs_1791 {z4 : Int32} {v0 : Int32} {v1 : Nat → Int64} {v6 : Nat → Int32} {v7 : Nat → Int32} {v20 : Int32} {v21 : Int32} {v22 : Int32} {v24 : Int32} {v25 : Nat → Int64} {v26 : Nat → Int32} {v27 : Nat → Int32} {v46 : Nat} {v47 : Nat → Int32} {v5 : Nat → Int32} {v19 : Int32} {v23 : Int32} {v39 : Nat → Int32} {v40 : Nat → Int32} {v41 : Nat → Int32} {v44 : Nat → Int64} {rc rs : Nat} {K : Nat → Nat → (Nat → Int32) → Int32 → Int32 → (Nat → Int32) → (Nat → Int32) → (Nat → Int32) → (Nat → Int64) → Prop} (i1 : vp_in (z4 + 1) v46) (hb1 : 10 ≤ rc) (hb2 : 60 ≤ rs) {S M : List Nat} (hr : rowIs v0 v1 S) (hr2 : rowIs v20 v25 M) (hd : dRel S M) {u : Nat → Nat} (hu : invU u v5 v26) {b : Nat → Nat} (hb : invB b v6 v27) (ht : isWt v7)
    (hK : ∀ (rc' rs' : Nat) x_v19 x_v23 x_v39 x_v40 x_v41 x_v44, rc ≤ rc' + 10 → rs ≤ rs' + 60 → K rc' rs' v5 x_v19 x_v23 x_v39 x_v40 x_v41 x_v44) :
    P_L_law_L1791 z4 v0 v1 v6 v7 v20 v21 v22 v24 v25 v26 v27 v46 v47 K FU rc rs v5 v19 v23 v39 v40 v41 v44 := by
  obtain ⟨f0, hf0⟩ : ∃ f0, FU = f0 + 1 := ⟨19999, rfl⟩
  rw [hf0]
  unfold P_L_law_L1791
  refine ⟨i1, rc - 10, rs - 60, ⟨by omega, by omega⟩, ?_⟩
  unfold P_L_bestWord
  refine p_cbestW hr hd.1 hu.1 hb.1 ht (fun B x ez hB hx => ⟨in01, i1, p_xbestW hr2 hd hu.2.1 hb.2 (fun B' x' ez' hB' hx' a sp co w => ?_) (fun hq => absurd ⟨B, Nat.zero_le _, hB, ez⟩ hq)⟩) (fun hq => ⟨rfl, i1, p_xbestW hr2 hd hu.2.1 hb.2 (fun B' x' ez' hB' hx' => absurd ⟨B', Nat.zero_le _, hB', ez'⟩ hq) (fun _ a sp co w => finX (by decide) (hK _ _ _ _ _ _ _ _ (by omega) (by omega)))⟩)
  have eB : B = B' := (neq (by omega) (by omega)).mp (ez.symm.trans ez')
  subst eB
  have ex := best_one hx hx'
  subst ex
  exact fin0 (hK _ _ _ _ _ _ _ _ (by omega) (by omega))

theorem cs_922 {z4 : Int32} {v8 : Int32} {v20 : Int32} {v21 : Int32} {v22 : Int32} {v24 : Int32} {v46 : Nat} {v47 : Nat → Int32} {v5 : Nat → Int32} {v9 : Nat → Int32} {v18 : Nat → Int32} {v19 : Int32} {v23 : Int32} {v26 : Nat → Int32} {v28 : Nat → Int32} {v39 : Nat → Int32} {v40 : Nat → Int32} {v44 : Nat → Int64} {rc rs : Nat} {K : Nat → Nat → (Nat → Int32) → (Nat → Int32) → (Nat → Int32) → Int32 → Int32 → (Nat → Int32) → (Nat → Int32) → (Nat → Int32) → (Nat → Int32) → (Nat → Int64) → Prop} (i1 : vp_in (z4 + 1) v46) (i2 : vp_in (z4 + 2) v46) (i3 : vp_in (z4 + 3) v46) (hb1 : 10 ≤ rc) (hb2 : 60 ≤ rs) {u : Nat → Nat} (hu : invU u v5 v26) (he : eqF v9 v28)
    (hK : ∀ (rc' rs' : Nat) (u' : Nat → Nat) v5' v9' v18' x y v26' v28' a b w, rc ≤ rc' + 10 → rs ≤ rs' + 60 → invU u' v5' v26' → eqF v9' v28' → K rc' rs' v5' v9' v18' x y v26' v28' a b w) :
    P_L_law_L922 z4 v8 v20 v21 v22 v24 v46 v47 K FU rc rs v5 v9 v18 v19 v23 v26 v28 v39 v40 v44 := by
  obtain ⟨f0, hf0⟩ : ∃ f0, FU = f0 + 1 := ⟨19999, rfl⟩
  rw [hf0]
  unfold P_L_law_L922
  refine ⟨i1, i2, i3, rc - 10, rs - 60, ⟨by omega, by omega⟩, ?_⟩
  unfold P_L_cut
  refine p_ccut hu.1 (fun n c e hw ez h1 h2 hro inc hinc => ⟨in01, i1, i2, i3, p_xcut hu.2.1 (fun n' c' e' hw' ez' h1' h2' hro' a sp co hco => ?_) (fun n' c' e' hw' ez' h1' h2' hro' a sp co => ?_) (fun hq => absurd ⟨⟨n, e, hw⟩, ⟨c, h1, h2, ez⟩⟩ hq)⟩) (fun n c e hw ez h1 h2 hro inc => Or.inr ⟨rfl, i1, i2, i3, p_xcut hu.2.1 (fun n' c' e' hw' ez' h1' h2' hro' a sp co hco => ?_) (fun n' c' e' hw' ez' h1' h2' hro' a sp co => finX (by decide) (hK _ _ u _ _ _ _ _ _ _ _ _ _ (by omega) (by omega) hu he)) (fun hq => absurd ⟨⟨n, e, hw⟩, ⟨c, h1, h2, ez⟩⟩ hq)⟩) (fun hq => Or.inl ⟨rfl, i1, i2, i3, p_xcut hu.2.1 (fun n' c' e' hw' ez' h1' h2' => absurd ⟨⟨n', e', hw'⟩, ⟨c', h1', h2', ez'⟩⟩ hq) (fun n' c' e' hw' ez' h1' h2' => absurd ⟨⟨n', e', hw'⟩, ⟨c', h1', h2', ez'⟩⟩ hq) (fun _ a sp co => finX (by decide) (hK _ _ u _ _ _ _ _ _ _ _ _ _ (by omega) (by omega) hu he))⟩)
  · have en := lNu (e.symm.trans e') hw hw'
    subst en
    have ecc : c = c' := (neq (by omega) (by omega)).mp (ez.symm.trans ez')
    subst ecc
    have g1 := isU_add (w := padF v5 inc 26) hu.1 hro (fun l a b => by rw [padF_in a b, (hinc l a b).1])
    have g2 := isU_add (w := padF v26 (fun l => nI c * co l) 26) hu.2.1 hro (fun l a b => by rw [padF_in a b, hco l b, nI_mul])
    rw [ez]
    have es : sumI (padF v26 (fun l => nI c * co l) 26) 26 = sumI (padF v5 inc 26) 26 := sumI_ext 26 (fun l a b => by rw [(g1 l a b).1, (g2 l a b).1])
    rw [es]
    exact fin0 (hK _ _ _ _ _ _ _ _ _ _ _ _ _ (by omega) (by omega) ⟨g1, g2, hro⟩ (fun l a b => by rw [padF_in a b, padF_in a b, he l a b, (hinc l a b).1, hco l b, nI_mul]))
  · have en := lNu (e.symm.trans e') hw hw'
    subst en
    have ecc : c = c' := (neq (by omega) (by omega)).mp (ez.symm.trans ez')
    subst ecc
    exact absurd hro hro'
  · have en := lNu (e.symm.trans e') hw hw'
    subst en
    have ecc : c = c' := (neq (by omega) (by omega)).mp (ez.symm.trans ez')
    subst ecc
    exact absurd hro' hro

theorem cs_1902 {z4 : Int32} {v0 : Int32} {v1 : Nat → Int64} {v20 : Int32} {v21 : Int32} {v22 : Int32} {v25 : Nat → Int64} {v46 : Nat} {v47 : Nat → Int32} {v2 : Int32} {v3 : Nat → Int64} {v4 : Nat → Int32} {v11 : Int32} {v12 : Int32} {v13 : Nat → Int32} {v14 : Int32} {v15 : Nat → Int64} {v16 : Int32} {v17 : Nat → Int64} {v19 : Int32} {v23 : Int32} {v24 : Int32} {v39 : Nat → Int32} {v40 : Nat → Int32} {v41 : Nat → Int32} {v42 : Nat → Int32} {v43 : Nat → Int32} {v44 : Nat → Int64} {rc rs : Nat} {K : Nat → Nat → Int32 → (Nat → Int64) → (Nat → Int32) → Int32 → Int32 → (Nat → Int32) → Int32 → (Nat → Int64) → Int32 → (Nat → Int64) → Int32 → Int32 → Int32 → (Nat → Int32) → (Nat → Int32) → (Nat → Int32) → (Nat → Int32) → (Nat → Int32) → (Nat → Int64) → Prop} (i1 : vp_in (z4 + 1) v46) (i2 : vp_in (z4 + 2) v46) (i3 : vp_in (z4 + 3) v46) (hb1 : 10 ≤ rc) (hb2 : 60 ≤ rs) {S M : List Nat} (hr : rowIs v0 v1 S) (hr2 : rowIs v20 v25 M) (hd : dRel S M) (h14 : rowIs v14 v15 [])
    (hK : ∀ (rc' rs' : Nat) x_v2 x_v3 x_v4 x_v11 x_v12 x_v13 x_v14 x_v15 x_v16 x_v17 x_v19 x_v23 x_v24 x_v39 x_v40 x_v41 x_v42 x_v43 x_v44, rc ≤ rc' + 10 → rs ≤ rs' + 60 → rowIs x_v14 x_v15 [] → K rc' rs' x_v2 x_v3 x_v4 x_v11 x_v12 x_v13 x_v14 x_v15 x_v16 x_v17 x_v19 x_v23 x_v24 x_v39 x_v40 x_v41 x_v42 x_v43 x_v44) :
    P_L_law_L1902 z4 v0 v1 v20 v21 v22 v25 v46 v47 K FU rc rs v2 v3 v4 v11 v12 v13 v14 v15 v16 v17 v19 v23 v24 v39 v40 v41 v42 v43 v44 := by
  obtain ⟨f0, hf0⟩ : ∃ f0, FU = f0 + 1 := ⟨19999, rfl⟩
  rw [hf0]
  unfold P_L_law_L1902
  refine ⟨i1, i2, i3, rc - 10, rs - 60, ⟨by omega, by omega⟩, ?_⟩
  unfold P_L_planLength
  refine p_cpl hr hd.1 h14 (fun n k e hw ez h1 h2 c1 f1 w4 a b left c2 f2 c3 f3 h3 => ⟨in01, i1, i2, i3, p_xpl hr2 hd (fun n' k' e' hw' ez' h1' h2' a' b' sp co w o pl => ?_) (fun hq => absurd ⟨⟨n, e, hw⟩, ⟨k, h1, h2, ez⟩⟩ hq)⟩) (fun hq => ⟨rfl, i1, i2, i3, p_xpl hr2 hd (fun n' k' e' hw' ez' h1' h2' => absurd ⟨⟨n', e', hw'⟩, ⟨k', h1', h2', ez'⟩⟩ hq) (fun _ => finX (by decide) (hK _ _ _ _ _ _ _ _ _ _ _ _ _ _ _ _ _ _ _ _ _ (by omega) (by omega) h14))⟩)
  have en := lNu (e.symm.trans e') hw hw'
  subst en
  have ek : k = k' := (neq (by omega) (by omega)).mp (ez.symm.trans ez')
  subst ek
  exact fin0 (hK _ _ _ _ _ _ _ _ _ _ _ _ _ _ _ _ _ _ _ _ _ (by omega) (by omega) h3)

theorem cs_2113 {z4 : Int32} {v0 : Int32} {v1 : Nat → Int64} {v20 : Int32} {v21 : Int32} {v22 : Int32} {v25 : Nat → Int64} {v46 : Nat} {v47 : Nat → Int32} {v2 : Int32} {v3 : Nat → Int64} {v4 : Nat → Int32} {v11 : Int32} {v12 : Int32} {v13 : Nat → Int32} {v14 : Int32} {v15 : Nat → Int64} {v16 : Int32} {v17 : Nat → Int64} {v19 : Int32} {v23 : Int32} {v24 : Int32} {v39 : Nat → Int32} {v40 : Nat → Int32} {v41 : Nat → Int32} {v42 : Nat → Int32} {v43 : Nat → Int32} {v44 : Nat → Int64} {rc rs : Nat} {K : Nat → Nat → Int32 → (Nat → Int64) → (Nat → Int32) → Int32 → Int32 → (Nat → Int32) → Int32 → (Nat → Int64) → Int32 → (Nat → Int64) → Int32 → Int32 → Int32 → (Nat → Int32) → (Nat → Int32) → (Nat → Int32) → (Nat → Int32) → (Nat → Int32) → (Nat → Int64) → Prop} (i1 : vp_in (z4 + 1) v46) (i2 : vp_in (z4 + 2) v46) (i3 : vp_in (z4 + 3) v46) (hb1 : 10 ≤ rc) (hb2 : 60 ≤ rs) {S M : List Nat} (hr : rowIs v0 v1 S) (hr2 : rowIs v20 v25 M) (hd : dRel S M) (h14 : rowIs v14 v15 [])
    (hK : ∀ (rc' rs' : Nat) x_v2 x_v3 x_v4 x_v11 x_v12 x_v13 x_v14 x_v15 x_v16 x_v17 x_v19 x_v23 x_v24 x_v39 x_v40 x_v41 x_v42 x_v43 x_v44, rc ≤ rc' + 10 → rs ≤ rs' + 60 → rowIs x_v14 x_v15 [] → K rc' rs' x_v2 x_v3 x_v4 x_v11 x_v12 x_v13 x_v14 x_v15 x_v16 x_v17 x_v19 x_v23 x_v24 x_v39 x_v40 x_v41 x_v42 x_v43 x_v44) :
    P_L_law_L2113 z4 v0 v1 v20 v21 v22 v25 v46 v47 K FU rc rs v2 v3 v4 v11 v12 v13 v14 v15 v16 v17 v19 v23 v24 v39 v40 v41 v42 v43 v44 := by
  obtain ⟨f0, hf0⟩ : ∃ f0, FU = f0 + 1 := ⟨19999, rfl⟩
  rw [hf0]
  unfold P_L_law_L2113
  refine ⟨i1, i2, i3, rc - 10, rs - 60, ⟨by omega, by omega⟩, ?_⟩
  unfold P_L_leftoverCount
  refine p_clo hr hd.1 h14 (fun n k e hw ez h1 h2 c1 f1 w4 a b left c2 f2 c3 f3 h3 => ⟨in01, i1, i2, i3, p_xlo hr2 hd (fun n' k' e' hw' ez' h1' h2' a' b' sp co w o pl => ?_) (fun hq => absurd ⟨⟨n, e, hw⟩, ⟨k, h1, h2, ez⟩⟩ hq)⟩) (fun hq => ⟨rfl, i1, i2, i3, p_xlo hr2 hd (fun n' k' e' hw' ez' h1' h2' => absurd ⟨⟨n', e', hw'⟩, ⟨k', h1', h2', ez'⟩⟩ hq) (fun _ => finX (by decide) (hK _ _ _ _ _ _ _ _ _ _ _ _ _ _ _ _ _ _ _ _ _ (by omega) (by omega) h14))⟩)
  have en := lNu (e.symm.trans e') hw hw'
  subst en
  have ek : k = k' := (neq (by omega) (by omega)).mp (ez.symm.trans ez')
  subst ek
  exact fin0 (hK _ _ _ _ _ _ _ _ _ _ _ _ _ _ _ _ _ _ _ _ _ (by omega) (by omega) h3)

theorem cs_2002 {z4 : Int32} {v0 : Int32} {v1 : Nat → Int64} {v20 : Int32} {v21 : Int32} {v22 : Int32} {v25 : Nat → Int64} {v46 : Nat} {v47 : Nat → Int32} {v2 : Int32} {v3 : Nat → Int64} {v4 : Nat → Int32} {v11 : Int32} {v12 : Int32} {v13 : Nat → Int32} {v14 : Int32} {v15 : Nat → Int64} {v16 : Int32} {v17 : Nat → Int64} {v19 : Int32} {v23 : Int32} {v24 : Int32} {v39 : Nat → Int32} {v40 : Nat → Int32} {v41 : Nat → Int32} {v42 : Nat → Int32} {v43 : Nat → Int32} {v44 : Nat → Int64} {rc rs : Nat} {K : Nat → Nat → Int32 → (Nat → Int64) → (Nat → Int32) → Int32 → Int32 → (Nat → Int32) → Int32 → (Nat → Int64) → Int32 → (Nat → Int64) → Int32 → Int32 → Int32 → (Nat → Int32) → (Nat → Int32) → (Nat → Int32) → (Nat → Int32) → (Nat → Int32) → (Nat → Int64) → Prop} (i1 : vp_in (z4 + 1) v46) (i2 : vp_in (z4 + 2) v46) (i3 : vp_in (z4 + 3) v46) (i4 : vp_in (z4 + 4) v46) (hb1 : 10 ≤ rc) (hb2 : 60 ≤ rs) {S M : List Nat} (hr : rowIs v0 v1 S) (hr2 : rowIs v20 v25 M) (hd : dRel S M) (h14 : rowIs v14 v15 [])
    (hK : ∀ (rc' rs' : Nat) x_v2 x_v3 x_v4 x_v11 x_v12 x_v13 x_v14 x_v15 x_v16 x_v17 x_v19 x_v23 x_v24 x_v39 x_v40 x_v41 x_v42 x_v43 x_v44, rc ≤ rc' + 10 → rs ≤ rs' + 60 → rowIs x_v14 x_v15 [] → K rc' rs' x_v2 x_v3 x_v4 x_v11 x_v12 x_v13 x_v14 x_v15 x_v16 x_v17 x_v19 x_v23 x_v24 x_v39 x_v40 x_v41 x_v42 x_v43 x_v44) :
    P_L_law_L2002 z4 v0 v1 v20 v21 v22 v25 v46 v47 K FU rc rs v2 v3 v4 v11 v12 v13 v14 v15 v16 v17 v19 v23 v24 v39 v40 v41 v42 v43 v44 := by
  obtain ⟨f0, hf0⟩ : ∃ f0, FU = f0 + 1 := ⟨19999, rfl⟩
  rw [hf0]
  unfold P_L_law_L2002
  refine ⟨i1, i2, i3, i4, rc - 10, rs - 60, ⟨by omega, by omega⟩, ?_⟩
  unfold P_L_planWord
  refine p_cpw hr hd.1 h14 (fun n k j m e hw ez h1 h2 ei hm c1 f1 w4 a b left c2 f2 c3 f3 h3 => ⟨in01, i1, i2, i3, i4, p_xpw hr2 hd (fun n' k' j' m' e' hw' ez' h1' h2' ei' hm' a' b' sp co w o pl => ?_) (fun n' k' e' hw' ez' h1' h2' hno a' b' sp co w o pl => ?_) (fun hq => absurd ⟨⟨n, e, hw⟩, ⟨k, h1, h2, ez⟩⟩ hq)⟩) (fun n k e hw ez h1 h2 hno c1 f1 w4 a b left c2 f2 c3 f3 h3 => Or.inr ⟨rfl, i1, i2, i3, i4, p_xpw hr2 hd (fun n' k' j' m' e' hw' ez' h1' h2' ei' hm' a' b' sp co w o pl => ?_) (fun n' k' e' hw' ez' h1' h2' hno' a' b' sp co w o pl => finX (by decide) (hK _ _ _ _ _ _ _ _ _ _ _ _ _ _ _ _ _ _ _ _ _ (by omega) (by omega) h3)) (fun hq => absurd ⟨⟨n, e, hw⟩, ⟨k, h1, h2, ez⟩⟩ hq)⟩) (fun hq => Or.inl ⟨rfl, i1, i2, i3, i4, p_xpw hr2 hd (fun n' k' j' m' e' hw' ez' h1' h2' => absurd ⟨⟨n', e', hw'⟩, ⟨k', h1', h2', ez'⟩⟩ hq) (fun n' k' e' hw' ez' h1' h2' => absurd ⟨⟨n', e', hw'⟩, ⟨k', h1', h2', ez'⟩⟩ hq) (fun _ => finX (by decide) (hK _ _ _ _ _ _ _ _ _ _ _ _ _ _ _ _ _ _ _ _ _ (by omega) (by omega) h14))⟩)
  · have en := lNu (e.symm.trans e') hw hw'
    subst en
    have ek : k = k' := (neq (by omega) (by omega)).mp (ez.symm.trans ez')
    subst ek
    have em := at_u (by have := (plP_ok S n k).2.2.1; omega) (ei.symm.trans ei') hm hm'
    subst em
    exact fin0 (hK _ _ _ _ _ _ _ _ _ _ _ _ _ _ _ _ _ _ _ _ _ (by omega) (by omega) h3)
  · have en := lNu (e.symm.trans e') hw hw'
    subst en
    have ek : k = k' := (neq (by omega) (by omega)).mp (ez.symm.trans ez')
    subst ek
    exact absurd ei (hno j (lt_at hm))
  · have en := lNu (e.symm.trans e') hw hw'
    subst en
    have ek : k = k' := (neq (by omega) (by omega)).mp (ez.symm.trans ez')
    subst ek
    exact absurd ei' (hno j' (lt_at hm'))

theorem cs_2326 {z4 : Int32} {v8 : Int32} {v20 : Int32} {v21 : Int32} {v22 : Int32} {v23 : Int32} {v24 : Int32} {v30 : Nat} {v31 : Nat} {v32 : Nat → Int64} {v45 : ZL} {v46 : Nat} {v47 : Nat → Int32} {v19 : Int32} {v44 : Nat → Int64} {rc rs : Nat} {K : Nat → Nat → Int32 → (Nat → Int64) → Prop} (i1 : vp_in (z4 + 1) v46) (hb1 : 10 ≤ rc) (hb2 : 60 ≤ rs) {R : List (Nat × Nat × Nat)} {N : Nat} {v34 : Nat} {v35 : Nat → Int32} {v37 : Nat} {v38 : Nat → Int32} (hR : invR R N v45 v21 v31 v32 v34 v35 v37 v38)
    (hK : ∀ (rc' rs' : Nat) x_v19 x_v44, rc ≤ rc' + 10 → rs ≤ rs' + 60 → K rc' rs' x_v19 x_v44) :
    P_L_law_L2326 z4 v8 v20 v21 v22 v23 v24 v30 v31 v32 v45 v46 v47 K FU rc rs v19 v44 := by
  obtain ⟨f0, hf0⟩ : ∃ f0, FU = f0 + 1 := ⟨19999, rfl⟩
  rw [hf0]
  unfold P_L_law_L2326
  obtain ⟨hz, hc, hok, hN, rfl, e34, e37, hX⟩ := hR
  subst e34 e37
  refine ⟨i1, rc - 10, rs - 60, ⟨by omega, by omega⟩, ?_⟩
  unfold P_L_receiptWord
  refine p_crw hz hc hok (fun j r e hr => ⟨in01, i1, p_xrw hX hN hok (fun j' r' e' hr' => ?_) (fun hno => absurd e (hno j (lt_at hr)))⟩) (fun hno => ⟨rfl, i1, p_xrw hX hN hok (fun j' r' e' hr' => absurd e' (hno j' (lt_at hr'))) (fun _ => finX (by decide) (hK _ _ _ _ (by omega) (by omega)))⟩)
  have en := at_u (by have := hok.2; omega) (e.symm.trans e') hr hr'
  subst en
  exact fin0 (hK _ _ _ _ (by omega) (by omega))

theorem cs_2381 {z4 : Int32} {v8 : Int32} {v20 : Int32} {v21 : Int32} {v22 : Int32} {v23 : Int32} {v24 : Int32} {v33 : Nat} {v34 : Nat} {v35 : Nat → Int32} {v45 : ZL} {v46 : Nat} {v47 : Nat → Int32} {v19 : Int32} {v44 : Nat → Int64} {rc rs : Nat} {K : Nat → Nat → Int32 → (Nat → Int64) → Prop} (i1 : vp_in (z4 + 1) v46) (hb1 : 10 ≤ rc) (hb2 : 60 ≤ rs) {R : List (Nat × Nat × Nat)} {N : Nat} {v31 : Nat} {v32 : Nat → Int64} {v37 : Nat} {v38 : Nat → Int32} (hR : invR R N v45 v21 v31 v32 v34 v35 v37 v38)
    (hK : ∀ (rc' rs' : Nat) x_v19 x_v44, rc ≤ rc' + 10 → rs ≤ rs' + 60 → K rc' rs' x_v19 x_v44) :
    P_L_law_L2381 z4 v8 v20 v21 v22 v23 v24 v33 v34 v35 v45 v46 v47 K FU rc rs v19 v44 := by
  obtain ⟨f0, hf0⟩ : ∃ f0, FU = f0 + 1 := ⟨19999, rfl⟩
  rw [hf0]
  unfold P_L_law_L2381
  obtain ⟨hz, hc, hok, hN, rfl, e34, e37, hX⟩ := hR
  subst e34 e37
  refine ⟨i1, rc - 10, rs - 60, ⟨by omega, by omega⟩, ?_⟩
  unfold P_L_receiptPrice
  refine p_crp hz hc hok (fun j r e hr => ⟨in01, i1, p_xrp hX hN hok (fun j' r' e' hr' => ?_) (fun hno => absurd e (hno j (lt_at hr)))⟩) (fun hno => ⟨rfl, i1, p_xrp hX hN hok (fun j' r' e' hr' => absurd e' (hno j' (lt_at hr'))) (fun _ => finX (by decide) (hK _ _ _ _ (by omega) (by omega)))⟩)
  have en := at_u (by have := hok.2; omega) (e.symm.trans e') hr hr'
  subst en
  exact fin0 (hK _ _ _ _ (by omega) (by omega))

theorem cs_2437 {z4 : Int32} {v8 : Int32} {v20 : Int32} {v21 : Int32} {v22 : Int32} {v23 : Int32} {v24 : Int32} {v36 : Nat} {v37 : Nat} {v38 : Nat → Int32} {v45 : ZL} {v46 : Nat} {v47 : Nat → Int32} {v19 : Int32} {v44 : Nat → Int64} {rc rs : Nat} {K : Nat → Nat → Int32 → (Nat → Int64) → Prop} (i1 : vp_in (z4 + 1) v46) (hb1 : 10 ≤ rc) (hb2 : 60 ≤ rs) {R : List (Nat × Nat × Nat)} {N : Nat} {v31 : Nat} {v32 : Nat → Int64} {v34 : Nat} {v35 : Nat → Int32} (hR : invR R N v45 v21 v31 v32 v34 v35 v37 v38)
    (hK : ∀ (rc' rs' : Nat) x_v19 x_v44, rc ≤ rc' + 10 → rs ≤ rs' + 60 → K rc' rs' x_v19 x_v44) :
    P_L_law_L2437 z4 v8 v20 v21 v22 v23 v24 v36 v37 v38 v45 v46 v47 K FU rc rs v19 v44 := by
  obtain ⟨f0, hf0⟩ : ∃ f0, FU = f0 + 1 := ⟨19999, rfl⟩
  rw [hf0]
  unfold P_L_law_L2437
  obtain ⟨hz, hc, hok, hN, rfl, e34, e37, hX⟩ := hR
  subst e34 e37
  refine ⟨i1, rc - 10, rs - 60, ⟨by omega, by omega⟩, ?_⟩
  unfold P_L_isReturned
  refine p_crt hz hc hok (fun j r e hr => ⟨fun q => ⟨in01, i1, p_xrt hX hN hok (fun j' r' e' hr' => ?_) (fun hno => absurd e (hno j (lt_at hr)))⟩, fun q => ⟨in01, i1, p_xrt hX hN hok (fun j' r' e' hr' => ?_) (fun hno => absurd e (hno j (lt_at hr)))⟩⟩) (fun hno => ⟨rfl, i1, p_xrt hX hN hok (fun j' r' e' hr' => absurd e' (hno j' (lt_at hr'))) (fun _ => finX (by decide) (hK _ _ _ _ (by omega) (by omega)))⟩)
  · have en := at_u (by have := hok.2; omega) (e.symm.trans e') hr hr'
    subst en
    have ht := (hok.1 r (List.mem_of_getElem? hr)).2
    have e0 : r.2.2 = 0 := (neq (b := 0) (by omega) (by omega)).mp q
    rw [e0]
    exact finB (t := 0) (by omega) (hK _ _ _ _ (by omega) (by omega))
  · have en := at_u (by have := hok.2; omega) (e.symm.trans e') hr hr'
    subst en
    have ht := (hok.1 r (List.mem_of_getElem? hr)).2
    have e0 : r.2.2 ≠ 0 := fun w => q (by rw [w]; rfl)
    have e1 : r.2.2 = 1 := by omega
    rw [e1]
    exact finB (t := 1) (by omega) (hK _ _ _ _ (by omega) (by omega))

/-! the law's calls that write -/
theorem rcsL_len (R : List (Nat × Nat × Nat)) (L : List (Nat × Nat)) : (R ++ rcsL L).length = R.length + L.length := by
  rw [List.length_append]
  unfold rcsL
  rw [List.length_map]
theorem ufin_le (l : Nat) : ∀ (L : List (Nat × Nat)) (u : Nat → Nat), ufin u L l ≤ u l
  | [], _ => Nat.le_refl _
  | e :: L, u => Nat.le_trans (ufin_le l L (subU u e.1)) (Nat.sub_le _ _)
theorem eq_put : ∀ (L : List (Nat × Nat)) (v w : Nat → Int32), eqF v w → eqF (putS v L) (sldS w L)
  | [], _, _, h => h
  | e :: L, v, w, h => eq_put L _ _ (fun l a b => by
    show putF v e.1 1 (wlen e.1) l = addR w e.1 (wlen e.1) l
    rw [putF_1, addR_at, h l a b])
theorem putS_cut (l : Nat) : ∀ (P : List Nat) (v : Nat → Int32), putS v (cutL P) l = v l + nI (cntS P l)
  | [], v => by
    show v l = v l + nI 0
    rw [nI_0, Int32.add_zero]
  | x :: P, v => by
    show putS (putF v x 1 (wlen x)) (cutL P) l = v l + nI (cnt x l + cntS P l)
    rw [putS_cut l P, putF_1, Int32.add_assoc, nI_add]
theorem cs_2500 {z4 : Int32} {v20 : Int32} {v21 : Int32} {v24 : Int32} {v30 : Nat} {v31 : Nat} {v32 : Nat → Int64} {v33 : Nat} {v34 : Nat} {v35 : Nat → Int32} {v36 : Nat} {v37 : Nat} {v46 : Nat} {v47 : Nat → Int32} {v5 : Nat → Int32} {v8 : Int32} {v10 : Nat → Int32} {v18 : Nat → Int32} {v19 : Int32} {v22 : Int32} {v23 : Int32} {v26 : Nat → Int32} {v29 : Nat → Int32} {v38 : Nat → Int32} {v39 : Nat → Int32} {v40 : Nat → Int32} {v44 : Nat → Int64} {v45 : ZL} {rc rs : Nat} {K : Nat → Nat → (Nat → Int32) → Int32 → (Nat → Int32) → (Nat → Int32) → Int32 → Int32 → Int32 → (Nat → Int32) → (Nat → Int32) → (Nat → Int32) → (Nat → Int32) → (Nat → Int32) → (Nat → Int64) → ZL → Prop} (i1 : vp_in (z4 + 1) v46) (hb1 : 10 ≤ rc) (hb2 : 60 ≤ rs) {u : Nat → Nat} (hu : invU u v5 v26) (h8 : v8 = v22) (he : eqF v10 v29) {R : List (Nat × Nat × Nat)} {N : Nat}  (hR : invR R N v45 v21 v31 v32 v34 v35 v37 v38)
    (hK : ∀ (rc' rs' : Nat) (u' : Nat → Nat) R' v5' v8' v10' v18' x v22' y v26' v29' v38' a b w z', rc ≤ rc' + 10 → rs ≤ rs' + 60 → invU u' v5' v26' → v8' = v22' → eqF v10' v29' → invR R' N z' v21 v31 v32 v34 v35 v37 v38' → R'.length = R.length → z'.2.1 = v45.2.1 → K rc' rs' v5' v8' v10' v18' x v22' y v26' v29' v38' a b w z') :
    P_L_law_L2500 z4 v20 v21 v24 v30 v31 v32 v33 v34 v35 v36 v37 v46 v47 K FU rc rs v5 v8 v10 v18 v19 v22 v23 v26 v29 v38 v39 v40 v44 v45 := by
  obtain ⟨f0, hf0⟩ : ∃ f0, FU = f0 + 1 := ⟨19999, rfl⟩
  rw [hf0]
  unfold P_L_law_L2500
  obtain ⟨hz, hc, hok, hN, rfl, e34, e37, hX⟩ := hR
  subst e34 e37
  have same : ∀ v18' x y a b w, K (rc - 10) (rs - 60) v5 v8 v10 v18' x v22 y v26 v29 v38 a b w v45 := fun v18' x y a b w => hK _ _ u R _ _ _ _ _ _ _ _ _ _ _ _ _ _ (by omega) (by omega) hu h8 he ⟨hz, hc, hok, hN, rfl, rfl, rfl, hX⟩ rfl rfl
  refine ⟨i1, rc - 10, rs - 60, ⟨by omega, by omega⟩, ?_⟩
  unfold P_L_takeBack
  refine p_ctake hz hc hok hu.1 (fun j r e hr h0 hro inc hinc => ⟨in01, i1, p_xtake hok hN hX hu.2.1 (fun j' r' e' hr' h0' hro' a sp co => ?_) (fun j' r' e' hr' hq a sp co => ?_) (fun hno => absurd e (hno j (lt_at hr)))⟩) (fun j r e hr hq inc => Or.inr ⟨rfl, i1, p_xtake hok hN hX hu.2.1 (fun j' r' e' hr' h0' hro' a sp co => ?_) (fun j' r' e' hr' hq' a sp co => finX (by decide) (same _ _ _ _ _ _)) (fun hno => absurd e (hno j (lt_at hr)))⟩) (fun hno => Or.inl ⟨rfl, i1, p_xtake hok hN hX hu.2.1 (fun j' r' e' hr' h0' hro' a sp co => absurd e' (hno j' (lt_at hr'))) (fun j' r' e' hr' hq' a sp co => absurd e' (hno j' (lt_at hr'))) (fun _ a sp co => finX (by decide) (same _ _ _ _ _ _))⟩)
  · have ej : j = j' := (neq (by have := lt_at hr; have := hok.2; omega) (by have := lt_at hr'; have := hok.2; omega)).mp (e.symm.trans e')
    subst ej
    rw [hr] at hr'
    have er := Option.some.inj hr'
    subst er
    have g1 := isU_add (w := padF v5 inc 26) hu.1 hro (fun l a b => by rw [padF_in a b, (hinc l a b).1])
    have g2 := isU_add (w := addR v26 r.1 (wlen r.1)) hu.2.1 hro (fun l a b => addR_at v26 r.1 l)
    refine fin0 (hK _ _ _ (R.set j (r.1, r.2.1, 1)) _ _ _ _ _ _ _ _ _ _ _ _ _ _ (by omega) (by omega) ⟨g1, g2, hro⟩ (by rw [h8]) (fun l a b => by rw [putF_m, tkF_at, he l a b]) ⟨rec_set hz hr, ?_, recOK_set hok hr, ?_, rfl, rfl, rfl, recX_set hX hr⟩ (by rw [List.length_set]) rfl)
    · rw [lset_lln]; exact hc
    · rw [List.length_set]; exact hN
  · have ej : j = j' := (neq (by have := lt_at hr; have := hok.2; omega) (by have := lt_at hr'; have := hok.2; omega)).mp (e.symm.trans e')
    subst ej
    rw [hr] at hr'
    have er := Option.some.inj hr'
    subst er
    exact absurd ⟨h0, hro⟩ hq
  · have ej : j = j' := (neq (by have := lt_at hr; have := hok.2; omega) (by have := lt_at hr'; have := hok.2; omega)).mp (e.symm.trans e')
    subst ej
    rw [hr] at hr'
    have er := Option.some.inj hr'
    subst er
    exact absurd ⟨h0', hro'⟩ hq

theorem cs_1635 {z4 : Int32} {v0 : Int32} {v1 : Nat → Int64} {v6 : Nat → Int32} {v7 : Nat → Int32} {v20 : Int32} {v24 : Int32} {v25 : Nat → Int64} {v27 : Nat → Int32} {v46 : Nat} {v47 : Nat → Int32} {v5 : Nat → Int32} {v8 : Int32} {v10 : Nat → Int32} {v19 : Int32} {v21 : Int32} {v22 : Int32} {v23 : Int32} {v26 : Nat → Int32} {v29 : Nat → Int32} {v30 : Nat} {v31 : Nat} {v32 : Nat → Int64} {v33 : Nat} {v34 : Nat} {v35 : Nat → Int32} {v36 : Nat} {v37 : Nat} {v38 : Nat → Int32} {v39 : Nat → Int32} {v40 : Nat → Int32} {v41 : Nat → Int32} {v44 : Nat → Int64} {v45 : ZL} {rc rs : Nat} {K : Nat → Nat → (Nat → Int32) → Int32 → (Nat → Int32) → Int32 → Int32 → Int32 → Int32 → (Nat → Int32) → (Nat → Int32) → Nat → Nat → (Nat → Int64) → Nat → Nat → (Nat → Int32) → Nat → Nat → (Nat → Int32) → (Nat → Int32) → (Nat → Int32) → (Nat → Int32) → (Nat → Int64) → ZL → Prop} (i1 : vp_in (z4 + 1) v46) (i2 : vp_in (z4 + 2) v46) (i3 : vp_in (z4 + 3) v46) (hb1 : 10 ≤ rc) (hb2 : 60 ≤ rs) {S M : List Nat} (hr : rowIs v0 v1 S) (hr2 : rowIs v20 v25 M) (hd : dRel S M) {u : Nat → Nat} (hu : invU u v5 v26) {b : Nat → Nat} (hb : invB b v6 v27) (ht : isWt v7) (h8 : v8 = v22) (he : eqF v10 v29) {R : List (Nat × Nat × Nat)} {N k : Nat}  (hR : invR R N v45 v21 v31 v32 v34 v35 v37 v38) (hB : bud (k + 1) R.length v45.2.1 N rc rs)
    (hK : ∀ (rc' rs' : Nat) (u' : Nat → Nat) R' N' v5' v8' v10' x v21' v22' y v26' v29' v30' v31' v32' v33' v34' v35' v36' v37' v38' a b' c w z', bud k R'.length z'.2.1 N' rc' rs' → invU u' v5' v26' → v8' = v22' → eqF v10' v29' → invR R' N' z' v21' v31' v32' v34' v35' v37' v38' → K rc' rs' v5' v8' v10' x v21' v22' y v26' v29' v30' v31' v32' v33' v34' v35' v36' v37' v38' a b' c w z') :
    P_L_law_L1635 z4 v0 v1 v6 v7 v20 v24 v25 v27 v46 v47 K FU rc rs v5 v8 v10 v19 v21 v22 v23 v26 v29 v30 v31 v32 v33 v34 v35 v36 v37 v38 v39 v40 v41 v44 v45 := by
  obtain ⟨f0, hf0⟩ : ∃ f0, FU = f0 + 1 := ⟨19999, rfl⟩
  rw [hf0]
  unfold P_L_law_L1635
  obtain ⟨hz, hc, hok, hN, rfl, e34, e37, hX⟩ := hR
  subst e34 e37
  have hl := rec_len hz
  have hc2 : capL R.length v45.2.1 := by rw [← hl]; exact hc
  have ⟨b1, b2, b3⟩ := bud_g (n := 1) hB (by omega) hc2 hN
  have s1 : gSum R.length v45.2.1 1 = 3 + gCst R.length v45.2.1 + 0 := rfl
  have s2 : dSum R.length N 1 = dCst R.length N + 0 := rfl
  generalize hp : ((((v47 (z4 + 1).toNatClampNeg).toInt64) <<< ((32 : Int32).toInt64 &&& 63)) ||| (((v47 (z4 + 2).toNatClampNeg).toInt64) &&& 4294967295)) = p
  generalize hq : v47 (z4 + 3).toNatClampNeg = q
  by_cases hs : selOK S u b p q
  · obtain ⟨n, B, rfl, hw, rfl, hB2, href⟩ := hs
    refine ⟨i1, i2, i3, 5, 21 + gCst R.length v45.2.1, rc - 5, rs - (21 + gCst R.length v45.2.1), ⟨by omega, by omega⟩, ?_⟩
    unfold P_L_sell
    refine ⟨5, 21 + gCst R.length v45.2.1, 0, 0, ⟨Nat.le_refl _, Nat.le_refl _⟩, p_csellY hr hd.1 hu.1 hb.1 ht hz hc (by omega) hw hB2 href (Nat.le_refl _) (by rw [hl]; exact Nat.le_refl _) (fun v' z' hu' hz' hc' => ⟨in01, i1, i2, i3, 3, dCst R.length N, rc - 5 - 3, rs - (21 + gCst R.length v45.2.1) - dCst R.length N, ⟨by omega, by omega⟩, p_xsellY hr2 hd hu.2.1 hb.2 hok hN hX (by omega) hw hB2 href (Nat.le_refl _) (Nat.le_refl _) (fun v2' x a b' c w p' t sp co iw hu2 hX' => ?_)⟩)⟩
    rw [hl] at hc'
    have hl2 : (R ++ [(n, costN n u b, 0)]).length = R.length + 1 := rcs_len R n _
    have hlz : lln z' = R.length + 1 := by rw [rec_len hz', hl2]
    have ⟨x1, x2, x3⟩ := ref_all href
    refine fin0 (hK _ _ (subU u n) (R ++ [(n, costN n u b, 0)]) (dNew R.length N) _ _ _ _ _ _ _ _ _ _ _ _ _ _ _ _ _ _ _ _ _ _ _  ?_ ⟨hu', hu2, fun l a b => Nat.le_trans (Nat.sub_le _ _) (hu.2.2 l a b)⟩ (by rw [h8]) (fun l a b => by rw [putF_1, addR_at, he l a b]) ⟨hz', ?_, recOK_add hok hw (by omega), ?_, rfl, rfl, rfl, hX'⟩)
    · rw [hl2, hc']
      exact bud_n (n := 1) (x := 18) hB (by omega) hc2 hN (by omega) (by omega) (by omega)
    · rw [hlz, hc']; exact cap_new hc2 (by omega)
    · rw [hl2]; exact capX_new hN (by omega)
  · have same : ∀ x y sp co w z, K (rc - 5) (rs - 21) v5 v8 v10 x v21 v22 y v26 v29 v30 N v32 v33 N v35 v36 N v38 sp co w z v45 := fun x y sp co w z => hK _ _ u R N _ _ _ _ _ _ _ _ _ _ _ _ _ _ _ _ _ _ _ _ _ _ _  (bud_s hB (by omega) (by omega)) hu h8 he ⟨hz, hc, hok, hN, rfl, rfl, rfl, hX⟩
    refine ⟨i1, i2, i3, 5, 21, rc - 5, rs - 21, ⟨by omega, by omega⟩, ?_⟩
    unfold P_L_sell
    exact ⟨5, 21, 0, 0, ⟨Nat.le_refl _, Nat.le_refl _⟩, p_csellN hr hd.1 hu.1 hb.1 ht (Nat.le_refl _) (Nat.le_refl _) hs (fun hv => Or.inr ⟨rfl, i1, i2, i3, 0, 0, rc - 5, rs - 21, ⟨by omega, by omega⟩, p_xsellN hr2 hd hu.2.1 hb.2 hs (fun _ a sp co w => finX (by decide) (same _ _ _ _ _ _)) (fun hq => absurd hv hq)⟩) (fun hv => Or.inl ⟨rfl, i1, i2, i3, 0, 0, rc - 5, rs - 21, ⟨by omega, by omega⟩, p_xsellN hr2 hd hu.2.1 hb.2 hs (fun hq => absurd hq hv) (fun _ a sp co w => finX (by decide) (same _ _ _ _ _ _))⟩)⟩

theorem cs_1846 {z4 : Int32} {v0 : Int32} {v1 : Nat → Int64} {v6 : Nat → Int32} {v7 : Nat → Int32} {v20 : Int32} {v24 : Int32} {v25 : Nat → Int64} {v27 : Nat → Int32} {v46 : Nat} {v47 : Nat → Int32} {v5 : Nat → Int32} {v8 : Int32} {v10 : Nat → Int32} {v19 : Int32} {v21 : Int32} {v22 : Int32} {v23 : Int32} {v26 : Nat → Int32} {v29 : Nat → Int32} {v30 : Nat} {v31 : Nat} {v32 : Nat → Int64} {v33 : Nat} {v34 : Nat} {v35 : Nat → Int32} {v36 : Nat} {v37 : Nat} {v38 : Nat → Int32} {v39 : Nat → Int32} {v40 : Nat → Int32} {v41 : Nat → Int32} {v44 : Nat → Int64} {v45 : ZL} {rc rs : Nat} {K : Nat → Nat → (Nat → Int32) → Int32 → (Nat → Int32) → Int32 → Int32 → Int32 → Int32 → (Nat → Int32) → (Nat → Int32) → Nat → Nat → (Nat → Int64) → Nat → Nat → (Nat → Int32) → Nat → Nat → (Nat → Int32) → (Nat → Int32) → (Nat → Int32) → (Nat → Int32) → (Nat → Int64) → ZL → Prop} (i1 : vp_in (z4 + 1) v46) (hb1 : 10 ≤ rc) (hb2 : 60 ≤ rs) {S M : List Nat} (hr : rowIs v0 v1 S) (hr2 : rowIs v20 v25 M) (hd : dRel S M) {u : Nat → Nat} (hu : invU u v5 v26) {b : Nat → Nat} (hb : invB b v6 v27) (ht : isWt v7) (h8 : v8 = v22) (he : eqF v10 v29) {R : List (Nat × Nat × Nat)} {N k : Nat}  (hR : invR R N v45 v21 v31 v32 v34 v35 v37 v38) (hB : bud (k + 1) R.length v45.2.1 N rc rs)
    (hK : ∀ (rc' rs' : Nat) (u' : Nat → Nat) R' N' v5' v8' v10' x v21' v22' y v26' v29' v30' v31' v32' v33' v34' v35' v36' v37' v38' a b' c w z', bud k R'.length z'.2.1 N' rc' rs' → invU u' v5' v26' → v8' = v22' → eqF v10' v29' → invR R' N' z' v21' v31' v32' v34' v35' v37' v38' → K rc' rs' v5' v8' v10' x v21' v22' y v26' v29' v30' v31' v32' v33' v34' v35' v36' v37' v38' a b' c w z') :
    P_L_law_L1846 z4 v0 v1 v6 v7 v20 v24 v25 v27 v46 v47 K FU rc rs v5 v8 v10 v19 v21 v22 v23 v26 v29 v30 v31 v32 v33 v34 v35 v36 v37 v38 v39 v40 v41 v44 v45 := by
  obtain ⟨f0, hf0⟩ : ∃ f0, FU = f0 + 1 := ⟨19999, rfl⟩
  rw [hf0]
  unfold P_L_law_L1846
  obtain ⟨hz, hc, hok, hN, rfl, e34, e37, hX⟩ := hR
  subst e34 e37
  have hl := rec_len hz
  have hc2 : capL R.length v45.2.1 := by rw [← hl]; exact hc
  generalize hp : v47 (z4 + 1).toNatClampNeg = p
  obtain ⟨L, hL, hLn, hL0⟩ : ∃ L : List (Nat × Nat), (∀ B : Nat, p = nI B → B ≤ 99999 → spR S b 20 B u L) ∧ L.length ≤ 20 ∧ (¬ inR p 0 99999 → L = []) := by
    by_cases hv : inR p 0 99999
    · obtain ⟨B, -, hB2, e⟩ := hv
      obtain ⟨L, h1, h2, -⟩ := spR_ex (b := b) hd.1.1 20 B u
      refine ⟨L, fun B' e' hB' => ?_, h2, fun q => absurd ⟨B, Nat.zero_le _, hB2, e⟩ q⟩
      have eB : B = B' := (neq (by omega) (by omega)).mp (e.symm.trans e')
      rw [← eB]; exact h1
    · exact ⟨[], fun B e hB' => absurd ⟨B, Nat.zero_le _, hB', e⟩ hv, Nat.zero_le _, fun _ => rfl⟩
  have ⟨b1, b2, b3⟩ := bud_g hB hLn hc2 hN
  refine ⟨i1, 1 + 2 * L.length, 6 + gSum R.length v45.2.1 L.length, rc - (1 + 2 * L.length), rs - (6 + gSum R.length v45.2.1 L.length), ⟨by omega, by omega⟩, ?_⟩
  unfold P_L_spend
  refine ⟨1 + 2 * L.length, 6 + gSum R.length v45.2.1 L.length, 0, 0, ⟨Nat.le_refl _, Nat.le_refl _⟩, p_cspend hr hd.1 hu.1 hb.1 ht hz hc b3 hL (Nat.le_refl _) (by rw [hl]; exact Nat.le_refl _) (fun hv v' z' g1 g2 g3 g4 => ⟨in01, i1, 3 * L.length, dSum R.length N L.length, rc - (1 + 2 * L.length) - 3 * L.length, rs - (6 + gSum R.length v45.2.1 L.length) - dSum R.length N L.length, ⟨by omega, by omega⟩, p_xspend hr2 hd hu.2.1 hb.2 hok hN hX b3 hL (Nat.le_refl _) (Nat.le_refl _) (fun _ v2' x a b' c w p' t sp co iw q1 q2 q3 q4 => ?_) (fun hq => absurd hv hq)⟩) (fun hv => ⟨rfl, i1, 0, 0, rc - (1 + 2 * L.length), rs - (6 + gSum R.length v45.2.1 L.length), ⟨by omega, by omega⟩, ?_⟩)⟩
  · rw [hl] at g3
    have hl2 := rcsL_len R L
    refine fin0 (hK _ _ (ufin u L) (R ++ rcsL L) (dFin R.length N L.length) _ _ _ _ _ _ _ _ _ _ _ _ _ _ _ _ _ _ _ _ _ _ _  ?_ ⟨g1, q1, fun l a b => Nat.le_trans (ufin_le l L u) (hu.2.2 l a b)⟩ (by rw [h8]) (eq_put L _ _ he) ⟨g2, g4, q3, q4, rfl, rfl, rfl, q2⟩)
    rw [hl2, g3]
    exact bud_n (x := 6) hB hLn hc2 hN (by omega) (by omega) (by omega)
  · have eL := hL0 hv
    subst eL
    have z0 : gSum R.length v45.2.1 ([] : List (Nat × Nat)).length = 0 := rfl
    have z1 : ([] : List (Nat × Nat)).length = 0 := rfl
    refine p_xspend hr2 hd hu.2.1 hb.2 hok hN hX b3 hL (Nat.le_refl _) (Nat.le_refl _) (fun hq => absurd hq hv) (fun _ => finX (by decide) (hK _ _ u R N _ _ _ _ _ _ _ _ _ _ _ _ _ _ _ _ _ _ _ _ _ _ _  (bud_s hB (by omega) (by omega)) hu h8 he ⟨hz, hc, hok, hN, rfl, rfl, rfl, hX⟩))

theorem cs_2213 {z4 : Int32} {v0 : Int32} {v1 : Nat → Int64} {v20 : Int32} {v25 : Nat → Int64} {v46 : Nat} {v47 : Nat → Int32} {v2 : Int32} {v3 : Nat → Int64} {v4 : Nat → Int32} {v5 : Nat → Int32} {v8 : Int32} {v9 : Nat → Int32} {v10 : Nat → Int32} {v11 : Int32} {v12 : Int32} {v13 : Nat → Int32} {v14 : Int32} {v15 : Nat → Int64} {v16 : Int32} {v17 : Nat → Int64} {v19 : Int32} {v21 : Int32} {v22 : Int32} {v23 : Int32} {v24 : Int32} {v26 : Nat → Int32} {v28 : Nat → Int32} {v29 : Nat → Int32} {v30 : Nat} {v31 : Nat} {v32 : Nat → Int64} {v33 : Nat} {v34 : Nat} {v35 : Nat → Int32} {v36 : Nat} {v37 : Nat} {v38 : Nat → Int32} {v39 : Nat → Int32} {v40 : Nat → Int32} {v41 : Nat → Int32} {v42 : Nat → Int32} {v43 : Nat → Int32} {v44 : Nat → Int64} {v45 : ZL} {rc rs : Nat} {K : Nat → Nat → Int32 → (Nat → Int64) → (Nat → Int32) → (Nat → Int32) → Int32 → (Nat → Int32) → (Nat → Int32) → Int32 → Int32 → (Nat → Int32) → Int32 → (Nat → Int64) → Int32 → (Nat → Int64) → Int32 → Int32 → Int32 → Int32 → Int32 → (Nat → Int32) → (Nat → Int32) → (Nat → Int32) → Nat → Nat → (Nat → Int64) → Nat → Nat → (Nat → Int32) → Nat → Nat → (Nat → Int32) → (Nat → Int32) → (Nat → Int32) → (Nat → Int32) → (Nat → Int32) → (Nat → Int32) → (Nat → Int64) → ZL → Prop} (i1 : vp_in (z4 + 1) v46) (i2 : vp_in (z4 + 2) v46) (i3 : vp_in (z4 + 3) v46) (hb1 : 10 ≤ rc) (hb2 : 60 ≤ rs) {S M : List Nat} (hr : rowIs v0 v1 S) (hr2 : rowIs v20 v25 M) (hd : dRel S M) {u : Nat → Nat} (hu : invU u v5 v26) (h8 : v8 = v22) (he9 : eqF v9 v28) (he : eqF v10 v29) (h14 : rowIs v14 v15 []) {R : List (Nat × Nat × Nat)} {N k : Nat}  (hR : invR R N v45 v21 v31 v32 v34 v35 v37 v38) (hB : bud (k + 1) R.length v45.2.1 N rc rs)
    (hK : ∀ (rc' rs' : Nat) (u' : Nat → Nat) R' N' x_v2 x_v3 x_v4 x_v5 x_v8 x_v9 x_v10 x_v11 x_v12 x_v13 x_v14 x_v15 x_v16 x_v17 x_v19 x_v21 x_v22 x_v23 x_v24 x_v26 x_v28 x_v29 x_v30 x_v31 x_v32 x_v33 x_v34 x_v35 x_v36 x_v37 x_v38 x_v39 x_v40 x_v41 x_v42 x_v43 x_v44 x_v45, bud k R'.length x_v45.2.1 N' rc' rs' → invU u' x_v5 x_v26 → x_v8 = x_v22 → eqF x_v9 x_v28 → eqF x_v10 x_v29 → rowIs x_v14 x_v15 [] → invR R' N' x_v45 x_v21 x_v31 x_v32 x_v34 x_v35 x_v37 x_v38 → K rc' rs' x_v2 x_v3 x_v4 x_v5 x_v8 x_v9 x_v10 x_v11 x_v12 x_v13 x_v14 x_v15 x_v16 x_v17 x_v19 x_v21 x_v22 x_v23 x_v24 x_v26 x_v28 x_v29 x_v30 x_v31 x_v32 x_v33 x_v34 x_v35 x_v36 x_v37 x_v38 x_v39 x_v40 x_v41 x_v42 x_v43 x_v44 x_v45) :
    P_L_law_L2213 z4 v0 v1 v20 v25 v46 v47 K FU rc rs v2 v3 v4 v5 v8 v9 v10 v11 v12 v13 v14 v15 v16 v17 v19 v21 v22 v23 v24 v26 v28 v29 v30 v31 v32 v33 v34 v35 v36 v37 v38 v39 v40 v41 v42 v43 v44 v45 := by
  obtain ⟨f0, hf0⟩ : ∃ f0, FU = f0 + 1 := ⟨19999, rfl⟩
  rw [hf0]
  unfold P_L_law_L2213
  obtain ⟨hz, hc, hok, hN, rfl, e34, e37, hX⟩ := hR
  subst e34 e37
  have hl := rec_len hz
  have hc2 : capL R.length v45.2.1 := by rw [← hl]; exact hc
  generalize hp : ((((v47 (z4 + 1).toNatClampNeg).toInt64) <<< ((32 : Int32).toInt64 &&& 63)) ||| (((v47 (z4 + 2).toNatClampNeg).toInt64) &&& 4294967295)) = p
  generalize hq : v47 (z4 + 3).toNatClampNeg = q
  obtain ⟨L, hL, hLn, hL0⟩ : ∃ L : List (Nat × Nat), (∀ n k : Nat, p = lN n → isW n → q = nI k → 1 ≤ k → k ≤ 3 → roomU u (lefU n (plP S n k)) → L = cutL (plP S n k)) ∧ L.length ≤ 20 ∧ (¬ (∃ n k : Nat, p = lN n ∧ isW n ∧ q = nI k ∧ 1 ≤ k ∧ k ≤ 3 ∧ roomU u (lefU n (plP S n k))) → L = []) := by
    by_cases hv : ∃ n k : Nat, p = lN n ∧ isW n ∧ q = nI k ∧ 1 ≤ k ∧ k ≤ 3 ∧ roomU u (lefU n (plP S n k))
    · obtain ⟨n, k, e1, e2, e3, e4, e5, e6⟩ := id hv
      refine ⟨cutL (plP S n k), fun n' k' e1' e2' e3' e4' e5' e6' => ?_, ?_, fun w => absurd hv w⟩
      · have en := lNu (e1.symm.trans e1') e2 e2'
        have ek : k = k' := (neq (by omega) (by omega)).mp (e3.symm.trans e3')
        rw [en, ek]
      · have := (plP_ok S n k).2.2.1
        unfold cutL
        rw [List.length_map]
        omega
    · exact ⟨[], fun n k e1 e2 e3 e4 e5 e6 => absurd ⟨n, k, e1, e2, e3, e4, e5, e6⟩ hv, Nat.zero_le _, fun _ => rfl⟩
  have ⟨b1, b2, b3⟩ := bud_g hB hLn hc2 hN
  have same : L = [] → ∀ s_v2 s_v3 s_v4 s_v11 s_v12 s_v13 s_v14 s_v15 s_v16 s_v17 s_v19 s_v23 s_v24 s_v39 s_v40 s_v41 s_v42 s_v43 s_v44, rowIs s_v14 s_v15 [] → K (rc - (4 + 2 * L.length)) (rs - (24 + gSum R.length v45.2.1 L.length)) s_v2 s_v3 s_v4 v5 v8 v9 v10 s_v11 s_v12 s_v13 s_v14 s_v15 s_v16 s_v17 s_v19 v21 v22 s_v23 s_v24 v26 v28 v29 v30 N v32 v33 N v35 v36 N v38 s_v39 s_v40 s_v41 s_v42 s_v43 s_v44 v45 := fun eL s_v2 s_v3 s_v4 s_v11 s_v12 s_v13 s_v14 s_v15 s_v16 s_v17 s_v19 s_v23 s_v24 s_v39 s_v40 s_v41 s_v42 s_v43 s_v44 h3 => by
    subst eL
    have z0 : gSum R.length v45.2.1 ([] : List (Nat × Nat)).length = 0 := rfl
    have z1 : ([] : List (Nat × Nat)).length = 0 := rfl
    exact hK _ _ u R N _ _ _ _ _ _ _ _ _ _ _ _ _ _ _ _ _ _ _ _ _ _ _ _ _ _ _ _ _ _ _ _ _ _ _ _ _ _  (bud_s hB (by omega) (by omega)) hu h8 he9 he h3 ⟨hz, hc, hok, hN, rfl, rfl, rfl, hX⟩
  refine ⟨i1, i2, i3, 4 + 2 * L.length, 24 + gSum R.length v45.2.1 L.length, rc - (4 + 2 * L.length), rs - (24 + gSum R.length v45.2.1 L.length), ⟨by omega, by omega⟩, ?_⟩
  unfold P_L_cutToOrder
  refine ⟨4 + 2 * L.length, 24 + gSum R.length v45.2.1 L.length, 0, 0, ⟨Nat.le_refl _, Nat.le_refl _⟩, p_ccto hr hd.1 h14 hu.1 hz hc b3 hL (Nat.le_refl _) (by rw [hl]; exact Nat.le_refl _) (fun n k e1 e2 e3 e4 e5 hro c1 f1 w4 v' a b left c2 f2 c3 f3 z' g1 g2 g3 g4 g5 => ⟨in01, i1, i2, i3, 3 * L.length, dSum R.length N L.length, rc - (4 + 2 * L.length) - 3 * L.length, rs - (24 + gSum R.length v45.2.1 L.length) - dSum R.length N L.length, ⟨by omega, by omega⟩, p_xcto hr2 hd hu.2.1 hok hN hX b3 hL (Nat.le_refl _) (Nat.le_refl _) (fun n' k' e1' e2' e3' e4' e5' hro' x y v2' f8 f9 a' b' c w p' t sp co iw o pl q1 q2 q3 q4 q5 q6 => ?_) (fun n' k' e1' e2' e3' e4' e5' hro' x y sp co iw o pl => ?_) (fun hq => absurd ⟨⟨n, e1, e2⟩, ⟨k, e4, e5, e3⟩⟩ hq)⟩) (fun n k e1 e2 e3 e4 e5 hro c1 f1 w4 a b left c2 f2 c3 f3 h3 => Or.inr ⟨rfl, i1, i2, i3, 0, 0, rc - (4 + 2 * L.length), rs - (24 + gSum R.length v45.2.1 L.length), ⟨by omega, by omega⟩, ?_⟩) (fun hv => Or.inl ⟨rfl, i1, i2, i3, 0, 0, rc - (4 + 2 * L.length), rs - (24 + gSum R.length v45.2.1 L.length), ⟨by omega, by omega⟩, ?_⟩)⟩
  · have en := lNu (e1.symm.trans e1') e2 e2'
    subst en
    have ek : k = k' := (neq (by omega) (by omega)).mp (e3.symm.trans e3')
    subst ek
    rw [hl] at g4
    have hl2 := rcsL_len R L
    have eL := hL n k e1 e2 e3 e4 e5 hro
    refine fin0 (hK _ _ (fun l => u l + lefU n (plP S n k) l) (R ++ rcsL L) (dFin R.length N L.length) _ _ _ _ _ _ _ _ _ _ _ _ _ _ _ _ _ _ _ _ _ _ _ _ _ _ _ _ _ _ _ _ _ _ _ _ _ _  ?_ ⟨g1, q1, hro⟩ (by rw [h8]) (fun l a b => by rw [putF_1, q2 l a b, he9 l a b]) (fun l a b => by rw [eL, putS_cut, q3 l a b, he l a b]) g2 ⟨g3, g5, q5, q6, rfl, rfl, rfl, q4⟩)
    rw [hl2, g4]
    exact bud_n (x := 24) hB hLn hc2 hN (by omega) (by omega) (by omega)
  · have en := lNu (e1.symm.trans e1') e2 e2'
    subst en
    have ek : k = k' := (neq (by omega) (by omega)).mp (e3.symm.trans e3')
    subst ek
    exact absurd hro hro'
  · have eL : L = [] := hL0 (fun ⟨n', k', e1', e2', e3', e4', e5', hro'⟩ => by
      have en := lNu (e1.symm.trans e1') e2 e2'
      subst en
      have ek : k = k' := (neq (by omega) (by omega)).mp (e3.symm.trans e3')
      subst ek
      exact hro hro')
    refine p_xcto hr2 hd hu.2.1 hok hN hX b3 hL (by rw [eL]; exact Nat.le_refl _) (by rw [eL]; exact Nat.le_refl _) (fun n' k' e1' e2' e3' e4' e5' hro' => ?_) (fun n' k' e1' e2' e3' e4' e5' hro' x y sp co iw o pl => finX (by decide) (same eL _ _ _ _ _ _ _ _ _ _ _ _ _ _ _ _ _ _ _  h3)) (fun hq => absurd ⟨⟨n, e1, e2⟩, ⟨k, e4, e5, e3⟩⟩ hq)
    have en := lNu (e1.symm.trans e1') e2 e2'
    subst en
    have ek : k = k' := (neq (by omega) (by omega)).mp (e3.symm.trans e3')
    subst ek
    exact absurd hro' hro
  · have eL : L = [] := hL0 (fun ⟨n', k', e1', e2', e3', e4', e5', hro'⟩ => hv ⟨⟨n', e1', e2'⟩, ⟨k', e4', e5', e3'⟩⟩)
    exact p_xcto hr2 hd hu.2.1 hok hN hX b3 hL (by rw [eL]; exact Nat.le_refl _) (by rw [eL]; exact Nat.le_refl _) (fun n' k' e1' e2' e3' e4' e5' hro' => absurd ⟨⟨n', e1', e2'⟩, ⟨k', e4', e5', e3'⟩⟩ hv) (fun n' k' e1' e2' e3' e4' e5' hro' => absurd ⟨⟨n', e1', e2'⟩, ⟨k', e4', e5', e3'⟩⟩ hv) (fun _ => finX (by decide) (same eL _ _ _ _ _ _ _ _ _ _ _ _ _ _ _ _ _ _ _  h14))

