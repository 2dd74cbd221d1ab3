/-! receipts: word, price, returned (0 or 1) -/
def recZ (R : List (Nat × Nat × Nat)) (z : ZL) : Prop := (lrs z).map (fun r => r.2) = R.map (fun r => (lN r.1, nI r.2.1, nI r.2.2))
def recX (R : List (Nat × Nat × Nat)) (c : Int32) (N : Nat) (w : Nat → Int64) (p t : Nat → Int32) : Prop := c = nI R.length ∧ R.length ≤ N ∧ ∀ (i : Nat) (r : Nat × Nat × Nat), R[i]? = some r → w i = lN r.1 ∧ p i = nI r.2.1 ∧ t i = nI r.2.2
def recOK (R : List (Nat × Nat × Nat)) : Prop := (∀ r ∈ R, isW r.1 ∧ r.2.2 ≤ 1) ∧ R.length ≤ 10240
theorem rec_len {R : List (Nat × Nat × Nat)} {z : ZL} (h : recZ R z) : lln z = R.length := by
  have := congrArg List.length h
  rw [List.length_map, List.length_map] at this
  exact this
theorem rec_at {R : List (Nat × Nat × Nat)} {z : ZL} (h : recZ R z) {i : Nat} {r : Nat × Nat × Nat} (hi : R[i]? = some r) : lwd z i = lN r.1 ∧ lpr z i = nI r.2.1 ∧ lrt z i = nI r.2.2 := by
  have e : ((lrs z).map (fun r => r.2))[i]? = (R.map (fun r => (lN r.1, nI r.2.1, nI r.2.2)))[i]? := by rw [h]
  rw [List.getElem?_map, List.getElem?_map, hi] at e
  obtain ⟨a, ha, he⟩ := Option.map_eq_some_iff.mp e
  unfold lwd lpr lrt lrc
  rw [ha]
  show a.2.1 = _ ∧ a.2.2.1 = _ ∧ a.2.2.2 = _
  rw [he]
  exact ⟨rfl, rfl, rfl⟩
theorem rec_add {R : List (Nat × Nat × Nat)} {z z' : ZL} (h : recZ R z) {q w p : Nat} (ha : ladd z q (lN w) (nI p) z') : recZ (R ++ [(w, p, 0)]) z' := by
  unfold recZ at *
  rw [ha.1, List.map_append, List.map_append, h]
  rfl
theorem rec_set {R : List (Nat × Nat × Nat)} {z : ZL} (h : recZ R z) {i : Nat} {r : Nat × Nat × Nat} (hi : R[i]? = some r) : recZ (R.set i (r.1, r.2.1, 1)) (lset z i 1) := by
  have ⟨a, b, _⟩ := rec_at h hi
  unfold recZ at *
  show ((lrs z).set i (lga z i, lwd z i, lpr z i, 1)).map (fun r => r.2) = _
  rw [List.map_set, List.map_set, h, a, b]
  rfl
theorem recX_set {R : List (Nat × Nat × Nat)} {c : Int32} {N : Nat} {w : Nat → Int64} {p t : Nat → Int32} (h : recX R c N w p t) {i : Nat} {r : Nat × Nat × Nat} (hi : R[i]? = some r) : recX (R.set i (r.1, r.2.1, 1)) c N w p (upd t i 1) := by
  obtain ⟨h1, h2, h3⟩ := h
  have hil := (List.getElem?_eq_some_iff.mp hi).1
  refine ⟨by rw [List.length_set]; exact h1, by rw [List.length_set]; exact h2, fun j s hj => ?_⟩
  have ⟨a, b, c⟩ := h3 i r hi
  unfold upd
  by_cases e : j = i
  · subst e
    rw [List.getElem?_set_self hil] at hj
    have e2 := Option.some.inj hj
    rw [if_pos rfl, ← e2]
    exact ⟨a, b, rfl⟩
  · rw [List.getElem?_set_ne (fun q => e q.symm)] at hj
    rw [if_neg e]
    exact h3 j s hj
theorem recOK_set {R : List (Nat × Nat × Nat)} (h : recOK R) {i : Nat} {r : Nat × Nat × Nat} (hi : R[i]? = some r) : recOK (R.set i (r.1, r.2.1, 1)) := by
  refine ⟨fun s hs => ?_, by rw [List.length_set]; exact h.2⟩
  rcases List.mem_or_eq_of_mem_set hs with q | q
  · exact h.1 s q
  · rw [q]; exact ⟨(h.1 r (List.mem_of_getElem? hi)).1, Nat.le_refl _⟩
theorem recOK_add {R : List (Nat × Nat × Nat)} (h : recOK R) {w p : Nat} (hw : isW w) (hl : R.length < 10240) : recOK (R ++ [(w, p, 0)]) := by
  refine ⟨fun s hs => ?_, by rw [List.length_append]; exact hl⟩
  rcases List.mem_append.mp hs with q | q
  · exact h.1 s q
  · rw [List.mem_singleton.mp q]; exact ⟨hw, Nat.zero_le _⟩
/-! room for the list and for the model's rows -/
def capL (r C : Nat) : Prop := r ≤ C ∧ C ≤ 15360 ∧ (C = 0 ∨ 10 ≤ C)
def gNew (r C : Nat) : Nat := if r < C then C else lgrow C
def gCst (r C : Nat) : Nat := if r < C then 0 else lgrow C
def capX (r N : Nat) : Prop := r ≤ N ∧ 1 ≤ N ∧ N ≤ 20480
def dNew (r N : Nat) : Nat := if r = N then 2 * N else N
def dCst (r N : Nat) : Nat := if r = N then 6 * N else 0
theorem cap_lok {z : ZL} (h : capL (lln z) z.2.1) : lok z := ⟨h.1, by have := h.2.1; omega, h.2.2⟩
theorem cap_new {r C : Nat} (h : capL r C) (hr : r < 10240) : capL (r + 1) (gNew r C) := by
  obtain ⟨a, b, c⟩ := h
  unfold gNew
  by_cases e : r < C
  · rw [if_pos e]; exact ⟨e, b, c⟩
  · rw [if_neg e]
    unfold lgrow
    by_cases e0 : C = 0
    · rw [if_pos e0]
      refine ⟨?_, ?_, Or.inr ?_⟩ <;> omega
    · rw [if_neg e0]
      refine ⟨?_, ?_, Or.inr ?_⟩ <;> omega
theorem capX_new {r N : Nat} (h : capX r N) (hr : r < 10240) : capX (r + 1) (dNew r N) := by
  obtain ⟨a, b, c⟩ := h
  unfold dNew
  by_cases e : r = N
  · rw [if_pos e]; refine ⟨?_, ?_, ?_⟩ <;> omega
  · rw [if_neg e]; refine ⟨?_, ?_, ?_⟩ <;> omega
theorem p_cwrite {R : List (Nat × Nat × Nat)} {z : ZL} (hz : recZ R z) (hc : capL (lln z) z.2.1) {mc ms : Nat} (hm : 2 ≤ mc) (hs : 3 + gCst (lln z) z.2.1 ≤ ms) {n p : Nat} (hn : n < 32 ^ 12) {v0 : Int32} {v1 : Nat → Int32} {post : Int32 → (Nat → Int32) → ZL → Prop}
    (h : ∀ z', recZ (R ++ [(n, p, 0)]) z' → z'.2.1 = gNew (lln z) z.2.1 → post (v0 + nI p) (putF v1 n 1 (wlen n)) z') : P_X0_writeReceipt post mc ms (lN n) (nI p) v0 v1 z := by
  refine ⟨1, gCst (lln z) z.2.1, ⟨hm, hs⟩, fun q => ⟨1, gCst (lln z) z.2.1, 0, 0, ⟨Nat.le_refl _, Nat.le_refl _⟩, ⟨cap_lok hc, ?_⟩, fun z' ha => p_put hn (h z' (rec_add hz ha) ?_)⟩⟩
  · unfold lroom gCst
    by_cases e : lln z < z.2.1
    · exact Or.inl e
    · rw [if_neg e]; exact Or.inr ⟨Nat.le_refl _, Nat.le_refl _⟩
  · unfold gNew
    by_cases e : lln z < z.2.1
    · rw [if_pos e]; exact (ha.2.2.1 e).2
    · rw [if_neg e]; exact ha.2.2.2 e
theorem FU_b (k : Nat) (h : k < 20000) : k < FU := h
theorem nar_le {t : Nat} (h : t ≤ 1) : vp_nar .boolean (nI t) = nI t := by
  rcases (show t = 0 ∨ t = 1 by omega) with e | e <;> subst e <;> rfl
theorem nar2_le {t : Nat} (h : t ≤ 1) : narrow .boolean (.int (nI t)) = .int (nI t) := by
  rcases (show t = 0 ∨ t = 1 by omega) with e | e <;> subst e <;> rfl
theorem p_xwrL {R : List (Nat × Nat × Nat)} (hR : ∀ r ∈ R, r.2.2 ≤ 1) (hRl : R.length ≤ 10240) {z1 : Int64} {z3 : Int32} {N N' : Nat} (hN : R.length ≤ N) (hN1 : N ≤ N') (hN2 : N' ≤ 40960) {v8 : Nat → Int64} {v11 v14 : Nat → Int32} (hx : recX R (nI R.length) N v8 v11 v14) {K : (Nat → Int64) → (Nat → Int32) → (Nat → Int32) → Prop}
    (h : ∀ w p t, (∀ j : Nat, j < R.length → w j = v8 j ∧ p j = v11 j ∧ t j = v14 j) → K w p t) :
    ∀ (m i fuel : Nat) (w : Nat → Int64) (p t : Nat → Int32), i + m = R.length → m < fuel → (∀ j : Nat, j < i → w j = v8 j ∧ p j = v11 j ∧ t j = v14 j) → P_X9_write_L45 z1 z3 (nI R.length) N v8 N v11 N v14 N' N' N' K fuel (nI i) w p t := by
  intro m
  induction m with
  | zero =>
    intro i fuel w p t hi hf hj
    obtain ⟨g, rfl⟩ : ∃ g, fuel = g + 1 := ⟨fuel - 1, by omega⟩
    have e : i = R.length := by omega
    subst e
    unfold P_X9_write_L45
    exact ⟨fun _ => h w p t hj, fun q => absurd (nI_le (Nat.le_refl _) (by omega)) q⟩
  | succ m ih =>
    intro i fuel w p t hi hf hj
    obtain ⟨g, rfl⟩ : ∃ g, fuel = g + 1 := ⟨fuel - 1, by omega⟩
    have hr := List.getElem?_eq_getElem (l := R) (i := i) (by omega)
    have ht := hR _ (List.mem_of_getElem? hr)
    have e3 := (hx.2.2 i _ hr).2.2
    unfold P_X9_write_L45
    rw [nI_clamp (show i < 2 ^ 31 by omega), e3, nar_le ht, ← nI_succ]
    refine ⟨fun q => absurd q (nI_ge (by omega) (by omega)), fun _ => ⟨nI_in (by omega) (by omega), nI_in (by omega) (by omega), nI_in (by omega) (by omega), nI_in (by omega) (by omega), nI_in (by omega) (by omega), nI_in (by omega) (by omega), ?_⟩⟩
    refine ih (i + 1) g _ _ _ (by omega) (by omega) (fun j hj2 => ?_)
    unfold vp_updL upd
    by_cases e : j = i
    · subst e
      rw [if_pos rfl, if_pos rfl, if_pos rfl]
      exact ⟨rfl, rfl, e3.symm⟩
    · rw [if_neg e, if_neg e, if_neg e]
      exact hj j (by omega)
theorem recX_push {R : List (Nat × Nat × Nat)} {N N' : Nat} {v8 w : Nat → Int64} {v11 v14 p t : Nat → Int32} {c : Int32} (hx : recX R c N v8 v11 v14) (hN : R.length < N') (hj : ∀ j : Nat, j < R.length → w j = v8 j ∧ p j = v11 j ∧ t j = v14 j) (n q : Nat) : recX (R ++ [(n, q, 0)]) (nI (R.length + 1)) N' (vp_updL w R.length (lN n)) (upd p R.length (nI q)) (upd t R.length 0) := by
  have hl : (R ++ [(n, q, 0)]).length = R.length + 1 := by rw [List.length_append]; rfl
  refine ⟨by rw [hl], by rw [hl]; exact hN, fun i r hi => ?_⟩
  unfold vp_updL upd
  by_cases e : i = R.length
  · subst e
    rw [List.getElem?_append_right (Nat.le_refl _), Nat.sub_self] at hi
    have e2 : (n, q, 0) = r := Option.some.inj hi
    rw [if_pos rfl, if_pos rfl, if_pos rfl, ← e2]
    exact ⟨rfl, rfl, rfl⟩
  · have hil := (List.getElem?_eq_some_iff.mp hi).1
    rw [hl] at hil
    rw [List.getElem?_append_left (by omega)] at hi
    rw [if_neg e, if_neg e, if_neg e]
    have ⟨a, b, c⟩ := hx.2.2 i r hi
    have ⟨a', b', c'⟩ := hj i (by omega)
    rw [a', b', c']
    exact ⟨a, b, c⟩
theorem p_xwrite {R : List (Nat × Nat × Nat)} (hok : recOK R) {N : Nat} (hN : capX R.length N) (hl : R.length < 10240) {v2 : Int32} {v8 : Nat → Int64} {v11 v14 : Nat → Int32} (hx : recX R v2 N v8 v11 v14) {mc ms : Nat} (hm : 3 ≤ mc) (hs : dCst R.length N ≤ ms) {n p : Nat} {v0 v1 v3 v4 v5 : Int32} {v6 v9 v12 : Nat} {post : Int32 → Int32 → Nat → Nat → (Nat → Int64) → Nat → Nat → (Nat → Int32) → Nat → Nat → (Nat → Int32) → Prop}
    (h : ∀ (a b c : Nat) (w : Nat → Int64) (p' t : Nat → Int32), recX (R ++ [(n, p, 0)]) (nI (R.length + 1)) (dNew R.length N) w p' t → post (nI (R.length + 1)) (v3 + nI p) a (dNew R.length N) w b (dNew R.length N) p' c (dNew R.length N) t) : P_X9_write post mc ms (lN n) (nI p) v0 v1 v2 v3 v4 v5 v6 N v8 v9 N v11 v12 N v14 := by
  obtain ⟨a1, a2, a3⟩ := id hN
  have e2 := hx.1
  subst e2
  have n0 : vp_nar .boolean 0 = 0 := rfl
  have eN : (2 : Int32) * nI R.length = nI (2 * R.length) := nI_mul 2 R.length
  unfold P_X9_write
  rw [eN, nI_clamp (show 2 * R.length < 2 ^ 31 by omega), nI_clamp (show R.length < 2 ^ 31 by omega), ← nI_succ, n0]
  have hpos : ¬ nI (2 * R.length) < 0 := nI_pos (by omega)
  refine ⟨fun q => ?_, fun q => ?_⟩
  · have q' : R.length = N := (neq (by omega) (by omega)).mp q
    have d1 : dNew R.length N = 2 * R.length := by unfold dNew; rw [if_pos q', q']
    have d2 : dCst R.length N = 6 * R.length := by unfold dCst; rw [if_pos q', q']
    rw [d1] at h
    rw [d2] at hs
    rintro N1 rfl
    refine ⟨hpos, by omega, mc - 1, ms - 2 * R.length, ⟨by omega, by omega⟩, fun q2 => ?_⟩
    rintro N5 rfl
    refine ⟨hpos, by omega, mc - 2, ms - 4 * R.length, ⟨by omega, by omega⟩, fun q6 => ?_⟩
    rintro N9 rfl
    refine ⟨hpos, by omega, mc - 3, ms - 6 * R.length, ⟨by omega, by omega⟩, fun q10 => ?_⟩
    have key := p_xwrL (z1 := lN n) (z3 := nI p) (N := N) (N' := 2 * R.length) (fun r hr => (hok.1 r hr).2) hok.2 a1 (by omega) (by omega) hx (K := fun (w13 : Nat → Int64) (w14 : Nat → Int32) (w15 : Nat → Int32) => vp_in (nI R.length) (2 * R.length) ∧ vp_in (nI R.length) (2 * R.length) ∧ vp_in (nI R.length) (2 * R.length) ∧ post (nI (R.length + 1)) (v3 + nI p) q2 (2 * R.length) (vp_updL w13 R.length (lN n)) q6 (2 * R.length) (upd w14 R.length (nI p)) q10 (2 * R.length) (upd w15 R.length 0))
      (fun w p' t hj => ⟨nI_in (by omega) (by omega), nI_in (by omega) (by omega), nI_in (by omega) (by omega), h _ _ _ _ _ _ (recX_push hx (by omega) hj n p)⟩) R.length 0 FU (fun _ => 0) (fun _ => 0) (fun _ => 0) (Nat.zero_add _) (FU_b _ (by omega)) (fun j hj => absurd hj (Nat.not_lt_zero j))
    rw [nI_0] at key
    exact key
  · have q' : R.length ≠ N := fun e => q (by rw [e]; rfl)
    have d1 : dNew R.length N = N := by unfold dNew; rw [if_neg q']
    rw [d1] at h
    exact ⟨nI_in (by omega) (by omega), nI_in (by omega) (by omega), nI_in (by omega) (by omega), h _ _ _ _ _ _ (recX_push hx (by omega) (fun j _ => ⟨rfl, rfl, rfl⟩) n p)⟩
/-! asked by number -/
theorem p_creq {R : List (Nat × Nat × Nat)} {z : ZL} (hz : recZ R z) (hc : capL (lln z) z.2.1) (hok : recOK R) {p v0 : Int32} {post : Nat → Prop} {postX : String → Prop} (h1 : ∀ (j : Nat) (r : Nat × Nat × Nat), p = nI j → R[j]? = some r → post j) (h0 : (∀ j : Nat, j < R.length → p ≠ nI j) → postX sIOB) : P_X8_requireReceipt post postX p v0 z := by
  have hl := rec_len hz
  have hb := hok.2
  unfold P_X8_requireReceipt
  have es : lsz z = nI R.length := by unfold lsz; rw [hl]
  rw [es]
  rcases pk_ix p (n := R.length) (by omega) with q | q | ⟨j, hj, rfl⟩
  · exact ⟨fun _ => h0 fun j hj e => nI_pos (n := j) (by omega) (by rw [← e]; exact q), fun c => absurd q c⟩
  · have hno : ∀ j : Nat, j < R.length → p ≠ nI j := fun j hj e => nI_ge hj (by omega) (by rw [← e]; exact q)
    exact ⟨fun _ => h0 hno, fun _ => ⟨fun c => absurd q (by rw [Int32.not_le]; exact c), fun _ => h0 hno⟩⟩
  · refine ⟨fun c => absurd c (nI_pos (by omega)), fun _ => ⟨fun _ => ⟨⟨⟨?_, hc.1⟩, by omega⟩, ?_⟩, fun c => absurd (nI_lt hj (by omega)) c⟩⟩
    · rw [hl]; exact nI_in hj (by omega)
    · rw [nI_clamp (by omega)]
      exact h1 j _ rfl (List.getElem?_eq_getElem hj)
theorem p_xreq {R : List (Nat × Nat × Nat)} (hok : recOK R) {p v0 v1 v3 v4 v5 : Int32} {post : Int32 → Int32 → Prop} (h1 : ∀ (j : Nat) (r : Nat × Nat × Nat), p = nI j → R[j]? = some r → post 1 0) (h0 : (∀ j : Nat, j < R.length → p ≠ nI j) → post 0 1) : P_X9_isReceipt post p v0 v1 (nI R.length) v3 v4 v5 := by
  have hb := hok.2
  unfold P_X9_isReceipt P_X9_isWithin
  rcases pk_ix p (n := R.length) (by omega) with q | q | ⟨j, hj, rfl⟩
  · exact ⟨fun _ => p_good0 ⟨rfl, h0 fun j hj e => nI_pos (n := j) (by omega) (by rw [← e]; exact q)⟩, fun c => absurd q c⟩
  · have hno : ∀ j : Nat, j < R.length → p ≠ nI j := fun j hj e => nI_ge hj (by omega) (by rw [← e]; exact q)
    refine ⟨fun _ => p_good0 ⟨rfl, h0 hno⟩, fun c => ⟨fun _ => p_good0 ⟨rfl, h0 hno⟩, fun c2 => absurd ?_ c2⟩⟩
    have q' := Int32.le_iff_toInt_le.mp q
    rw [nI_toInt (by omega)] at q'
    rw [Int32.lt_iff_toInt_lt]
    by_cases e : R.length = 0
    · rw [e, show nI 0 - 1 = -1 by decide, show (-1 : Int32).toInt = -1 by decide]
      omega
    · obtain ⟨k, hk⟩ : ∃ k, R.length = k + 1 := ⟨R.length - 1, by omega⟩
      rw [hk, nI_pred, nI_toInt (by omega)]
      omega
  · obtain ⟨k, hk⟩ : ∃ k, R.length = k + 1 := ⟨R.length - 1, by omega⟩
    refine ⟨fun c => absurd c (nI_pos (by omega)), fun _ => ⟨fun c => absurd c ?_, fun _ => p_good1 ⟨rfl, h1 j _ rfl (List.getElem?_eq_getElem hj)⟩⟩⟩
    rw [hk, nI_pred]
    exact nI_nlt (by omega) (by omega)
section RR
variable {R : List (Nat × Nat × Nat)}
theorem p_crw {z : ZL} (hz : recZ R z) (hc : capL (lln z) z.2.1) (hok : recOK R) {p v0 : Int32} {post : Int64 → Prop} {postX : String → Prop} (h1 : ∀ (j : Nat) (r : Nat × Nat × Nat), p = nI j → R[j]? = some r → post (lN r.1)) (h0 : (∀ j : Nat, j < R.length → p ≠ nI j) → postX sIOB) : P_X8_receiptWord post postX p v0 z :=
  p_creq hz hc hok (fun j r e hr => by
    show post (lwd z j)
    rw [(rec_at hz hr).1]; exact h1 j r e hr) h0
theorem p_crp {z : ZL} (hz : recZ R z) (hc : capL (lln z) z.2.1) (hok : recOK R) {p v0 : Int32} {post : Int32 → Prop} {postX : String → Prop} (h1 : ∀ (j : Nat) (r : Nat × Nat × Nat), p = nI j → R[j]? = some r → post (nI r.2.1)) (h0 : (∀ j : Nat, j < R.length → p ≠ nI j) → postX sIOB) : P_X8_receiptPrice post postX p v0 z :=
  p_creq hz hc hok (fun j r e hr => by
    show post (lpr z j)
    rw [(rec_at hz hr).2.1]; exact h1 j r e hr) h0
theorem p_crt {z : ZL} (hz : recZ R z) (hc : capL (lln z) z.2.1) (hok : recOK R) {p v0 : Int32} {post : Int32 → Prop} {postX : String → Prop} (h1 : ∀ (j : Nat) (r : Nat × Nat × Nat), p = nI j → R[j]? = some r → post (nI r.2.2)) (h0 : (∀ j : Nat, j < R.length → p ≠ nI j) → postX sIOB) : P_X8_isReturned post postX p v0 z :=
  p_creq hz hc hok (fun j r e hr => by
    show narrow .boolean (.int (lrt z j)) = .int (lrt z j) ∧ post (lrt z j)
    rw [(rec_at hz hr).2.2]
    exact ⟨nar2_le (hok.1 r (List.mem_of_getElem? hr)).2, h1 j r e hr⟩) h0
variable {N : Nat} {v2 : Int32} {w : Nat → Int64} {pr t : Nat → Int32}
theorem p_xrw (hx : recX R v2 N w pr t) (hN : capX R.length N) (hok : recOK R) {p v0 v1 v3 v4 v5 : Int32} {v6 : Nat} {post : Int64 → Int32 → Prop} (h1 : ∀ (j : Nat) (r : Nat × Nat × Nat), p = nI j → R[j]? = some r → post (lN r.1) 0) (h0 : (∀ j : Nat, j < R.length → p ≠ nI j) → post 0 1) : P_X9_receiptWord post p v0 v1 v2 v3 v4 v5 v6 N w := by
  have e2 := hx.1
  subst e2
  have hb := hN.2.2
  refine p_xreq hok (fun j r e hr => ⟨fun q => absurd q (by decide), fun _ => ?_⟩) (fun hno => ⟨fun _ => h0 hno, fun q => absurd rfl q⟩)
  have hjl := (List.getElem?_eq_some_iff.mp hr).1
  have hn1 := hN.1
  subst e
  rw [nI_clamp (show j < 2 ^ 31 by omega), (hx.2.2 j r hr).1]
  exact ⟨nI_in (by omega) (by omega), h1 j r rfl hr⟩
theorem p_xrp (hx : recX R v2 N w pr t) (hN : capX R.length N) (hok : recOK R) {p v0 v1 v3 v4 v5 : Int32} {v6 : Nat} {post : Int32 → Int32 → Prop} (h1 : ∀ (j : Nat) (r : Nat × Nat × Nat), p = nI j → R[j]? = some r → post (nI r.2.1) 0) (h0 : (∀ j : Nat, j < R.length → p ≠ nI j) → post 0 1) : P_X9_receiptPrice post p v0 v1 v2 v3 v4 v5 v6 N pr := by
  have e2 := hx.1
  subst e2
  have hb := hN.2.2
  refine p_xreq hok (fun j r e hr => ⟨fun q => absurd q (by decide), fun _ => ?_⟩) (fun hno => ⟨fun _ => h0 hno, fun q => absurd rfl q⟩)
  have hjl := (List.getElem?_eq_some_iff.mp hr).1
  have hn1 := hN.1
  subst e
  rw [nI_clamp (show j < 2 ^ 31 by omega), (hx.2.2 j r hr).2.1]
  exact ⟨nI_in (by omega) (by omega), h1 j r rfl hr⟩
theorem p_xrt (hx : recX R v2 N w pr t) (hN : capX R.length N) (hok : recOK R) {p v0 v1 v3 v4 v5 : Int32} {v6 : Nat} {post : Int32 → Int32 → Prop} (h1 : ∀ (j : Nat) (r : Nat × Nat × Nat), p = nI j → R[j]? = some r → post (nI r.2.2) 0) (h0 : (∀ j : Nat, j < R.length → p ≠ nI j) → post 0 1) : P_X9_isReturned post p v0 v1 v2 v3 v4 v5 v6 N t := by
  have e2 := hx.1
  subst e2
  have hb := hN.2.2
  refine p_xreq hok (fun j r e hr => ⟨fun q => absurd q (by decide), fun _ => ?_⟩) (fun hno => ⟨fun _ => h0 hno, fun q => absurd rfl q⟩)
  have hjl := (List.getElem?_eq_some_iff.mp hr).1
  have hn1 := hN.1
  subst e
  have ht := (hok.1 r (List.mem_of_getElem? hr)).2
  rw [nI_clamp (show j < 2 ^ 31 by omega), (hx.2.2 j r hr).2.2]
  have k := h1 j r rfl hr
  rcases (show r.2.2 = 0 ∨ r.2.2 = 1 by omega) with e | e
  · rw [e] at k ⊢
    exact ⟨nI_in (by omega) (by omega), fun _ => k, fun q => absurd rfl q⟩
  · rw [e] at k ⊢
    exact ⟨nI_in (by omega) (by omega), fun q => absurd q (by decide), fun _ => k⟩
end RR
