/-! sales one after another -/
theorem best_ex {u b : Nat → Nat} {B : Nat} : ∀ L : List Nat, (∀ m ∈ L, isW m) → ∃ x : Nat, isBest u b (fun m => m ∈ L ∧ selB u b B m = true) x
  | [], _ => ⟨0, Or.inl ⟨rfl, fun m h => absurd h.1 List.not_mem_nil⟩⟩
  | y :: L, hL => by
    obtain ⟨x, hx⟩ := best_ex (u := u) (b := b) (B := B) L fun m hm => hL m (List.mem_cons_of_mem _ hm)
    by_cases hs : selB u b B y = true
    · have hy : isW y := hL y List.mem_cons_self
      rcases hx with ⟨e, h⟩ | ⟨h1, h2⟩
      · refine ⟨y, Or.inr ⟨⟨List.mem_cons_self, hs⟩, fun m hm => ?_⟩⟩
        rcases List.mem_cons.mp hm.1 with q | q
        · exact Or.inl q
        · exact absurd ⟨q, hm.2⟩ (h m)
      · by_cases hb : bett u b y x
        · refine ⟨y, Or.inr ⟨⟨List.mem_cons_self, hs⟩, fun m hm => ?_⟩⟩
          rcases List.mem_cons.mp hm.1 with q | q
          · exact Or.inl q
          · rcases h2 m ⟨q, hm.2⟩ with z | z
            · rw [z]; exact Or.inr hb
            · exact Or.inr (bett_tr hb z)
        · refine ⟨x, Or.inr ⟨⟨List.mem_cons_of_mem _ h1.1, h1.2⟩, fun m hm => ?_⟩⟩
          rcases List.mem_cons.mp hm.1 with q | q
          · rw [q]; exact bett_tot (hL x (List.mem_cons_of_mem _ h1.1)) hy hb
          · exact h2 m ⟨q, hm.2⟩
    · refine ⟨x, ?_⟩
      have hA : ∀ m, (m ∈ y :: L ∧ selB u b B m = true) ↔ (m ∈ L ∧ selB u b B m = true) := fun m => by
        constructor
        · rintro ⟨p, q⟩
          rcases List.mem_cons.mp p with z | z
          · rw [z] at q; exact absurd q hs
          · exact ⟨z, q⟩
        · rintro ⟨p, q⟩
          exact ⟨List.mem_cons_of_mem _ p, q⟩
      rcases hx with ⟨e, h⟩ | ⟨h1, h2⟩
      · exact Or.inl ⟨e, fun m hm => h m ((hA m).mp hm)⟩
      · exact Or.inr ⟨(hA x).mpr h1, fun m hm => h2 m ((hA m).mp hm)⟩
/-- the sales of a spend: word and price -/
def spR (S : List Nat) (b : Nat → Nat) : Nat → Nat → (Nat → Nat) → List (Nat × Nat) → Prop
  | 0, _, _, L => L = []
  | k + 1, B, u, L => ∃ x : Nat, isBest u b (fun m => m ∈ S ∧ selB u b B m = true) x ∧ ((x = 0 ∧ L = []) ∨ (x ≠ 0 ∧ ∃ L' : List (Nat × Nat), L = (x, costN x u b) :: L' ∧ spR S b k (B - costN x u b) (subU u x) L'))
theorem best_sel {S : List Nat} {u b : Nat → Nat} {B x : Nat} (h : isBest u b (fun m => m ∈ S ∧ selB u b B m = true) x) (h0 : x ≠ 0) : x ∈ S ∧ okU u x (wlen x) ∧ costN x u b ≤ B := by
  rcases h with ⟨e, -⟩ | ⟨⟨h1, h2⟩, -⟩
  · exact absurd e h0
  · refine ⟨h1, sel_ok h2, ?_⟩
    unfold selB at h2
    exact of_decide_eq_true (Bool.and_eq_true_iff.mp h2).2
theorem spR_ex {S : List Nat} (hS : ∀ m ∈ S, isW m) {b : Nat → Nat} : ∀ (k B : Nat) (u : Nat → Nat), ∃ L : List (Nat × Nat), spR S b k B u L ∧ L.length ≤ k ∧ ∀ e ∈ L, isW e.1
  | 0, _, _ => ⟨[], rfl, Nat.le_refl _, fun e he => absurd he List.not_mem_nil⟩
  | k + 1, B, u => by
    obtain ⟨x, hx⟩ := best_ex (u := u) (b := b) (B := B) S hS
    by_cases e : x = 0
    · exact ⟨[], ⟨x, hx, Or.inl ⟨e, rfl⟩⟩, Nat.zero_le _, fun e he => absurd he List.not_mem_nil⟩
    · obtain ⟨L, h1, h2, h3⟩ := spR_ex hS k (B - costN x u b) (subU u x) (b := b)
      refine ⟨(x, costN x u b) :: L, ⟨x, hx, Or.inr ⟨e, L, rfl, h1⟩⟩, by rw [List.length_cons]; omega, fun d hd => ?_⟩
      rcases List.mem_cons.mp hd with q | q
      · rw [q]; exact hS x (best_sel hx e).1
      · exact h3 d q
def ufin (u : Nat → Nat) (L : List (Nat × Nat)) : Nat → Nat := L.foldl (fun u e => subU u e.1) u
def balI (v : Int32) (L : List (Nat × Nat)) : Int32 := L.foldl (fun a e => a + nI e.2) v
def putS (v : Nat → Int32) (L : List (Nat × Nat)) : Nat → Int32 := L.foldl (fun f e => putF f e.1 1 (wlen e.1)) v
def sldS (v : Nat → Int32) (L : List (Nat × Nat)) : Nat → Int32 := L.foldl (fun f e => addR f e.1 (wlen e.1)) v
def rcsL (L : List (Nat × Nat)) : List (Nat × Nat × Nat) := L.map (fun e => (e.1, e.2, 0))
def gSum (r C : Nat) : Nat → Nat
  | 0 => 0
  | k + 1 => 3 + gCst r C + gSum (r + 1) (gNew r C) k
def gFin (r C : Nat) : Nat → Nat
  | 0 => C
  | k + 1 => gFin (r + 1) (gNew r C) k
def dSum (r N : Nat) : Nat → Nat
  | 0 => 0
  | k + 1 => dCst r N + dSum (r + 1) (dNew r N) k
def dFin (r N : Nat) : Nat → Nat
  | 0 => N
  | k + 1 => dFin (r + 1) (dNew r N) k
theorem rcs_cons (R : List (Nat × Nat × Nat)) (x p : Nat) (L : List (Nat × Nat)) : R ++ [(x, p, 0)] ++ rcsL L = R ++ rcsL ((x, p) :: L) := by
  rw [List.append_assoc]; rfl
theorem rcs_len (R : List (Nat × Nat × Nat)) (x p : Nat) : (R ++ [(x, p, 0)]).length = R.length + 1 := by rw [List.length_append]; rfl
section SP
variable {S : List Nat} {b : Nat → Nat}
theorem p_cspL {c : Int32} {f : Nat → Int64} (hr : rowIs c f S) (hd : dicS S) {v3 v4 : Nat → Int32} (hb : isB v3 b) (ht : isWt v4) {K39 K57 : Nat → Nat → Int32 → (Nat → Int32) → Int32 → (Nat → Int32) → ZL → Prop} :
    ∀ (k i fuel B : Nat) (u : Nat → Nat) (L : List (Nat × Nat)) (R : List (Nat × Nat × Nat)) (z : ZL) (v v6 : Nat → Int32) (v5 : Int32) (rc rs : Nat), i + k = 20 → k < fuel → B < 2 ^ 31 → spR S b k B u L → isU v u → recZ R z → capL (lln z) z.2.1 → R.length + k ≤ 10240 → 2 * L.length ≤ rc → gSum (lln z) z.2.1 L.length ≤ rs →
    (∀ (rc rs : Nat) v' z', isU v' (ufin u L) → recZ (R ++ rcsL L) z' → z'.2.1 = gFin (lln z) z.2.1 L.length → capL (lln z') z'.2.1 → K39 rc rs (nI (i + L.length)) v' (balI v5 L) (putS v6 L) z' ∧ K57 rc rs (nI (i + L.length)) v' (balI v5 L) (putS v6 L) z') →
    P_X8_spend_L8 c f v3 v4 K39 K57 fuel rc rs (nI B) (nI i) v v5 v6 z := by
  intro k
  induction k with
  | zero =>
    intro i fuel B u L R z v v6 v5 rc rs hi hf hB hL hu hz hc hR hrc hrs h
    obtain ⟨g, rfl⟩ : ∃ g, fuel = g + 1 := ⟨fuel - 1, by omega⟩
    have e : i = 20 := by omega
    have e2 : L = [] := hL
    subst e e2
    unfold P_X8_spend_L8
    refine ⟨fun _ => (h rc rs v z hu ?_ rfl hc).2, fun q => absurd (nI_le (a := 20) (b := 20) (by omega) (by omega)) q⟩
    show recZ (R ++ []) z
    rw [List.append_nil]; exact hz
  | succ k ih =>
    intro i fuel B u L R z v v6 v5 rc rs hi hf hB hL hu hz hc hR hrc hrs h
    obtain ⟨g, rfl⟩ : ∃ g, fuel = g + 1 := ⟨fuel - 1, by omega⟩
    have hlz := rec_len hz
    have es : lsz z = nI R.length := by unfold lsz; rw [hlz]
    obtain ⟨y, hy, hyL⟩ := hL
    unfold P_X8_spend_L8 P_X0_hasRoomFor
    rw [es, ← nI_succ, ← nI_succ]
    refine ⟨fun q => absurd q (nI_ge (b := 20) (by omega) (by omega)), fun _ => ⟨fun q => absurd ((nlt (a := 10240) (by omega) (by omega)).mp q) (by omega), fun _ => ⟨fun q => absurd q (by decide), fun _ => p_best hB hr hd hu hb ht (fun x hx => ?_)⟩⟩⟩
    have exy := best_one hx hy
    subst exy
    rcases hyL with ⟨e, e2⟩ | ⟨e, L', e2, hL'⟩
    · subst e2
      refine ⟨fun _ => (h rc rs v z hu ?_ rfl hc).1, fun q => absurd (show lN x = 0 by rw [e]; rfl) q⟩
      show recZ (R ++ []) z
      rw [List.append_nil]; exact hz
    · subst e2
      have ⟨hxS, hok, hcB⟩ := best_sel hx e
      have hwx := hd.1 x hxS
      have hlt : x < 2 ^ 63 := Nat.lt_trans hwx.2.1 (by decide)
      rw [List.length_cons] at hrc hrs
      have hs2 : 3 + gCst (lln z) z.2.1 + gSum (lln z + 1) (gNew (lln z) z.2.1) L'.length ≤ rs := hrs
      refine ⟨fun q => absurd ((lN_ne0 hlt).mp q) e, fun _ => ⟨2, 3 + gCst (lln z) z.2.1, rc - 2, rs - (3 + gCst (lln z) z.2.1), ⟨by omega, by omega⟩, ?_⟩⟩
      refine p_hand hz hc hwx hu hb ht hok (Nat.le_refl _) (Nat.le_refl _) (fun v' z' hu' hz' hc' y16 hy16 => ?_)
      rw [hy16, nI_sub hcB]
      have hl2 : lln z' = lln z + 1 := by rw [rec_len hz', rcs_len, hlz]
      have hcap : capL (lln z') z'.2.1 := by rw [hl2, hc']; exact cap_new hc (by omega)
      refine ih (i + 1) g (B - costN x u b) (subU u x) L' _ z' v' _ _ _ _ (by omega) (by omega) (by omega) hL' hu' hz' hcap (by rw [rcs_len]; omega) (by omega) (by rw [hl2, hc']; omega) (fun rc rs v'' z'' h1 h2 h3 h4 => ?_)
      rw [hl2, hc'] at h3
      rw [rcs_cons] at h2
      have key := h rc rs v'' z'' h1 h2 h3 h4
      rw [List.length_cons, show i + (L'.length + 1) = i + 1 + L'.length by omega] at key
      exact key
theorem p_cspend {c : Int32} {f : Nat → Int64} (hr : rowIs c f S) (hd : dicS S) {v v3 v4 : Nat → Int32} {u : Nat → Nat} (hu : isU v u) (hb : isB v3 b) (ht : isWt v4) {R : List (Nat × Nat × Nat)} {z : ZL} (hz : recZ R z) (hc : capL (lln z) z.2.1) (hR : R.length + 20 ≤ 10240) {p v5 : Int32} {v6 : Nat → Int32} {L : List (Nat × Nat)} (hL : ∀ B : Nat, p = nI B → B ≤ 99999 → spR S b 20 B u L) {mc ms : Nat} (hm : 1 + 2 * L.length ≤ mc) (hs : 6 + gSum (lln z) z.2.1 L.length ≤ ms) {post : Int32 → (Nat → Int32) → Int32 → (Nat → Int32) → ZL → Prop} {postX : String → (Nat → Int32) → Int32 → (Nat → Int32) → ZL → Prop}
    (h1 : inR p 0 99999 → ∀ v' z', isU v' (ufin u L) → recZ (R ++ rcsL L) z' → z'.2.1 = gFin (lln z) z.2.1 L.length → capL (lln z') z'.2.1 → post (nI L.length) v' (balI v5 L) (putS v6 L) z') (hi : ¬ inR p 0 99999 → postX sIAE v v5 v6 z) : P_X8_spend post postX mc ms p c f v v3 v4 v5 v6 z := by
  refine ⟨mc - 1, ms - 6, ⟨by omega, by omega⟩, p_reqBudget (fun hp => ?_) hi⟩
  obtain ⟨B, -, hB, rfl⟩ := hp
  have key := p_cspL hr hd hb ht (K39 := fun (mc24 : Nat) (ms25 : Nat) (x17 : Int32) (w18 : Nat → Int32) (w19 : Int32) (w20 : Nat → Int32) (w21 : ZL) => post x17 w18 w19 w20 w21) (K57 := fun (mc33 : Nat) (ms34 : Nat) (x26 : Int32) (w27 : Nat → Int32) (w28 : Int32) (w29 : Nat → Int32) (w30 : ZL) => post x26 w27 w28 w29 w30) 20 0 FU B u L R z v v6 v5 (mc - 1) (ms - 6) rfl (FU_s _ (by omega)) (by omega) (hL B rfl hB) hu hz hc hR (by omega) (by omega)
    (fun rc rs v' z' a1 a2 a3 a4 => by
      rw [Nat.zero_add]
      have k := h1 ⟨B, Nat.zero_le _, hB, rfl⟩ v' z' a1 a2 a3 a4
      exact ⟨k, k⟩)
  rw [nI_0] at key
  exact key
theorem p_xspdL {v1 : Int32} {v6 : Nat → Int64} {M : List Nat} (hr : rowIs v1 v6 M) (hd : dRel S M) {v8 : Nat → Int32} (hb : isB v8 b) {v0 v5 : Int32} {K : Nat → Nat → Int32 → Int32 → Int32 → Int32 → (Nat → Int32) → (Nat → Int32) → Nat → Nat → (Nat → Int64) → Nat → Nat → (Nat → Int32) → Nat → Nat → (Nat → Int32) → (Nat → Int32) → (Nat → Int32) → (Nat → Int32) → Prop} :
    ∀ (k i fuel B x : Nat) (u : Nat → Nat) (L : List (Nat × Nat)) (R : List (Nat × Nat × Nat)) (N rc rs : Nat) (v2 v3 v4 : Int32) (v7 v9 : Nat → Int32) (v10 : Nat) (v12 : Nat → Int64) (v13 : Nat) (v15 : Nat → Int32) (v16 : Nat) (v18 v19 v20 v21 : Nat → Int32), i + k = 20 → k < fuel → B < 2 ^ 31 → spR S b k B u L → isBest u b (fun m => m ∈ S ∧ selB u b B m = true) x → isU v7 u → recOK R → capX R.length N → recX R v2 N v12 v15 v18 → R.length + k ≤ 10240 → 3 * L.length ≤ rc → dSum R.length N L.length ≤ rs →
    (∀ (rc rs : Nat) v' x a b' c w p' t sp co iw, isU v' (ufin u L) → recX (R ++ rcsL L) (nI (R ++ rcsL L).length) (dFin R.length N L.length) w p' t → recOK (R ++ rcsL L) → capX (R ++ rcsL L).length (dFin R.length N L.length) → K rc rs (nI (i + L.length)) (nI (R ++ rcsL L).length) (balI v3 L) x v' (sldS v9 L) a (dFin R.length N L.length) w b' (dFin R.length N L.length) p' c (dFin R.length N L.length) t sp co iw) →
    P_X9_spend_L25 v0 v1 v5 v6 v8 K fuel rc rs (nI i) (nI B) (lN x) v2 v3 v4 v7 v9 v10 N v12 v13 N v15 v16 N v18 v19 v20 v21 := by
  intro k
  induction k with
  | zero =>
    intro i fuel B x u L R N rc rs v2 v3 v4 v7 v9 v10 v12 v13 v15 v16 v18 v19 v20 v21 hi hf hB hL hx hu hok hN hX hR hrc hrs h
    obtain ⟨g, rfl⟩ : ∃ g, fuel = g + 1 := ⟨fuel - 1, by omega⟩
    have e : i = 20 := by omega
    have e2 : L = [] := hL
    subst e e2
    have e3 := hX.1
    subst e3
    have hk : ∀ x, K rc rs (nI 20) (nI R.length) v3 x v7 v9 v10 N v12 v13 N v15 v16 N v18 v19 v20 v21 := fun x => by
      have en : R ++ rcsL [] = R := List.append_nil R
      have key := h rc rs v7 x v10 v13 v16 v12 v15 v18 v19 v20 v21 hu
      rw [en] at key
      exact key hX hok hN
    unfold P_X9_spend_L25
    exact ⟨fun _ => hk _, fun _ => ⟨fun _ => hk _, fun q => absurd (nI_le (a := 20) (b := 20) (by omega) (by omega)) q⟩⟩
  | succ k ih =>
    intro i fuel B x u L R N rc rs v2 v3 v4 v7 v9 v10 v12 v13 v15 v16 v18 v19 v20 v21 hi hf hB hL hx hu hok hN hX hR hrc hrs h
    obtain ⟨g, rfl⟩ : ∃ g, fuel = g + 1 := ⟨fuel - 1, by omega⟩
    obtain ⟨y, hy, hyL⟩ := hL
    have exy := best_one hx hy
    subst exy
    have e3 := hX.1
    subst e3
    unfold P_X9_spend_L25
    rw [← nI_succ]
    rcases hyL with ⟨e, e2⟩ | ⟨e, L', e2, hL'⟩
    · subst e2
      refine ⟨fun _ => ?_, fun q => absurd (show lN x = 0 by rw [e]; rfl) q⟩
      have en : R ++ rcsL [] = R := List.append_nil R
      have key := h rc rs v7 v4 v10 v13 v16 v12 v15 v18 v19 v20 v21 hu
      rw [en] at key
      exact key hX hok hN
    · subst e2
      have ⟨hxS, hokx, hcB⟩ := best_sel hx e
      have hwx := hd.1.1 x hxS
      have hlt : x < 2 ^ 63 := Nat.lt_trans hwx.2.1 (by decide)
      rw [List.length_cons] at hrc hrs
      have hs2 : dCst R.length N + dSum (R.length + 1) (dNew R.length N) L'.length ≤ rs := hrs
      refine ⟨fun q => absurd ((lN_ne0 hlt).mp q) e, fun _ => ⟨fun q => absurd q (nI_ge (b := 20) (by omega) (by omega)), fun _ => ⟨3, dCst R.length N, rc - 3, rs - dCst R.length N, ⟨by omega, by omega⟩, ?_⟩⟩⟩
      refine p_xsell hok hN (by omega) hX hwx hu hb hokx (Nat.le_refl _) (Nat.le_refl _) (fun v' x1 a b' c w p' t sp co iw hu' hX' y31 hy31 => ?_)
      rw [hy31, nI_sub hcB]
      refine p_xbest (by omega) hr hd hu' hb (fun x2 hx2 x3 sp2 co2 iw2 => ?_)
      have hl2 := rcs_len R x (costN x u b)
      refine ih (i + 1) g (B - costN x u b) x2 (subU u x) L' (R ++ [(x, costN x u b, 0)]) (dNew R.length N) _ _ _ _ _ _ _ _ _ _ _ _ _ _ _ _ (by omega) (by omega) (by omega) hL' hx2 hu' (recOK_add hok hwx (by omega)) (by rw [hl2]; exact capX_new hN (by omega)) hX' (by rw [hl2]; omega) (by omega) (by rw [hl2]; omega) ?_
      intro rc' rs' v'' x4 a4 b4 c4 w4 p4 t4 sp4 co4 iw4 q1 q2 q3 q4
      rw [rcs_cons] at q2 q3 q4 ⊢
      rw [hl2] at q2 q4 ⊢
      have key := h rc' rs' v'' x4 a4 b4 c4 w4 p4 t4 sp4 co4 iw4 q1 q2 q3 q4
      rw [List.length_cons, show i + (L'.length + 1) = i + 1 + L'.length by omega] at key
      exact key
theorem p_xspend {v1 : Int32} {v6 : Nat → Int64} {M : List Nat} (hr : rowIs v1 v6 M) (hd : dRel S M) {v7 v8 v9 v18 v19 v20 v21 : Nat → Int32} {u : Nat → Nat} (hu : isU v7 u) (hb : isB v8 b) {R : List (Nat × Nat × Nat)} (hok : recOK R) {N : Nat} (hN : capX R.length N) {v2 : Int32} {v12 : Nat → Int64} {v15 : Nat → Int32} (hX : recX R v2 N v12 v15 v18) (hR : R.length + 20 ≤ 10240) {p v0 v3 v4 v5 : Int32} {v10 v13 v16 : Nat} {L : List (Nat × Nat)} (hL : ∀ B : Nat, p = nI B → B ≤ 99999 → spR S b 20 B u L) {mc ms : Nat} (hm : 3 * L.length ≤ mc) (hs : dSum R.length N L.length ≤ ms) {post : Int32 → Int32 → Int32 → Int32 → Int32 → (Nat → Int32) → (Nat → Int32) → Nat → Nat → (Nat → Int64) → Nat → Nat → (Nat → Int32) → Nat → Nat → (Nat → Int32) → (Nat → Int32) → (Nat → Int32) → (Nat → Int32) → Prop}
    (h1 : inR p 0 99999 → ∀ v' x a b' c w p' t sp co iw, isU v' (ufin u L) → recX (R ++ rcsL L) (nI (R ++ rcsL L).length) (dFin R.length N L.length) w p' t → recOK (R ++ rcsL L) → capX (R ++ rcsL L).length (dFin R.length N L.length) → post (nI L.length) 0 (nI (R ++ rcsL L).length) (balI v3 L) x v' (sldS v9 L) a (dFin R.length N L.length) w b' (dFin R.length N L.length) p' c (dFin R.length N L.length) t sp co iw)
    (hi : ¬ inR p 0 99999 → post 0 1 v2 v3 v4 v7 v9 v10 N v12 v13 N v15 v16 N v18 v19 v20 v21) : P_X9_spend post mc ms p v0 v1 v2 v3 v4 v5 v6 v7 v8 v9 v10 N v12 v13 N v15 v16 N v18 v19 v20 v21 := by
  refine p_xbudget (fun hp => p_good1 ⟨fun q => absurd q (by decide), fun _ => ?_⟩) (fun hp => p_good0 ⟨fun _ => hi hp, fun q => absurd rfl q⟩)
  obtain ⟨B, -, hB, rfl⟩ := hp
  refine p_xbest (by omega) hr hd hu hb (fun x hx x4 sp co iw => ?_)
  have key := p_xspdL hr hd hb (v0 := 0) (v5 := v5) (K := fun (mc57 : Nat) (ms58 : Nat) (x37 : Int32) (w38 : Int32) (w39 : Int32) (w40 : Int32) (w41 : Nat → Int32) (w42 : Nat → Int32) (w43 : Nat) (w44 : Nat) (w45 : Nat → Int64) (w46 : Nat) (w47 : Nat) (w48 : Nat → Int32) (w49 : Nat) (w50 : Nat) (w51 : Nat → Int32) (w52 : Nat → Int32) (w53 : Nat → Int32) (w54 : Nat → Int32) => post x37 0 w38 w39 w40 w41 w42 w43 w44 w45 w46 w47 w48 w49 w50 w51 w52 w53 w54) 20 0 FU B x u L R N mc ms v2 v3 x4 v7 v9 v10 v12 v13 v15 v16 v18 sp co iw rfl (FU_s _ (by omega)) (by omega) (hL B rfl hB) hx hu hok hN hX hR hm hs
    (fun rc rs v' x a b' c w p' t sp co iw q1 q2 q3 q4 => by
      rw [Nat.zero_add]
      exact h1 ⟨B, Nat.zero_le _, hB, rfl⟩ v' x a b' c w p' t sp co iw q1 q2 q3 q4)
  rw [nI_0] at key
  exact key
/-! sell -/
def selOK (S : List Nat) (u b : Nat → Nat) (p : Int64) (z : Int32) : Prop := ∃ n B : Nat, p = lN n ∧ isW n ∧ z = nI B ∧ B ≤ 99999 ∧ refN S u b B n = 0
theorem p_csellN {c : Int32} {f : Nat → Int64} (hr : rowIs c f S) (hd : dicS S) {v v3 v4 : Nat → Int32} {u : Nat → Nat} (hu : isU v u) (hb : isB v3 b) (ht : isWt v4) {p : Int64} {z v5 : Int32} {v6 : Nat → Int32} {v7 : ZL} {mc ms : Nat} (hm : 5 ≤ mc) (hs : 21 ≤ ms) {post : Int32 → (Nat → Int32) → Int32 → (Nat → Int32) → ZL → Prop} {postX : String → (Nat → Int32) → Int32 → (Nat → Int32) → ZL → Prop} (hn : ¬ selOK S u b p z)
    (h2 : isWd p ∧ inR z 0 99999 → postX sISE v v5 v6 v7) (hi : ¬ (isWd p ∧ inR z 0 99999) → postX sIAE v v5 v6 v7) : P_X8_sell post postX mc ms p z c f v v3 v4 v5 v6 v7 := by
  refine ⟨mc - 1, ms - 6, ⟨by omega, by omega⟩, p_reqWord (fun hw => ⟨mc - 2, ms - 12, ⟨by omega, by omega⟩, p_reqBudget (fun hz => ?_) (fun q => hi fun w => q w.2)⟩) (fun q => hi fun w => q w.1)⟩
  obtain ⟨n, rfl, hw⟩ := hw
  obtain ⟨B, -, hB, rfl⟩ := hz
  have hle := ref_le (S := S) (u := u) (b := b) (B := B) (n := n)
  refine p_reason hw (by omega) hr hd hu hb ht ⟨fun q => ?_, fun _ => ⟨⟨by omega, by omega⟩, h2 ⟨⟨n, rfl, hw⟩, ⟨B, Nat.zero_le _, hB, rfl⟩⟩⟩⟩
  exact absurd ⟨n, B, rfl, hw, rfl, hB, (neq (b := 0) (by omega) (by omega)).mp q⟩ hn
theorem ref_all {S : List Nat} {u b : Nat → Nat} {B n : Nat} (h : refN S u b B n = 0) : n ∈ S ∧ okU u n (wlen n) ∧ costN n u b ≤ B := by
  unfold refN at h
  split at h
  · next h1 =>
    split at h
    · next h2 =>
      split at h
      · next h3 => exact ⟨h1, okB_iff.mp h2, h3⟩
      · omega
    · omega
  · omega
theorem p_csellY {c : Int32} {f : Nat → Int64} (hr : rowIs c f S) (hd : dicS S) {v v3 v4 : Nat → Int32} {u : Nat → Nat} (hu : isU v u) (hb : isB v3 b) (ht : isWt v4) {R : List (Nat × Nat × Nat)} {z : ZL} (hz : recZ R z) (hc : capL (lln z) z.2.1) (hR : R.length + 1 ≤ 10240) {n B : Nat} (hw : isW n) (hB : B ≤ 99999) (href : refN S u b B n = 0) {v5 : Int32} {v6 : Nat → Int32} {mc ms : Nat} (hm : 5 ≤ mc) (hs : 21 + gCst (lln z) z.2.1 ≤ ms) {post : Int32 → (Nat → Int32) → Int32 → (Nat → Int32) → ZL → Prop} {postX : String → (Nat → Int32) → Int32 → (Nat → Int32) → ZL → Prop}
    (h : ∀ v' z', isU v' (subU u n) → recZ (R ++ [(n, costN n u b, 0)]) z' → z'.2.1 = gNew (lln z) z.2.1 → post (nI (costN n u b)) v' (v5 + nI (costN n u b)) (putF v6 n 1 (wlen n)) z') : P_X8_sell post postX mc ms (lN n) (nI B) c f v v3 v4 v5 v6 z := by
  have ⟨hnS, hok, hcB⟩ := ref_all href
  have hlz := rec_len hz
  have es : lsz z = nI R.length := by unfold lsz; rw [hlz]
  refine ⟨mc - 1, ms - 6, ⟨by omega, by omega⟩, p_reqWord (fun _ => ⟨mc - 2, ms - 12, ⟨by omega, by omega⟩, p_reqBudget (fun _ => ?_) (fun q => absurd ⟨B, Nat.zero_le _, hB, rfl⟩ q)⟩) (fun q => absurd ⟨n, rfl, hw⟩ q)⟩
  refine p_reason hw (by omega) hr hd hu hb ht ⟨fun _ => ⟨mc - 3, ms - 18, ⟨by omega, by omega⟩, ?_⟩, fun q => absurd (by rw [href]; rfl) q⟩
  unfold P_X8_requireReceipts P_X0_hasRoomFor
  rw [es, ← nI_succ]
  refine ⟨fun q => absurd ((nlt (a := 10240) (by omega) (by omega)).mp q) (by omega), fun _ => ⟨fun q => absurd q (by decide), fun _ => ⟨mc - 3, ms - 18, 0, 0, ⟨by omega, by omega⟩, ?_⟩⟩⟩
  exact p_hand hz hc hw hu hb ht hok (by omega) (by omega) h
theorem p_xsellN {v1 : Int32} {v6 : Nat → Int64} {M : List Nat} (hr : rowIs v1 v6 M) (hd : dRel S M) {v7 v8 v9 v15 v18 v19 v20 v21 : Nat → Int32} {u : Nat → Nat} (hu : isU v7 u) (hb : isB v8 b) {p : Int64} {z v0 v2 v3 v4 v5 : Int32} {v10 v11 v13 v14 v16 v17 : Nat} {v12 : Nat → Int64} {mc ms : Nat} {post : Int32 → Int32 → Int32 → Int32 → Int32 → (Nat → Int32) → (Nat → Int32) → Nat → Nat → (Nat → Int64) → Nat → Nat → (Nat → Int32) → Nat → Nat → (Nat → Int32) → (Nat → Int32) → (Nat → Int32) → (Nat → Int32) → Prop} (hn : ¬ selOK S u b p z)
    (h2 : isWd p ∧ inR z 0 99999 → ∀ a sp co w, post 0 2 v2 v3 a v7 v9 v10 v11 v12 v13 v14 v15 v16 v17 v18 sp co w) (hi : ¬ (isWd p ∧ inR z 0 99999) → ∀ a sp co w, post 0 1 v2 v3 a v7 v9 v10 v11 v12 v13 v14 v15 v16 v17 v18 sp co w) : P_X9_sell post mc ms p z v0 v1 v2 v3 v4 v5 v6 v7 v8 v9 v10 v11 v12 v13 v14 v15 v16 v17 v18 v19 v20 v21 := by
  refine p_xisW (fun hw => ⟨fun q => absurd q (by decide), fun _ => p_xbudget (fun hz => ⟨fun q => absurd q (by decide), fun _ => ?_⟩) (fun h => ⟨fun _ => p_good0 ⟨fun _ => hi (fun q => h q.2) _ _ _ _, fun q => absurd rfl q⟩, fun q => absurd rfl q⟩)⟩) (fun h => ⟨fun _ => p_good0 ⟨fun _ => hi (fun q => h q.1) _ _ _ _, fun q => absurd rfl q⟩, fun q => absurd rfl q⟩)
  obtain ⟨n, rfl, hw⟩ := hw
  obtain ⟨B, -, hB, rfl⟩ := hz
  have hle := ref_le (S := S) (u := u) (b := b) (B := B) (n := n)
  refine p_good1 ⟨fun q => absurd q (by decide), fun _ => p_xref hw (by omega) hr hd hu hb (fun sp co w _ => ⟨fun q => ?_, fun _ => h2 ⟨⟨n, rfl, hw⟩, ⟨B, Nat.zero_le _, hB, rfl⟩⟩ _ _ _ _⟩)⟩
  exact absurd ⟨n, B, rfl, hw, rfl, hB, (neq (b := 0) (by omega) (by omega)).mp q⟩ hn
theorem p_xsellY {v1 : Int32} {v6 : Nat → Int64} {M : List Nat} (hr : rowIs v1 v6 M) (hd : dRel S M) {v7 v8 v9 v15 v18 v19 v20 v21 : Nat → Int32} {u : Nat → Nat} (hu : isU v7 u) (hb : isB v8 b) {R : List (Nat × Nat × Nat)} (hok : recOK R) {N : Nat} (hN : capX R.length N) {v2 : Int32} {v12 : Nat → Int64} (hX : recX R v2 N v12 v15 v18) (hR : R.length + 1 ≤ 10240) {n B : Nat} (hw : isW n) (hB : B ≤ 99999) (href : refN S u b B n = 0) {v0 v3 v4 v5 : Int32} {v10 v13 v16 : Nat} {mc ms : Nat} (hm : 3 ≤ mc) (hs : dCst R.length N ≤ ms) {post : Int32 → Int32 → Int32 → Int32 → Int32 → (Nat → Int32) → (Nat → Int32) → Nat → Nat → (Nat → Int64) → Nat → Nat → (Nat → Int32) → Nat → Nat → (Nat → Int32) → (Nat → Int32) → (Nat → Int32) → (Nat → Int32) → Prop}
    (h : ∀ v' x a b' c w p' t sp co iw, isU v' (subU u n) → recX (R ++ [(n, costN n u b, 0)]) (nI (R.length + 1)) (dNew R.length N) w p' t → post (nI (costN n u b)) 0 (nI (R.length + 1)) (v3 + nI (costN n u b)) x v' (addR v9 n (wlen n)) a (dNew R.length N) w b' (dNew R.length N) p' c (dNew R.length N) t sp co iw) : P_X9_sell post mc ms (lN n) (nI B) v0 v1 v2 v3 v4 v5 v6 v7 v8 v9 v10 N v12 v13 N v15 v16 N v18 v19 v20 v21 := by
  have ⟨hnS, hoku, hcB⟩ := ref_all href
  refine p_xisW (fun _ => ⟨fun q => absurd q (by decide), fun _ => p_xbudget (fun _ => ⟨fun q => absurd q (by decide), fun _ => ?_⟩) (fun q => absurd ⟨B, Nat.zero_le _, hB, rfl⟩ q)⟩) (fun q => absurd ⟨n, rfl, hw⟩ q)
  refine p_good1 ⟨fun q => absurd q (by decide), fun _ => p_xref hw (by omega) hr hd hu hb (fun sp co w _ => ⟨fun _ => ⟨mc, ms, 0, 0, ⟨Nat.le_refl _, Nat.le_refl _⟩, ?_⟩, fun q => absurd (by rw [href]; rfl) q⟩)⟩
  exact p_xsell hok hN (by omega) hX hw hu hb hoku hm hs h
end SP
