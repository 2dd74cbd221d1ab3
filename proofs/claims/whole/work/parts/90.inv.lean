/-! the start of both; what holds between calls -/
def pr0 (i : Nat) : Nat := if i = 1 ∨ i = 5 ∨ i = 9 ∨ i = 15 ∨ i = 21 then 40 else if i = 10 ∨ i = 17 ∨ i = 24 ∨ i = 26 then 90 else 60
theorem kpr_eq : ∀ i : Nat, i < 27 → kprice i = nI (pr0 i) := by decide +kernel
theorem kwt_eq : ∀ i : Nat, i < 27 → kweight i = nI (wN i) := by decide +kernel
theorem pr0_in (i : Nat) : 1 ≤ pr0 i ∧ pr0 i < 1000 := by
  unfold pr0
  split
  · omega
  · split <;> omega
def iniF (f : Nat → Int32) (v : Nat → Int32) (i : Nat) : Prop := ∀ l : Nat, 1 ≤ l → l < i → v l = f l
theorem iniF_s {f v : Nat → Int32} {i : Nat} (h : iniF f v i) {c : Int32} (hc : c = f i) : iniF f (upd v i c) (i + 1) := fun l a b => by
  unfold upd
  by_cases e : l = i
  · rw [if_pos e, hc, e]
  · rw [if_neg e]
    exact h l a (by omega)
theorem p_x5iL {K : (Nat → Int32) → (Nat → Int32) → Prop} (h : ∀ v1 v2, iniF kprice v1 27 → iniF kweight v2 27 → K v1 v2) : ∀ (m i fuel : Nat) (v1 v2 : Nat → Int32), i + m = 27 → 1 ≤ i → m < fuel → iniF kprice v1 i → iniF kweight v2 i → P_X5_init_L33 K fuel (nI i) v1 v2 := by
  intro m
  induction m with
  | zero =>
    intro i fuel v1 v2 hi h1 hf a b
    obtain ⟨g, rfl⟩ : ∃ g, fuel = g + 1 := ⟨fuel - 1, by omega⟩
    have e : i = 27 := by omega
    subst e
    unfold P_X5_init_L33
    exact ⟨fun _ => h v1 v2 a b, fun q => absurd (nI_lt (a := 26) (b := 27) (by omega) (by omega)) q⟩
  | succ m ih =>
    intro i fuel v1 v2 hi h1 hf a b
    obtain ⟨g, rfl⟩ : ∃ g, fuel = g + 1 := ⟨fuel - 1, by omega⟩
    unfold P_X5_init_L33
    rw [nI_clamp (show i < 2 ^ 31 by omega), ← nI_succ]
    exact ⟨fun q => absurd q (nI_nlt (a := 26) (by omega) (by omega)), fun _ => ⟨i, rfl, by omega, nI_in (by omega) (by omega), i, rfl, by omega, nI_in (by omega) (by omega), ih (i + 1) g _ _ (by omega) (by omega) (by omega) (iniF_s a rfl) (iniF_s b rfl)⟩⟩
theorem p_x8i {post : (Nat → Int32) → (Nat → Int32) → Prop} (h : ∀ v1 v2, isB v1 pr0 → isWt v2 → post v1 v2) : P_X8_init post :=
  p_x5iL (K := fun (w7 : Nat → Int32) (w8 : Nat → Int32) => post w7 w8) (fun v1 v2 a b => h v1 v2 (fun l x y => ⟨by rw [a l x (by omega)]; exact kpr_eq l (by omega), pr0_in l⟩) (fun l x y => by rw [b l x (by omega)]; exact kwt_eq l (by omega))) 26 1 FU _ _ rfl (by omega) (FU_s _ (by omega)) (fun l a b => absurd a (by omega)) (fun l a b => absurd a (by omega))
def vow (i : Nat) : Prop := i = 1 ∨ i = 5 ∨ i = 9 ∨ i = 15 ∨ i = 21
theorem p_xvow {i : Nat} (hi : i < 27) {post : Int32 → Prop} (h1 : vow i → post 1) (h0 : ¬ vow i → post 0) : P_X9_isVowel post (nI i) := by
  have e : ∀ k : Nat, k < 27 → (nI i = nI k ↔ i = k) := fun k hk => neq (by omega) (by omega)
  unfold vow at h1 h0
  refine ⟨fun q => h1 (Or.inl ((e 1 (by omega)).mp q)), fun q1 => ⟨fun q => h1 ?_, fun q2 => ⟨fun q => h1 ?_, fun q3 => ⟨fun q => h1 ?_, fun q4 => ⟨fun q => h1 ?_, fun q5 => h0 ?_⟩⟩⟩⟩⟩
  · have := (e 5 (by omega)).mp q; omega
  · have := (e 9 (by omega)).mp q; omega
  · have := (e 15 (by omega)).mp q; omega
  · have := (e 21 (by omega)).mp q; omega
  · have a1 : ¬ i = 1 := fun z => q1 ((e 1 (by omega)).mpr z)
    have a2 : ¬ i = 5 := fun z => q2 ((e 5 (by omega)).mpr z)
    have a3 : ¬ i = 9 := fun z => q3 ((e 9 (by omega)).mpr z)
    have a4 : ¬ i = 15 := fun z => q4 ((e 15 (by omega)).mpr z)
    have a5 : ¬ i = 21 := fun z => q5 ((e 21 (by omega)).mpr z)
    omega
theorem p_x9iL {K : (Nat → Int32) → Prop} (h : ∀ v, iniF (fun l => nI (pr0 l)) v 27 → K v) : ∀ (m i fuel : Nat) (v : Nat → Int32), i + m = 27 → 1 ≤ i → m < fuel → iniF (fun l => nI (pr0 l)) v i → P_X9_init_L109 K fuel (nI i) v := by
  intro m
  induction m with
  | zero =>
    intro i fuel v hi h1 hf a
    obtain ⟨g, rfl⟩ : ∃ g, fuel = g + 1 := ⟨fuel - 1, by omega⟩
    have e : i = 27 := by omega
    subst e
    unfold P_X9_init_L109
    exact ⟨fun _ => h v a, fun q => absurd (nI_lt (a := 26) (b := 27) (by omega) (by omega)) q⟩
  | succ m ih =>
    intro i fuel v hi h1 hf a
    obtain ⟨g, rfl⟩ : ∃ g, fuel = g + 1 := ⟨fuel - 1, by omega⟩
    have hin : vp_in (nI i) 27 := nI_in (by omega) (by omega)
    have go : ∀ (c : Int32) (p : Nat), c = nI p → pr0 i = p → P_X9_init_L109 K g (nI (i + 1)) (upd v i c) := fun c p e1 e2 => ih (i + 1) g _ (by omega) (by omega) (by omega) (iniF_s a (by rw [e1, e2]))
    have e : ∀ k : Nat, k < 27 → (nI i = nI k ↔ i = k) := fun k hk => neq (by omega) (by omega)
    have pv : vow i → pr0 i = 40 := fun hv => if_pos hv
    have pj : ¬ vow i → (i = 10 ∨ i = 17 ∨ i = 24 ∨ i = 26) → pr0 i = 90 := fun hv hj => by
      have hv' : ¬ (i = 1 ∨ i = 5 ∨ i = 9 ∨ i = 15 ∨ i = 21) := hv
      unfold pr0
      rw [if_neg hv', if_pos hj]
    have po : ¬ vow i → ¬ (i = 10 ∨ i = 17 ∨ i = 24 ∨ i = 26) → pr0 i = 60 := fun hv hj => by
      have hv' : ¬ (i = 1 ∨ i = 5 ∨ i = 9 ∨ i = 15 ∨ i = 21) := hv
      unfold pr0
      rw [if_neg hv', if_neg hj]
    unfold P_X9_init_L109
    rw [nI_clamp (show i < 2 ^ 31 by omega), ← nI_succ]
    refine ⟨fun q => absurd q (nI_nlt (a := 26) (by omega) (by omega)), fun _ => p_xvow (by omega) (fun hv => ⟨fun q => absurd q (by decide), fun _ => ⟨hin, go 40 40 rfl (pv hv)⟩⟩) (fun hv => ⟨fun _ => ⟨fun q => ⟨hin, go 90 90 rfl (pj hv ?_)⟩, fun q1 => ⟨fun q => ⟨hin, go 90 90 rfl (pj hv ?_)⟩, fun q2 => ⟨fun q => ⟨hin, go 90 90 rfl (pj hv ?_)⟩, fun q3 => ⟨fun q => ⟨hin, go 90 90 rfl (pj hv ?_)⟩, fun q4 => ⟨hin, go 60 60 rfl (po hv ?_)⟩⟩⟩⟩⟩, fun q => absurd rfl q⟩)⟩
    · have := (e 10 (by omega)).mp q; omega
    · have := (e 17 (by omega)).mp q; omega
    · have := (e 24 (by omega)).mp q; omega
    · have := (e 26 (by omega)).mp q; omega
    · have a1 : ¬ i = 10 := fun z => q1 ((e 10 (by omega)).mpr z)
      have a2 : ¬ i = 17 := fun z => q2 ((e 17 (by omega)).mpr z)
      have a3 : ¬ i = 24 := fun z => q3 ((e 24 (by omega)).mpr z)
      have a4 : ¬ i = 26 := fun z => q4 ((e 26 (by omega)).mpr z)
      omega
theorem p_x9i {post : (Nat → Int32) → Prop} (h : ∀ v, isB v pr0 → post v) : P_X9_init post :=
  p_x9iL (K := fun (w15 : Nat → Int32) => post w15) (fun v a => h v (fun l x y => ⟨a l x (by omega), pr0_in l⟩)) 26 1 FU _ rfl (by omega) (FU_s _ (by omega)) (fun l a b => absurd a (by omega))
/-! what holds between calls -/
def eqF (v w : Nat → Int32) : Prop := ∀ l : Nat, 1 ≤ l → l ≤ 26 → v l = w l
def invD (S M : List Nat) (v0 : Int32) (v1 : Nat → Int64) (v20 : Int32) (v25 : Nat → Int64) : Prop := rowIs v0 v1 S ∧ rowIs v20 v25 M ∧ dRel S M
def invU (u : Nat → Nat) (v5 v26 : Nat → Int32) : Prop := isU v5 u ∧ isU v26 u ∧ ∀ l : Nat, 1 ≤ l → l ≤ 26 → u l ≤ 999
def invB (b : Nat → Nat) (v6 v27 : Nat → Int32) : Prop := isB v6 b ∧ isB v27 b
def invA (v8 : Int32) (v9 v10 : Nat → Int32) (v22 : Int32) (v28 v29 : Nat → Int32) : Prop := v8 = v22 ∧ eqF v9 v28 ∧ eqF v10 v29
def invR (R : List (Nat × Nat × Nat)) (N : Nat) (z : ZL) (v21 : Int32) (v31 : Nat) (v32 : Nat → Int64) (v34 : Nat) (v35 : Nat → Int32) (v37 : Nat) (v38 : Nat → Int32) : Prop :=
  recZ R z ∧ capL (lln z) z.2.1 ∧ recOK R ∧ capX R.length N ∧ v31 = N ∧ v34 = N ∧ v37 = N ∧ recX R v21 N v32 v35 v38
/-- k calls are left: what they may still make -/
def bud (k r C N rc rs : Nat) : Prop := r + 20 * k ≤ 10240 ∧ 5 * (10240 - r) + 10 * k ≤ rc ∧ 3 * (10240 - r) + 60 * k + 4 * (16000 - C) + 6 * (20480 - N) ≤ rs
theorem bud_s {k r C N rc rs rc' rs' : Nat} (h : bud (k + 1) r C N rc rs) (h1 : rc ≤ rc' + 10) (h2 : rs ≤ rs' + 60) : bud k r C N rc' rs' := by
  obtain ⟨a, b, c⟩ := h
  exact ⟨by omega, by omega, by omega⟩
theorem gpot : ∀ (n r C : Nat), capL r C → r + n ≤ 10240 → gSum r C n + 4 * (16000 - gFin r C n) ≤ 3 * n + 4 * (16000 - C) ∧ capL (r + n) (gFin r C n)
  | 0, r, C, h, _ => ⟨by show 0 + 4 * (16000 - C) ≤ _; omega, h⟩
  | n + 1, r, C, h, hn => by
    have ⟨a, b⟩ := gpot n (r + 1) (gNew r C) (cap_new h (by omega)) (by omega)
    have hc := cap_new h (show r < 10240 by omega)
    have st : gCst r C + 4 * (16000 - gNew r C) ≤ 4 * (16000 - C) := by
      obtain ⟨h1, h2, h3⟩ := h
      unfold gCst gNew
      by_cases e : r < C
      · rw [if_pos e, if_pos e]; omega
      · rw [if_neg e, if_neg e]
        unfold lgrow
        by_cases e0 : C = 0
        · rw [if_pos e0]; omega
        · rw [if_neg e0]; omega
    refine ⟨?_, by rw [show r + (n + 1) = r + 1 + n by omega]; exact b⟩
    show 3 + gCst r C + gSum (r + 1) (gNew r C) n + 4 * (16000 - gFin (r + 1) (gNew r C) n) ≤ _
    omega
theorem dpot : ∀ (n r N : Nat), capX r N → r + n ≤ 10240 → dSum r N n + 6 * (20480 - dFin r N n) ≤ 6 * (20480 - N)
  | 0, r, N, _, _ => by show 0 + 6 * (20480 - N) ≤ _; omega
  | n + 1, r, N, h, hn => by
    have a := dpot n (r + 1) (dNew r N) (capX_new h (by omega)) (by omega)
    have st : dCst r N + 6 * (20480 - dNew r N) ≤ 6 * (20480 - N) := by
      obtain ⟨h1, h2, h3⟩ := h
      unfold dCst dNew
      by_cases e : r = N
      · rw [if_pos e, if_pos e]; omega
      · rw [if_neg e, if_neg e]; omega
    show dCst r N + dSum (r + 1) (dNew r N) n + 6 * (20480 - dFin (r + 1) (dNew r N) n) ≤ _
    omega
/-- after n sales -/
theorem bud_n {k r C N rc rs n x : Nat} (h : bud (k + 1) r C N rc rs) (hn : n ≤ 20) (hc : capL r C) (hN : capX r N) (hx : x ≤ 60) {rc' rs' : Nat} (h1 : rc ≤ rc' + (10 + 5 * n)) (h2 : rs ≤ rs' + (x + gSum r C n + dSum r N n)) : bud k (r + n) (gFin r C n) (dFin r N n) rc' rs' := by
  obtain ⟨a, b, c⟩ := h
  have g := (gpot n r C hc (by omega)).1
  have d := dpot n r N hN (by omega)
  refine ⟨by omega, by omega, by omega⟩
theorem bud_g {k r C N rc rs n : Nat} (h : bud (k + 1) r C N rc rs) (hn : n ≤ 20) (hc : capL r C) (hN : capX r N) : 10 + 5 * n ≤ rc ∧ 60 + gSum r C n + dSum r N n ≤ rs ∧ r + 20 ≤ 10240 := by
  obtain ⟨a, b, c⟩ := h
  have g := (gpot n r C hc (by omega)).1
  have d := dpot n r N hN (by omega)
  exact ⟨by omega, by omega, by omega⟩
theorem in01 : vp_in 0 1 := nI_in (c := 0) (by omega) (by omega)
theorem fin0 {f : Nat → Int64} {x : Int64} {A : Prop} (h : A) : ((0 : Int32) = 0 → ((0 : Int32) = 0 → vp_in 0 1 ∧ (vp_updL f (0 : Int32).toNatClampNeg x (0 : Int32).toNatClampNeg = x → A) ∧ (¬ (vp_updL f (0 : Int32).toNatClampNeg x (0 : Int32).toNatClampNeg = x) → False)) ∧ (¬ ((0 : Int32) = 0) → A)) ∧ (¬ ((0 : Int32) = 0) → False) :=
  ⟨fun _ => ⟨fun _ => ⟨in01, fun _ => h, fun q => absurd pk_uLs q⟩, fun q => absurd rfl q⟩, fun q => absurd rfl q⟩
theorem finX {c : Int32} (hc : ¬ c = 0) {A B : Prop} (h : A) : (c = c → (c = 0 → B) ∧ (¬ (c = 0) → A)) ∧ (¬ (c = c) → False) := ⟨fun _ => ⟨fun q => absurd q hc, fun _ => h⟩, fun q => absurd rfl q⟩
theorem finB {f : Nat → Int64} {t : Nat} (ht : t ≤ 1) {A : Prop} (h : A) : ((0 : Int32) = 0 → ((0 : Int32) = 0 → vp_in 0 1 ∧ (nI t = 0 → (vp_updL f (0 : Int32).toNatClampNeg (lN t) (0 : Int32).toNatClampNeg = 0 → A) ∧ (¬ (vp_updL f (0 : Int32).toNatClampNeg (lN t) (0 : Int32).toNatClampNeg = 0) → False)) ∧ (¬ (nI t = 0) → (vp_updL f (0 : Int32).toNatClampNeg (lN t) (0 : Int32).toNatClampNeg = 1 → A) ∧ (¬ (vp_updL f (0 : Int32).toNatClampNeg (lN t) (0 : Int32).toNatClampNeg = 1) → False))) ∧ (¬ ((0 : Int32) = 0) → A)) ∧ (¬ ((0 : Int32) = 0) → False) := by
  refine ⟨fun _ => ⟨fun _ => ⟨in01, fun q => ⟨fun _ => h, fun z => absurd ?_ z⟩, fun q => ⟨fun _ => h, fun z => absurd ?_ z⟩⟩, fun q => absurd rfl q⟩, fun q => absurd rfl q⟩
  · have e : t = 0 := (neq (b := 0) (by omega) (by omega)).mp q
    subst e
    exact pk_uLs
  · have e : t ≠ 0 := fun w => q (by rw [w]; rfl)
    have e1 : t = 1 := by omega
    subst e1
    exact pk_uLs
theorem lNu {n m : Nat} (e : lN n = lN m) (hn : isW n) (hm : isW m) : n = m := (pk_lEQ (Nat.lt_trans hn.2.1 (by decide)) (Nat.lt_trans hm.2.1 (by decide))).mp e
theorem at_u {α : Type} {S : List α} (h : S.length ≤ 20000) {j j' : Nat} {n n' : α} (e : nI j = nI j') (a : S[j]? = some n) (b : S[j']? = some n') : n = n' := by
  have h1 := (List.getElem?_eq_some_iff.mp a).1
  have h2 := (List.getElem?_eq_some_iff.mp b).1
  have e2 := (neq (by omega) (by omega)).mp e
  rw [e2, b] at a
  exact (Option.some.inj a).symm
theorem lt_at {α : Type} {S : List α} {j : Nat} {n : α} (a : S[j]? = some n) : j < S.length := (List.getElem?_eq_some_iff.mp a).1
