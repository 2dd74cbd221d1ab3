/-! letter by letter: totals, piles added, room -/
def sumI (v : Nat → Int32) : Nat → Int32
  | 0 => 0
  | k + 1 => sumI v k + v (k + 1)
theorem sumI_ext {v w : Nat → Int32} : ∀ k : Nat, (∀ l : Nat, 1 ≤ l → l ≤ k → v l = w l) → sumI v k = sumI w k
  | 0, _ => rfl
  | k + 1, h => by
    show sumI v k + v (k + 1) = sumI w k + w (k + 1)
    rw [sumI_ext k (fun l a b => h l a (by omega)), h (k + 1) (by omega) (by omega)]
theorem p_totL {v : Nat → Int32} {K : Int32 → Prop} (h : K (sumI v 26)) : ∀ m k fuel : Nat, k + m = 26 → m < fuel → P_X2_total_L4 v K fuel (sumI v k) (nI (k + 1)) := by
  intro m
  induction m with
  | zero =>
    intro k fuel hk hf
    obtain ⟨g, rfl⟩ : ∃ g, fuel = g + 1 := ⟨fuel - 1, by omega⟩
    have e : k = 26 := by omega
    subst e
    unfold P_X2_total_L4
    exact ⟨fun _ => h, fun q => absurd (nI_lt (a := 26) (b := 27) (by omega) (by omega)) q⟩
  | succ m ih =>
    intro k fuel hk hf
    obtain ⟨g, rfl⟩ : ∃ g, fuel = g + 1 := ⟨fuel - 1, by omega⟩
    unfold P_X2_total_L4
    rw [nI_clamp (by omega)]
    refine ⟨fun q => absurd q (nI_nlt (a := 26) (by omega) (by omega)), fun _ => ⟨nI_in (by omega) (by omega), fun y hy => ?_⟩⟩
    rw [hy, ← nI_succ]
    exact ih (k + 1) g (by omega) (by omega)
theorem p_total {v : Nat → Int32} {post : Int32 → Prop} (h : post (sumI v 26)) : P_X2_total post v :=
  p_totL (K := fun (x2 : Int32) => post x2) h 26 0 FU rfl (FU_s _ (by omega))
theorem p_xtotL {v : Nat → Int32} {K : Int32 → Prop} (h : K (sumI v 26)) : ∀ m k fuel : Nat, k + m = 26 → m < fuel → P_X9_total_L4 v K fuel (sumI v k) (nI (k + 1)) := by
  intro m
  induction m with
  | zero =>
    intro k fuel hk hf
    obtain ⟨g, rfl⟩ : ∃ g, fuel = g + 1 := ⟨fuel - 1, by omega⟩
    have e : k = 26 := by omega
    subst e
    unfold P_X9_total_L4
    exact ⟨fun _ => h, fun q => absurd (nI_lt (a := 26) (b := 27) (by omega) (by omega)) q⟩
  | succ m ih =>
    intro k fuel hk hf
    obtain ⟨g, rfl⟩ : ∃ g, fuel = g + 1 := ⟨fuel - 1, by omega⟩
    unfold P_X9_total_L4
    rw [nI_clamp (by omega)]
    refine ⟨fun q => absurd q (nI_nlt (a := 26) (by omega) (by omega)), fun _ => ⟨nI_in (by omega) (by omega), fun y hy => ?_⟩⟩
    rw [hy, ← nI_succ]
    exact ih (k + 1) g (by omega) (by omega)
theorem p_xtotal {v : Nat → Int32} {v0 v1 v2 v3 v4 v5 : Int32} {post : Int32 → Prop} (h : post (sumI v 26)) : P_X9_total post v0 v1 v2 v3 v4 v5 v :=
  p_xtotL (K := fun (x2 : Int32) => post x2) h 26 0 FU rfl (FU_s _ (by omega))
def padF (v w : Nat → Int32) (k : Nat) : Nat → Int32 := fun l => if 1 ≤ l ∧ l ≤ k then v l + w l else v l
theorem padF_s (v w : Nat → Int32) (k : Nat) : upd (padF v w k) (k + 1) (padF v w k (k + 1) + w (k + 1)) = padF v w (k + 1) := by
  funext l
  unfold upd padF
  by_cases e : l = k + 1
  · rw [if_pos e, e, if_neg (show ¬ (1 ≤ k + 1 ∧ k + 1 ≤ k) by omega), if_pos (show 1 ≤ k + 1 ∧ k + 1 ≤ k + 1 by omega)]
  · rw [if_neg e]
    by_cases h : 1 ≤ l ∧ l ≤ k
    · rw [if_pos h, if_pos (by omega)]
    · rw [if_neg h, if_neg (by omega)]
theorem padF_0 (v w : Nat → Int32) : padF v w 0 = v := by
  funext l
  unfold padF
  rw [if_neg (by omega)]
theorem p_padL {v w : Nat → Int32} {K : (Nat → Int32) → Prop} (h : K (padF v w 26)) : ∀ m k fuel : Nat, k + m = 26 → m < fuel → P_X2_putAll_L2 w K fuel (nI (k + 1)) (padF v w k) := by
  intro m
  induction m with
  | zero =>
    intro k fuel hk hf
    obtain ⟨g, rfl⟩ : ∃ g, fuel = g + 1 := ⟨fuel - 1, by omega⟩
    have e : k = 26 := by omega
    subst e
    unfold P_X2_putAll_L2
    exact ⟨fun _ => h, fun q => absurd (nI_lt (a := 26) (b := 27) (by omega) (by omega)) q⟩
  | succ m ih =>
    intro k fuel hk hf
    obtain ⟨g, rfl⟩ : ∃ g, fuel = g + 1 := ⟨fuel - 1, by omega⟩
    have hi : vp_in (nI (k + 1)) 32 := nI_in (by omega) (by omega)
    unfold P_X2_putAll_L2
    rw [nI_clamp (by omega), padF_s, ← nI_succ]
    exact ⟨fun q => absurd q (nI_nlt (a := 26) (by omega) (by omega)), fun _ => ⟨hi, hi, hi, ih (k + 1) g (by omega) (by omega)⟩⟩
theorem p_putAll {v w : Nat → Int32} {post : (Nat → Int32) → Prop} (h : post (padF v w 26)) : P_X2_putAll post v w := by
  have key := p_padL (v := v) (w := w) (K := fun (w1 : Nat → Int32) => post w1) h 26 0 FU rfl (FU_s _ (by omega))
  rw [padF_0] at key
  exact key
theorem padF_in {v w : Nat → Int32} {l : Nat} (a : 1 ≤ l) (b : l ≤ 26) : padF v w 26 l = v l + w l := if_pos ⟨a, b⟩
/-- a pile of at most 999 of each takes this one too -/
def roomU (u x : Nat → Nat) : Prop := ∀ l : Nat, 1 ≤ l → l ≤ 26 → u l + x l ≤ 999
theorem p_count {l : Nat} (hl : l < 32) {v : Nat → Int32} {post : Int32 → Prop} (h : post (v l)) : P_X2_count post (nI l) v := by
  unfold P_X2_count
  rw [lmask hl, nI_clamp (by omega)]
  exact ⟨nI_in hl (by omega), h⟩
theorem p_roomL {v w : Nat → Int32} {u x : Nat → Nat} (hu : isU v u) (hx : isU w x) {K28 K36 : Prop} (h1 : roomU u x → K36) (h0 : ¬ roomU u x → K28) : ∀ m k fuel : Nat, k + m = 26 → m < fuel → (∀ l : Nat, 1 ≤ l → l ≤ k → u l + x l ≤ 999) → P_X5_hasRoomFor_L2 v w K28 K36 fuel (nI (k + 1)) := by
  intro m
  induction m with
  | zero =>
    intro k fuel hk hf hj
    obtain ⟨g, rfl⟩ : ∃ g, fuel = g + 1 := ⟨fuel - 1, by omega⟩
    have e : k = 26 := by omega
    subst e
    unfold P_X5_hasRoomFor_L2
    exact ⟨fun _ => h1 hj, fun q => absurd (nI_lt (a := 26) (b := 27) (by omega) (by omega)) q⟩
  | succ m ih =>
    intro k fuel hk hf hj
    obtain ⟨g, rfl⟩ : ∃ g, fuel = g + 1 := ⟨fuel - 1, by omega⟩
    have ⟨a1, a2⟩ := hu (k + 1) (by omega) (by omega)
    have ⟨b1, b2⟩ := hx (k + 1) (by omega) (by omega)
    unfold P_X5_hasRoomFor_L2
    rw [← nI_succ]
    refine ⟨fun q => absurd q (nI_nlt (a := 26) (by omega) (by omega)), fun _ => p_count (by omega) (p_count (by omega) ?_)⟩
    rw [a1, b1, nI_add]
    refine ⟨fun q => ?_, fun q => h0 fun z => q ((nle (b := 999) (by omega) (by omega)).mpr (z (k + 1) (by omega) (by omega)))⟩
    have q' := (nle (b := 999) (by omega) (by omega)).mp q
    refine ih (k + 1) g (by omega) (by omega) (fun l a b => ?_)
    by_cases e : l = k + 1
    · rw [e]; exact q'
    · exact hj l a (by omega)
theorem p_room {v w : Nat → Int32} {u x : Nat → Nat} (hu : isU v u) (hx : isU w x) {post : Int32 → Prop} (h1 : roomU u x → post 1) (h0 : ¬ roomU u x → post 0) : P_X5_hasRoomFor post v w :=
  p_roomL hu hx h1 h0 26 0 FU rfl (FU_s _ (by omega)) (fun l a b => absurd a (by omega))
