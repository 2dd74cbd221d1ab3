/-! what is checked first -/
def inR (p : Int32) (lo hi : Nat) : Prop := ∃ c : Nat, lo ≤ c ∧ c ≤ hi ∧ p = nI c
theorem inR_of {p : Int32} {lo hi : Nat} (hlo : lo < 2 ^ 31) (hhi : hi < 2 ^ 31) (h1 : ¬ p < nI lo) (h2 : p ≤ nI hi) : inR p lo hi := by
  rw [Int32.lt_iff_toInt_lt, nI_toInt hlo] at h1
  rw [Int32.le_iff_toInt_le, nI_toInt hhi] at h2
  refine ⟨p.toInt.toNat, by omega, by omega, Int32.toInt_inj.mp ?_⟩
  rw [nI_toInt (by omega)]
  omega
theorem inR_lo {p : Int32} {lo hi : Nat} (hlo : lo < 2 ^ 31) (hhi : hi < 2 ^ 31) (h : inR p lo hi) : ¬ p < nI lo ∧ p ≤ nI hi := by
  obtain ⟨c, a, b, rfl⟩ := h
  exact ⟨nI_nlt a (by omega), nI_le b hhi⟩
theorem p_range {p : Int32} {lo hi : Nat} (hlo : lo < 2 ^ 31) (hhi : hi < 2 ^ 31) {post : Prop} {postX : String → Prop} (h1 : inR p lo hi → post) (h0 : ¬ inR p lo hi → postX sIAE) : P_X8_requireRange post postX p (nI lo) (nI hi) := by
  unfold P_X8_requireRange
  refine ⟨fun q => h0 fun z => (inR_lo hlo hhi z).1 q, fun q => ⟨fun w => h1 (inR_of hlo hhi q w), fun w => h0 fun z => w (inR_lo hlo hhi z).2⟩⟩
theorem p_reqLetter {p : Int32} {post : Prop} {postX : String → Prop} (h1 : inR p 1 26 → post) (h0 : ¬ inR p 1 26 → postX sIAE) : P_X8_requireLetter post postX p := p_range (lo := 1) (hi := 26) (by omega) (by omega) h1 h0
theorem p_reqBudget {p : Int32} {post : Prop} {postX : String → Prop} (h1 : inR p 0 99999 → post) (h0 : ¬ inR p 0 99999 → postX sIAE) : P_X8_requireBudget post postX p := p_range (lo := 0) (hi := 99999) (by omega) (by omega) h1 h0
theorem p_reqWord {p : Int64} {post : Prop} {postX : String → Prop} (h1 : isWd p → post) (h0 : ¬ isWd p → postX sIAE) : P_X8_requireWord post postX p :=
  p_isW (fun h => ⟨fun q => absurd q (by decide), fun _ => h1 h⟩) (fun h => ⟨fun _ => h0 h, fun q => absurd rfl q⟩)
theorem p_reqRoom {v w : Nat → Int32} {u x : Nat → Nat} (hu : isU v u) (hx : isU w x) {post : Prop} {postX : String → Prop} (h1 : roomU u x → post) (h0 : ¬ roomU u x → postX sISE) : P_X8_requireRoom post postX v w :=
  p_room hu hx (fun h => ⟨fun q => absurd q (by decide), fun _ => h1 h⟩) (fun h => ⟨fun _ => h0 h, fun q => absurd rfl q⟩)
theorem p_reqWordOf {c : Int32} {f : Nat → Int64} {S : List Nat} (hr : rowIs c f S) {p : Int32} {post : Int64 → Prop} {postX : String → Prop} (h1 : ∀ j n : Nat, p = nI j → S[j]? = some n → post (lN n)) (h0 : (∀ j : Nat, j < S.length → p ≠ nI j) → postX sIOB) : P_X8_requireWordOf post postX p c f := by
  have hc := hr.1
  have h60 := hr.2.1
  unfold P_X8_requireWordOf
  refine ⟨fun q => h0 fun j hj e => ?_, fun q => ⟨fun w => ?_, fun w => h0 fun j hj e => ?_⟩⟩
  · rw [e] at q
    exact nI_pos (by omega) q
  · rw [hc] at w
    have h0' : (0 : Int) ≤ p.toInt := by
      have := Int32.not_lt.mp q
      simpa using Int32.le_iff_toInt_le.mp this
    rw [Int32.lt_iff_toInt_lt, nI_toInt (by omega)] at w
    have hj : p.toInt.toNat < S.length := by omega
    have e : p = nI p.toInt.toNat := Int32.toInt_inj.mp (by rw [nI_toInt (by omega)]; omega)
    have hs := List.getElem?_eq_getElem hj
    have key := p_word hr hs (post := fun (r2 : Int64) => post r2) (h1 _ _ e hs)
    rw [← e] at key
    exact key
  · rw [e, hc] at w
    exact w (nI_lt hj (by omega))
theorem p_xwith {p : Int32} {lo hi : Nat} (hlo : lo < 2 ^ 31) (hhi : hi < 2 ^ 31) {post : Int32 → Prop} (h1 : inR p lo hi → post 1) (h0 : ¬ inR p lo hi → post 0) : P_X9_isWithin post p (nI lo) (nI hi) := by
  unfold P_X9_isWithin
  refine ⟨fun q => h0 fun z => (inR_lo hlo hhi z).1 q, fun q => ⟨fun w => h0 fun z => ?_, fun w => h1 (inR_of hlo hhi q (Int32.not_lt.mp w))⟩⟩
  exact Int32.not_lt.mpr (inR_lo hlo hhi z).2 w
theorem p_good1 {v0 v1 v2 v3 v4 v5 : Int32} {post : Int32 → Int32 → Prop} (h : post 1 0) : P_X9_isGood post 1 v0 v1 v2 v3 v4 v5 := ⟨fun q => absurd q (by decide), fun _ => ⟨rfl, h⟩⟩
theorem p_good0 {v0 v1 v2 v3 v4 v5 : Int32} {post : Int32 → Int32 → Prop} (h : post 0 1) : P_X9_isGood post 0 v0 v1 v2 v3 v4 v5 := ⟨fun _ => ⟨rfl, h⟩, fun q => absurd rfl q⟩
theorem p_xbudget {p : Int32} {post : Int32 → Prop} (h1 : inR p 0 99999 → post 1) (h0 : ¬ inR p 0 99999 → post 0) : P_X9_isBudget post p :=
  p_xwith (lo := 0) (hi := 99999) (by omega) (by omega) (fun h => ⟨rfl, h1 h⟩) (fun h => ⟨rfl, h0 h⟩)
theorem p_xofL {p : Int32} {v0 v1 v2 v3 v4 v5 : Int32} {v6 : Nat → Int32} {post : Int32 → Int32 → Prop} (h1 : ∀ l : Nat, 1 ≤ l → l ≤ 26 → p = nI l → post (v6 l) 0) (h0 : ¬ inR p 1 26 → post 0 1) : P_X9_ofLetter post p v0 v1 v2 v3 v4 v5 v6 := by
  refine p_xwith (lo := 1) (hi := 26) (by omega) (by omega) (fun h => ?_) (fun h => p_good0 ⟨fun _ => h0 h, fun q => absurd rfl q⟩)
  obtain ⟨l, a, b, rfl⟩ := h
  refine p_good1 ⟨fun q => absurd q (by decide), fun _ => ⟨nI_in (by omega) (by omega), ?_⟩⟩
  rw [nI_clamp (by omega)]
  exact h1 l a b rfl
