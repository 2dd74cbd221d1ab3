/-! cutting, by the component -/
theorem isU_put {c n : Nat} (hc : c ≤ 50) (hn : n < 32 ^ 12) (v : Nat → Int32) : isU (putF (clrF v 32) n (nI c) (wlen n)) (fun l => c * cnt n l) := fun l a b => by
  have hcl := cnt_le hn l
  have hm : c * cnt n l ≤ 50 * 12 := Nat.mul_le_mul hc hcl
  exact ⟨put_clr hn v c l (by omega), by show c * cnt n l < _; omega⟩
theorem p_ccut {p : Int64} {z v1 : Int32} {v0 v2 v3 : Nat → Int32} {u : Nat → Nat} (hu : isU v0 u) {post : Int32 → (Nat → Int32) → (Nat → Int32) → (Nat → Int32) → Prop} {postX : String → (Nat → Int32) → (Nat → Int32) → (Nat → Int32) → Prop}
    (h1 : ∀ n c : Nat, p = lN n → isW n → z = nI c → 1 ≤ c → c ≤ 50 → roomU u (fun l => c * cnt n l) → ∀ inc, isU inc (fun l => c * cnt n l) → post (sumI (padF v0 inc 26) 26) (padF v0 inc 26) (padF v2 inc 26) inc)
    (h2 : ∀ n c : Nat, p = lN n → isW n → z = nI c → 1 ≤ c → c ≤ 50 → ¬ roomU u (fun l => c * cnt n l) → ∀ inc, postX sISE v0 v2 inc) (hi : ¬ (isWd p ∧ inR z 1 50) → postX sIAE v0 v2 v3) : P_X8_cut post postX p z v0 v1 v2 v3 := by
  refine p_reqWord (fun hw => p_range (lo := 1) (hi := 50) (by omega) (by omega) (fun hz => ?_) (fun h => hi fun q => h q.2)) (fun h => hi fun q => h q.1)
  obtain ⟨n, rfl, hw⟩ := hw
  obtain ⟨c, a, b, rfl⟩ := hz
  have hinc := isU_put b hw.2.1 v3
  exact p_clear (p_put hw.2.1 (p_reqRoom hu hinc (fun hr => p_putAll (p_putAll (p_total (h1 n c rfl hw rfl a b hr _ hinc)))) (fun hr => h2 n c rfl hw rfl a b hr _)))
