/-! the law's own rows: the script, the switch, the end -/
abbrev sX (x : Cx) (b N : Nat) (sx : Nat → Int32) : Prop := va_X b N sx (xs x) (xs x).heap ∧ b < (xs x).heap.size ∧ ¬ xA x b
section R12
variable {x : Cx} {R0 : Room} {own : String} {cc : ByteArray} {Ts : List Cond} {X : va_W} {L : List (Nat × Value)} {k n pc : Nat} {st : List Value}
theorem xw_sald (f : fx x R0 own cc Ts) {b N : Nat} {sx : Nat → Int32} (hX : sX x b N sx) {i : Int32} (hd : decode cc pc = .ok (.iaload, 1)) (hin : vp_in i N) (kk : ww x X L k n (pc + 1) (.int (sx i.toNatClampNeg) :: st)) : ww x X L k n pc (.int i :: .ref b :: st) :=
  fun H locs ls hP hD hS hl => va_sld f.1 f.2.1 hX.1 hX.2.1 hX.2.2 hS hin hd (kk H locs ls hP hD hS hl)
theorem xw_slen (f : fx x R0 own cc Ts) {b N : Nat} {sx : Nat → Int32} (hX : sX x b N sx) (hd : decode cc pc = .ok (.arraylength, 1)) (kk : ww x X L k n (pc + 1) (.int (Int32.ofNat N) :: st)) : ww x X L k n pc (.ref b :: st) :=
  fun H locs ls hP hD hS hl => va_slen f.1 f.2.1 hX.1 hX.2.1 hX.2.2 hS hd (kk H locs ls hP hD hS hl)
theorem xw_tsw (f : fx x R0 own cc Ts) {dflt : Int} {offs : Array Int} {len dt : Nat} {v : Int32} (T : List Nat) (hd : decode cc pc = .ok (.tableswitch dflt 0 35 offs, len)) (hT : ∀ j : Nat, j < 36 → (offs[j]?).map (fun o => (pc : Int) + o) = (T[j]?).map (fun t => (t : Int))) (hl : T.length = 36) (hdt : (pc : Int) + dflt = (dt : Int))
    (kk : (∀ j : Nat, j < 36 → v = nI j → ∀ t : Nat, T[j]? = some t → ww x X L k n t st) ∧ ((∀ j : Nat, j < 36 → v ≠ nI j) → ww x X L k n dt st)) : ww x X L k n pc (.int v :: st) := by
  intro H locs ls hP hD hS hl'
  by_cases h : v.toInt < 0 ∨ 35 < v.toInt
  · exact lv_tableOut f.1 f.2.1 hd h hdt (kk.2 (fun j hj e => by subst e; rw [nI_toInt (by omega)] at h; omega) H locs ls hP hD hS hl')
  · have hv : v = nI v.toInt.toNat := Int32.toInt_inj.mp (by rw [nI_toInt (by omega)]; omega)
    have hj : v.toInt.toNat < 36 := by omega
    have hT2 := hT _ hj
    have ht : T[v.toInt.toNat]? = some T[v.toInt.toNat] := List.getElem?_eq_getElem (by omega)
    rw [ht] at hT2
    cases ho : offs[v.toInt.toNat]? with
    | none => rw [ho] at hT2; cases hT2
    | some o =>
      rw [ho] at hT2
      exact lv_tableIn f.1 f.2.1 hd (by omega) (by omega) (by rw [show (v.toInt - 0).toNat = v.toInt.toNat by omega]; exact ho) (Option.some.inj hT2) (kk.1 _ hj hv _ ht H locs ls hP hD hS hl')
end R12
