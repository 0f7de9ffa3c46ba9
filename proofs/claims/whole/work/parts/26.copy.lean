section GFF
variable {p : Program} {l : Launch} {e : Env} {R : Room} {s : State} {m : MethodId} {args : Array Value} {below : List Frame} {meth : Method} {c : Code} {H : Heap} {locs : List Loc} {cells slots : Nat} {Q : State → Prop}
variable {cc : ByteArray} {nL : Nat} {ret : Option FieldType} {own : String} {D : va_G} {ts : gY} {A : Nat → Prop} {W1 W2 : va_W} {pc : Nat} {ls : Array Slot} {rest st0 : List Value} {index q0 n a : Nat} {cA : ClassId}
/-- a new array of bytes, the world's last cell -/
theorem g_newB (C0 : gC p s m args meth c cc nL ret own D ts A) (G : gW D W1 A s H locs) (t0 : Nat) (ht : ts[t0]? = some (cA, .byte)) (harr : Cond.arrayClass .byte ∈ gTs) (hn : n < 1000) (hc : cells + 1 ≤ R.cells) (hs : slots + n ≤ R.slots) (hdg : decode cc pc = .ok (.newarray .byte, 2))
    (kk : ∀ (q : Nat) (H1 : Heap), gW D (W1 ++ [(q, .inl (cA, n, .inl (fun _ => 0)))]) A s H1 locs → W p l e R s m args below meth c H1 locs (cells + 1) (slots + n) Q (F0 m (pc + 2) ls (.ref q :: rest))) : W p l e R s m args below meth c H locs cells slots Q (F0 m pc ls (.int (nI n) :: rest)) := by
  obtain ⟨hx, hb, hml, hr, hlk, hown, hts, hK, hT, hS, hA⟩ := id C0
  refine va_newa (atype := .byte) (ty := .byte) (a0 := (n, .inl (fun _ => 0))) hx hb (hts _ harr) rfl hK G.1 G.2.1 G.2.2 hA (fun _ => rfl) (fun h => ?_) (nI_clamp (by omega)) (by show n * 1 ≤ _; omega) hc hs hdg (fun q cB H1 k1 k2 k3 k4 => ?_)
  · rw [Int32.lt_iff_toInt_lt, nI_toInt (by omega)] at h
    have : (0 : Int32).toInt = 0 := by decide
    omega
  · have e1 : s.vm.findClass ("[" ++ (FieldType.byte).toString) = some cA := (hK.2 t0 _ ht).2
    have e2 : s.vm.findClass ("[" ++ (FieldType.byte).toString) = some cB := (k1.2 ts.length (cB, .byte) (by simp)).2
    have e3 : cB = cA := Option.some.inj (e2.symm.trans e1)
    subst e3
    exact kk q H1 ⟨k2, k3, k4⟩
end GFF
