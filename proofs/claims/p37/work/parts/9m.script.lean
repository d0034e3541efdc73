/-! THE LAW: rows for the script -/
section RowsS
variable {p : Program} {l : Launch} {e : Env} {R : Room} {s : State} {m : MethodId} {args : Array Value} {below : List Frame} {meth : Method} {c : Code} {G : gW} {own : String} {cc : ByteArray} {nL : Nat} {M : Mem} {cells slots pc mc0 ms0 : Nat} {lo : List (Nat × Value)} {st : List Value} {Qc : Array Value → State → Outcome → State → Prop} {X0 : String → Mem → Prop} {XC : String → State → State → Prop}
variable {Q : State → Prop}
theorem r_slen (Cc : Cx p l s m args meth c G own cc nL) {b L : Nat} {xs : Nat → Int32} (hX : va_X b L xs s s.heap) (hbl : b < s.heap.size) (hbA : ¬ gA G b) (hd : decode cc pc = .ok (.arraylength, 1)) (k : V p l e R s m args below meth c G Q nL M cells slots (pc + 1) lo (.int (nI L) :: st)) : V p l e R s m args below meth c G Q nL M cells slots pc lo (.ref b :: st) :=
  fun H locs ls h1 h2 h3 => va_slen Cc.1 Cc.2.1 hX hbl hbA h2 hd (k H locs ls h1 h2 h3)
theorem r_sld (Cc : Cx p l s m args meth c G own cc nL) {b L i : Nat} {xs : Nat → Int32} (hX : va_X b L xs s s.heap) (hbl : b < s.heap.size) (hbA : ¬ gA G b) (hL : L ≤ 4096) (hi : i < L) (hd : decode cc pc = .ok (.iaload, 1)) (k : V p l e R s m args below meth c G Q nL M cells slots (pc + 1) lo (.int (xs i) :: st)) : V p l e R s m args below meth c G Q nL M cells slots pc lo (.int (nI i) :: .ref b :: st) :=
  fun H locs ls h1 h2 h3 => va_sld Cc.1 Cc.2.1 hX hbl hbA h2 (fun z => z.elim (nI_pos (by omega)) (fun z => by rw [nI_clamp (n := i) (by omega)] at z; omega)) hd (by rw [nI_clamp (n := i) (by omega)]; exact k H locs ls h1 h2 h3)
end RowsS
