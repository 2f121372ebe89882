/-! the law's roads: what they share -/
section LSA
variable {p : Program} {l : Launch} {e : Env} {s : State} {m : MethodId} {below : List Frame} {meth : Method} {c : Code} {Q : State → Prop} {A : Nat → Prop} {G : va_G} {ct : Nat → ClassId} {adK adV : Nat → Nat} {tA : Nat} {cells slots b L j : Nat} {xs : Nat → Int32} {aX aN aK aT aH aR aV aM : Nat → Nat} {gG gY gZ : Nat} {SX SR : zRS} {SN SK SH : zHS} {ST : zTS} {SV : Nat → Nat → Int64} {SG SY SZ : Nat → Int32} {SD : List (Nat × zPS)} {SE : List ((Nat → Nat) × zQS)} {SM : zMS}
variable {cc : ByteArray} {own : String} {Cs : List va_W} {lv : List (Nat × Value)} {pc : Nat} {st : List Value} {R : Room} {args : Array Value} {nL : Nat}
theorem z_sld (E : zE p s m args meth c A G ct nL cc own) (hX : va_X b L xs s s.heap) (hbl : b < s.heap.size) (hbA : ¬ A b) {i : Nat} (hi : i < L) (hL : L < 2 ^ 31) (hdg : decode cc pc = .ok (.iaload, 1)) (K : zJ p l e R s m args below meth c Q A G nL cells slots Cs lv (pc + 1) (.int (xs i) :: st)) : zJ p l e R s m args below meth c Q A G nL cells slots Cs lv pc (.int (nI i) :: .ref b :: st) := by
  intro H locs ls hP hD hS hl
  refine va_sld E.1 E.2.1 hX hbl hbA hS (nI_in hi hL) hdg ?_
  rw [nI_clamp (by omega)]
  exact K H locs ls hP hD hS hl
theorem z_sln (E : zE p s m args meth c A G ct nL cc own) (hX : va_X b L xs s s.heap) (hbl : b < s.heap.size) (hbA : ¬ A b) (hdg : decode cc pc = .ok (.arraylength, 1)) (K : zJ p l e R s m args below meth c Q A G nL cells slots Cs lv (pc + 1) (.int (nI L) :: st)) : zJ p l e R s m args below meth c Q A G nL cells slots Cs lv pc (.ref b :: st) := by
  intro H locs ls hP hD hS hl
  exact va_slen E.1 E.2.1 hX hbl hbA hS hdg (K H locs ls hP hD hS hl)
theorem z_arg (E : zE p s m args meth c A G ct nL cc own) (hX : va_X b L xs s s.heap) (hbl : b < s.heap.size) (hbA : ¬ A b) (hL : L ≤ 3072) (k : Nat) {n : Int} (hn : Int32.ofInt n = nI k) (hj : j + k < L) (h3 : lv[0]? = some (3, .int (nI j))) (h0 : lv[3]? = some (0, .ref b)) (d0 : decode cc pc = .ok (.aload_n 0, 1)) (d1 : decode cc (pc + 1) = .ok (.iload_n 3, 1)) (d2 : decode cc (pc + 1 + 1) = .ok (.iconst n, 1)) (d3 : decode cc (pc + 1 + 1 + 1) = .ok (.iadd, 1)) (d4 : decode cc (pc + 1 + 1 + 1 + 1) = .ok (.iaload, 1)) (K : zJ p l e R s m args below meth c Q A G nL cells slots Cs lv (pc + 1 + 1 + 1 + 1 + 1) (.int (xs (j + k)) :: st)) : zJ p l e R s m args below meth c Q A G nL cells slots Cs lv pc st := by
  refine z_aload_n E d0 rfl h0 ?_
  refine z_iload_n E d1 rfl h3 ?_
  refine z_iconst E d2 hn ?_
  refine z_iadd (v := nI (j + k)) E d3 (nI_add j k).symm ?_
  exact z_sld E hX hbl hbA hj (by omega) d4 K
theorem z_xdr {x9 : Nat → Nat} {n9 k9 t9 r9 p9 g9 y9 z9 i : Nat} {S : zRS} (E : zE p s m args meth c A G ct nL cc own) (hi : Cs[i]? = some (wX x9 n9 k9 t9 r9 p9 g9 y9 z9 ct S)) : ∀ (H : Heap) (locs : List Loc), va_P G vwCl (zfl Cs) H → va_S A s.heap H locs → ∃ cellB : Cell, H[x9 200]? = some cellB ∧ cellB.vm.isStatics = false ∧ s.vm.findClass RX11 = some cellB.cls := fun H _ hP _ => by
  obtain ⟨q0, h0, -⟩ := zfl_cell (j := 0) hi rfl
  exact va_recv E.2.2.2.2.2.1 hP (ci := 11) rfl h0
end LSA
