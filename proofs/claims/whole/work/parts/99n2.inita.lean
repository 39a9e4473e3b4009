/-! constructors: rows that are named as they come -/
section
variable {own : String} {cc : ByteArray} {nL : Nat} {p : Program} {l : Launch} {e : Env} {R : Room} {s : State} {m : MethodId} {args : Array Value} {below : List Frame} {meth : Method} {c : Code} {D : va_G} {cI cB : ClassId} {H : Heap} {locs : List Loc} {cells slots : Nat} {Q : State → Prop} {A : Nat → Prop} {ls : Array Slot} {rest : List Value} {pc h0 ci : Nat} {fs : List Value} {r ws : va_W}
theorem i_naI2 (C0 : KJ own cc nL p s m args c D cI cB) (hmn : meth.name = "<init>") (hA : ∀ q, s.heap.size ≤ q → A q) (hP : va_P D vwCl ((h0, .inr (ci, fs)) :: r) H) (hD : va_D A ((h0, .inr (ci, fs)) :: r)) (hS : va_S A s.heap H locs) {v : Int32} (n : Nat) (hn0 : ¬ v < 0) (hN : v.toNatClampNeg = n) (hby : n * componentBytes .int ≤ 536870912) (hcells : cells + 1 ≤ R.cells) (hslots : slots + n ≤ R.slots) {k idx n0 : Nat} (hd1 : decode cc pc = .ok (.newarray .int, 2)) (hd2 : decode cc (pc + 2) = .ok (.putfield idx, 3)) (hf : FF own idx ci k (.array .int)) (hfl : fs.length = n0) (hk : Nat.ble (k + 1) n0 = true)
    (fs' : Nat → List Value) (r' : Nat → va_W) (h1 : ∀ q, fs.set k (.ref q) = fs' q) (h2 : ∀ q, r ++ [(q, .inl (cI, n, .inl (fun _ => 0)))] = r' q) (kk : ∀ (q : Nat) (H1 : Heap) (locs1 : List Loc), va_P D vwCl ((h0, .inr (ci, fs' q)) :: r' q) H1 → va_D A ((h0, .inr (ci, fs' q)) :: r' q) → va_S A s.heap H1 locs1 → (fs' q).length = n0 → W p l e R s m args below meth c H1 locs1 (cells + 1) (slots + n) Q (F0 m (pc + 2 + 3) ls rest)) : W p l e R s m args below meth c H locs cells slots Q (F0 m pc ls (.int v :: .ref h0 :: rest)) := by
  refine i_naI C0 hmn hA hP hD hS n hn0 hN hby hcells hslots hd1 hd2 hf hfl hk (fun q H1 locs1 a1 b1 c1 d1 => ?_)
  rw [h1, h2] at a1 b1
  rw [h1] at d1
  exact kk q H1 locs1 a1 b1 c1 d1
theorem i_naB2 (C0 : KJ own cc nL p s m args c D cI cB) (hmn : meth.name = "<init>") (hA : ∀ q, s.heap.size ≤ q → A q) (hP : va_P D vwCl ((h0, .inr (ci, fs)) :: r) H) (hD : va_D A ((h0, .inr (ci, fs)) :: r)) (hS : va_S A s.heap H locs) {v : Int32} (n : Nat) (hn0 : ¬ v < 0) (hN : v.toNatClampNeg = n) (hby : n * componentBytes .byte ≤ 536870912) (hcells : cells + 1 ≤ R.cells) (hslots : slots + n ≤ R.slots) {k idx n0 : Nat} (hd1 : decode cc pc = .ok (.newarray .byte, 2)) (hd2 : decode cc (pc + 2) = .ok (.putfield idx, 3)) (hf : FF own idx ci k (.array .byte)) (hfl : fs.length = n0) (hk : Nat.ble (k + 1) n0 = true)
    (fs' : Nat → List Value) (r' : Nat → va_W) (h1 : ∀ q, fs.set k (.ref q) = fs' q) (h2 : ∀ q, r ++ [(q, .inl (cB, n, .inl (fun _ => 0)))] = r' q) (kk : ∀ (q : Nat) (H1 : Heap) (locs1 : List Loc), va_P D vwCl ((h0, .inr (ci, fs' q)) :: r' q) H1 → va_D A ((h0, .inr (ci, fs' q)) :: r' q) → va_S A s.heap H1 locs1 → (fs' q).length = n0 → W p l e R s m args below meth c H1 locs1 (cells + 1) (slots + n) Q (F0 m (pc + 2 + 3) ls rest)) : W p l e R s m args below meth c H locs cells slots Q (F0 m pc ls (.int v :: .ref h0 :: rest)) := by
  refine i_naB C0 hmn hA hP hD hS n hn0 hN hby hcells hslots hd1 hd2 hf hfl hk (fun q H1 locs1 a1 b1 c1 d1 => ?_)
  rw [h1, h2] at a1 b1
  rw [h1] at d1
  exact kk q H1 locs1 a1 b1 c1 d1
end
