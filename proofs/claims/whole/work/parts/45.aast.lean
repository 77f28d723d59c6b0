/-! a row is laid into a row of rows -/
section XAA
variable {G : xG} {l : Launch} {M : xM} {d : Nat} {Z : List Frame → Array Value → State → Nat → Nat → State → Prop} {k n pc pc2 : Nat} {L : xL} {st : List Value} {h : xH}
theorem x_aast {a b N K j : Nat} {i : Int32} {F : Nat → Value} {f : Nat → Value} (hd : decode M.2.1 pc = .ok (.aastore, 1)) (hp : pc + 1 = pc2) (ha : h.1 a = (4, N, F)) (hb : h.1 b = (0, K, f)) (hi : i = nI j) (hj : j < N) (hN : N < 2147483648) (kk : xWP G l M d Z k n pc2 L st (hs h a (4, N, updV F j (.ref b)))) : xWP G l M d Z k n pc L (.ref b :: .int i :: .ref a :: st) h := by
  intro p e R s m args below meth c H locs cells slots mc ms ls hO hR hS hk hn hl
  subst hp
  obtain ⟨i1, i2⟩ := x_in hi hj hN
  have hlt := hR.lt ha (by omega)
  have hSE := hO.2.2.2.2.2.2.2.2.1
  obtain ⟨comp, cc, kc, h1, -, h3, h4, h5⟩ := arrayOverA_spec hSE.2.2.2.2.1
  have ec : cc = G.2.2.1 4 := Option.some.inj (h5.symm.trans (hSE.2.1 4 (by decide)).2)
  have eo : comp = G.2.2.1 0 := Option.some.inj (h1.symm.trans (hSE.2.1 0 (by decide)).2)
  subst ec eo
  obtain ⟨-, kv, hkv, -⟩ := (hSE.2.1 0 (by decide)).1 K (fun j => xtv G (f j))
  refine W.aast hO.1 hO.2.1 (hR.arr ha (by omega)) (fun q => by intro z; cases z) (fun q => by cases q) h3 h4 rfl hkv ⟨fun z => i1 (Or.inl z), by rw [arrV_size]; exact Nat.lt_of_not_le (fun z => i1 (Or.inr z))⟩ (hR.arr hb (by omega)) (fun q => by intro z; cases z) hkv (Vm.assignable_self _ _) rfl rfl hd (fun H' e1 e2 e3 => kk p e R s m args below meth c H' _ cells slots mc ms ls hO (hR.set hlt (xAt_arr (by omega) ?_ (by rw [i2, arrV_store] at e1; exact e1)) e2 e3) (hS.put e2 e3 (hR.in hlt)) hk hn hl)
  rw [xtv_updV]; rfl
end XAA

