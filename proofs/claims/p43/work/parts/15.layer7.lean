section MG
variable {p : Program} {l : Launch} {e : Env} {R : Room} {s : State} {m : MethodId} {args : Array Value} {below : List Frame} {meth : Method} {c : Code} {H : Heap} {locs : List Loc} {cells slots : Nat} {Q : State → Prop}
variable {cc : ByteArray} {nL pc : Nat} {ls : Array Slot} {rest : List Value} {A : Nat → Prop} {L : List Nat} {τ : Nat → Nat} {cy : Nat → ClassId} {D : va_G} {K : (Nat → Nat) × (Nat → Nat)} {H0 : Heap} {σ : oSt} {own ref C : String} {T : u_T} {N index : Nat} {a b t j : Nat}
/-- a reference of what is being made is read -/
theorem o_getK (cx : oCx p s m args c cc nL own cy D A K) (hw : oI A L τ cy D H0 σ H locs) (ci k : Nat) (hc : vwCl[ci]? = some (C, T, N)) (hin : ∀ w ∈ u_ws C T N, w ∈ oTT) (ha : oA L τ a t) (ht : t < 32) (hk2 : oKd t = ci) (hk : k < N) (hf : (oFty ci)[k]? = some 2) (href : (T k).1 = ref) (hlink : Cond.fieldLink own index ref (T k).2.1 (T k).2.2.1 ∈ oTT) (hj : 64 * ci + k = j) (hF : σ.2.2.2.2 j a = some b) (hdg : decode cc pc = .ok (.getfield index, 3))
    (kk : W p l e R s m args below meth c H locs cells slots Q (F0 m (pc + 3) ls (.ref b :: rest))) : W p l e R s m args below meth c H locs cells slots Q (F0 m pc ls (.ref a :: rest)) := by
  refine o_getr cx hw ci k hc hin ha ht hk2 hk hf href hlink hdg ?_
  rw [hj, hF]
  exact kk
end MG
