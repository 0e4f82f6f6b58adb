/-! ===== a segment in the middle ===== -/
theorem splice_shift (a : Nat × va_E) : ∀ (is : List Nat) (w1 ws : va_W), splice (a :: ws) (is.map (· + 1)) w1 = a :: splice ws is w1
  | [], w1, ws => by cases w1 <;> rfl
  | i :: is, [], ws => rfl
  | i :: is, q :: w1, ws => splice_shift a is w1 (ws.set i q)
theorem splice_pre (is : List Nat) (w1 ws : va_W) : ∀ pre : va_W, splice (pre ++ ws) (is.map (· + pre.length)) w1 = pre ++ splice ws is w1
  | [] => by simp
  | a :: pre => by
    show splice (a :: (pre ++ ws)) (is.map (· + (pre.length + 1))) w1 = a :: (pre ++ splice ws is w1)
    rw [← splice_pre is w1 ws pre, ← splice_shift a, List.map_map]
    congr 2
theorem splice_all : ∀ (mid mid' post : va_W), mid'.length = mid.length → splice (mid ++ post) (List.range mid.length) mid' = mid' ++ post
  | [], [], _, _ => rfl
  | [], _ :: _, _, h => nomatch h
  | _ :: _, [], _, h => nomatch h
  | a :: mid, b :: mid', post, h => by
    show splice (a :: (mid ++ post)) (List.range (mid.length + 1)) (b :: mid') = b :: (mid' ++ post)
    rw [List.range_succ_eq_map]
    show splice (b :: (mid ++ post)) ((List.range mid.length).map Nat.succ) mid' = _
    rw [show (Nat.succ : Nat → Nat) = (· + 1) from rfl, splice_shift b, splice_all mid mid' post (Nat.succ.inj h)]
theorem splice_mid {ws ws' pre mid mid' post : va_W} {is : List Nat} (h1 : ws = pre ++ (mid ++ post)) (h2 : ws' = pre ++ (mid' ++ post)) (h3 : ((List.range mid.length).map (· + pre.length), mid'.length) = (is, mid.length)) : splice ws is mid' = ws' := by
  have e1 : (List.range mid.length).map (· + pre.length) = is := congrArg Prod.fst h3
  have e2 : mid'.length = mid.length := congrArg Prod.snd h3
  rw [h1, h2, ← e1, splice_pre, splice_all mid mid' post e2]
section B7
variable {p : Program} {l : Launch} {e : Env} {R : Room} {s : State} {m : MethodId} {args : Array Value} {below : List Frame} {meth : Method} {c : Code} {H : Heap} {locs : List Loc} {cells slots : Nat} {Q : State → Prop} {A : Nat → Prop} {g : GX} {pc : Nat} {ls : Array Slot} {rest st0 : List Value}
theorem goV0 {z : Unit} {wc ws : va_W} {av : Array Value} {is : List Nat} (hB : SubW g A s ws wc is H locs) (hr : va_Run p l e R s m args below meth c H locs cells slots 0 0 (F0 m pc ls st0) rest (CV g wc (fun _ : Unit => wc) z av) (inW wc))
    (kk : ∀ (r : Unit), r = z → ∀ (H1 : Heap) (locs1 : List Loc), va_P g.1 vwCl ws H1 → va_S A s.heap H1 locs1 → W p l e R s m args below meth c H1 locs1 cells slots Q (F0 m (pc + 3) ls rest)) : W p l e R s m args below meth c H locs cells slots Q (F0 m pc ls st0) := cg0 hB hr (fun H1 locs1 h1 h2 => kk z rfl H1 locs1 h1 h2)
end B7
