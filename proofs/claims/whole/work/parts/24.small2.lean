section KQ
variable {p : Program} {l : Launch} {e : Env} {R : Room} {s : State} {m : MethodId} {args : Array Value} {below : List Frame} {meth : Method} {c : Code} {H : Heap} {locs : List Loc} {cells slots : Nat} {Q : State → Prop} {pc : Nat} {ls : Array Slot} {rest : List Value} {a : Nat}
theorem k_qs (kk : W p l e R s m args below meth c H locs cells slots Q (F0 m pc ls (.ref a :: rest))) : W p l e R s m args below meth c H locs cells slots Q (F0 m pc ls (va_rf (some a) :: rest)) := kk
theorem k_qn (kk : W p l e R s m args below meth c H locs cells slots Q (F0 m pc ls (.null :: rest))) : W p l e R s m args below meth c H locs cells slots Q (F0 m pc ls (va_rf none :: rest)) := kk
end KQ
theorem P_begin (n : Nat) (u : CS) (v : Nat) : mP (cBegin n u v).1 = mP u.1 + 1 := by
  unfold cBegin; split
  · rfl
  · unfold cMakeOnTip; rw [stat_P (st_takeP _ _ _ _)]; rfl
