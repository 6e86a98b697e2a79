/-! ===== what is pooled keeps the pool good ===== -/
theorem pooledG {pool tape : Nat → Int} {p a b : Nat} (hab : a ≤ b) (g : GT (clip tape b) 3 a b) (h : GP pool p) : GP (pooledP pool tape p a b) (p + (b - a) + 1) :=
  GP.join h (fun _ hq => pooledP_low hq) (g.sh (fun _ hi => pooledP_cl hi hab)) (by rw [pooledP_at, if_pos rfl])
