section mg_92
end mg_92
section mg_93
/-! ===== the class: tasks that come, things that move, worlds that become others ===== -/
def atC (c : Nat → Int) (K S Z : Nat) (i p : Int) : Nat → Int := tsC (adE (asC (updI c 2 ((K : Int) + 1)) S i (K : Int)) Z) K (S : Int) p
end mg_93
