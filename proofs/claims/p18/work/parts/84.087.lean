section mg_96
noncomputable def wbC (c c2 : Nat → Int) (N S K : Nat) : Nat → Int := fbC (updI (updI (updI (updI (mixR (updI (mixR (updI (mixR (updI c 0 (c2 0)) c2 32 (32 + 3 * N)) 1 (c2 1)) c2 304 (304 + 3 * S)) 2 (c2 2)) c2 488 (488 + 9 * K)) 3 (c2 3)) (8 + 0) (c2 (8 + 0))) (8 + 1) (c2 (8 + 1))) (8 + 2) (c2 (8 + 2))) c2
noncomputable def wbD (C C2 : Nat → Nat → Int) (sz : Nat → Nat) : Nat → Nat → Int := ibD (ibD (ibD (ibD (ibD (ibD C C2 sz 0) C2 sz 1) C2 sz 2) C2 sz 3) C2 sz 4) C2 sz 5
noncomputable def wbG (g g2 : Nat → Option Nat) (N K : Nat) : Nat → Option Nat := mixO (mixE g g2 N) g2 180 (180 + 2 * K)
end mg_96
