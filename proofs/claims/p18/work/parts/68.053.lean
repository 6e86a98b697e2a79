section mg_73
/-- how the names of two things stand -/
def agT (m : Nat → Int) (t o : Nat) : Int := agV m m t (265 + 14 * o) (m (261 + 14 * o))
end mg_73
