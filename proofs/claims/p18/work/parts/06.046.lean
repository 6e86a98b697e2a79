section mg_25
theorem stepR_p {sr : Nat → Int} {len : Int} {take inner : PS → Bool × PS} {it bh : Bool} (ht : psUp len take) (hi : psUp len inner) : psUp len (stepR sr len take inner it bh) := by
  intro q hq
  unfold stepR
  split
  · rename_i ok
    have hl := here_lt (sr := sr) (len := len) (a := q.1) (by rcases ok with g | g | g | g | g | g | g | ⟨g, -⟩ | ⟨g | ⟨g, -⟩, -⟩ <;> omega)
    have hq1 := adv_ok hq hl
    have K : ∀ f : PS → Bool × PS, psUp len f → psOk len (f (advF q)).2 ∧ q.1 ≤ (f (advF q)).2.1 := fun f hf => ⟨(hf _ hq1).1, Int.le_trans adv_up (hf _ hq1).2⟩
    unfold stepG
    split
    · exact K (fun q => andR (andR (nR sr len 1 0 7 q) (gR sr len 61)) (vR sr len)) (andR_upp (andR_upp (nR_p (by decide)) (gR_p (by decide))) vR_p)
    · split
      · exact K _ (nR_p (by decide))
      · split
        · exact K _ ht
        · split
          · exact K _ aR_p
          · split
            · exact K (fun q => andR (andR (aR sr len q) (gR sr len 62)) (nR sr len 2 0 99)) (andR_upp (andR_upp aR_p (gR_p (by decide))) (nR_p (by decide)))
            · split
              · exact K _ (nR_p (by decide))
              · split
                · exact K (fun q => andR (andR (andR (andR (nR sr len 1 0 7 q) (gR sr len 60)) (vR sr len)) (gR sr len 58)) inner) (andR_upp (andR_upp (andR_upp (andR_upp (nR_p (by decide)) (gR_p (by decide))) vR_p) (gR_p (by decide))) hi)
                · obtain ⟨a, b⟩ := open_p (c := hereF sr len q.1) hq1 (fun g => by
                    show 0 < q.2.2.2.2
                    rcases ok with z | z | z | z | z | z | z | ⟨z, -⟩ | ⟨z | ⟨z, z2⟩, -⟩ <;> omega) (by
                    have := hq.2.2.2.2.2.2.2
                    show q.2.2.2.2 ≤ q.1 + 1 + 89
                    omega)
                  exact ⟨a, Int.le_trans adv_up b⟩
  · exact ⟨fail_ok hq hq.1 hq.2.1, fail_up⟩
end mg_25
