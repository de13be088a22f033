theorem BI_0 : BI 0 FM := by
  have hdue : ∀ o p, dueM FM o p = -1 := fun o p => by
    unfold dueM
    rw [fm_60, if_pos (by decide)]
    show foF (FM 56) (FM 57) p 6 (0 - 4) = -1
    rfl
  have hEV : ∀ e : Nat, e < 4 → EV e FM := by
    intro e he
    have h6 : FM (19 + 9 * e) 6 = 0 := by
      rcases (show e = 0 ∨ e = 1 ∨ e = 2 ∨ e = 3 by omega) with h | h | h | h <;> subst h
      · exact fm_19_6
      · exact fm_28_6
      · exact fm_37_6
      · exact fm_46_6
    have h7 : FM (19 + 9 * e) 7 = 0 := by
      rcases (show e = 0 ∨ e = 1 ∨ e = 2 ∨ e = 3 by omega) with h | h | h | h <;> subst h
      · exact fm_19_7
      · exact fm_28_7
      · exact fm_37_7
      · exact fm_46_7
    have h8 : FM (19 + 9 * e) 8 = -1 := by
      rcases (show e = 0 ∨ e = 1 ∨ e = 2 ∨ e = 3 by omega) with h | h | h | h <;> subst h
      · exact fm_19_8
      · exact fm_28_8
      · exact fm_37_8
      · exact fm_46_8
    have h9 : FM (19 + 9 * e) 9 = 0 := by
      rcases (show e = 0 ∨ e = 1 ∨ e = 2 ∨ e = 3 by omega) with h | h | h | h <;> subst h
      · exact fm_19_9
      · exact fm_28_9
      · exact fm_37_9
      · exact fm_46_9
    have h64 := fm_64 e
    have h66 := fm_66 e
    have h65 := fm_65 e
    have h68 := fm_68 e
    have h67 : FM 67 e = -1 := (fm_67 e).trans (if_pos (by omega))
    refine ⟨⟨by omega, by omega⟩, by omega, fun k h1 h2 => absurd h2 (by omega), by omega, by omega, ?_, fun h => absurd h (by omega), ⟨fun _ => h66, fun _ => h65⟩, fun h => absurd h (by omega)⟩
    rw [h9, if_neg (show ¬ FM 66 e = 3 by omega)]
  have hno : noK FM := ⟨fun j _ _ => fm_10 j, fun k _ _ => fm_71 k⟩
  refine ⟨⟨⟨fun c _ _ => (fm_5 c).trans (fm_56 c).symm, fun j _ _ => (fm_6 j).trans (fm_57 j).symm, fun n _ _ => (fm_7 n).trans (fm_58 n).symm, ⟨fm_4_4.trans fm_55_0.symm, fm_4_5.trans fm_55_5.symm, by rw [fm_4_6, fm_55_9]; rfl, fm_4_7.trans fm_55_10.symm⟩, fun n _ _ => (fm_8 n).trans (fm_59 n).symm, fun o p _ _ _ _ => (fm_8 _).trans (fm_62 _).symm, fun o _ _ => ⟨(fm_8 _).trans (fm_61 o).symm, (fm_8 _).trans (fm_60 o).symm⟩⟩, ?_, ?_, fun _ => fm_55_9⟩, ?_, noK_all hno, fun _ => ⟨fm_9_3, hno, fun e he => by rw [fm_66]; decide⟩, ?_, hEV, fun j _ => fm_74 j⟩
  · refine ⟨by rw [fm_55_0]; decide, by rw [fm_55_5]; decide, by rw [fm_55_9]; decide, by rw [fm_55_10]; decide, fun c _ _ => by rw [fm_56]; decide, fun c h1 h2 => ?_, fun j h1 h2 => ?_, fun n h1 h2 => ?_, fun o h1 h2 => ?_, fun o _ _ => by rw [fm_60]; decide, fun o _ _ => by rw [fm_61]; decide, fun o h1 h2 => ?_, fun n h1 h2 h => absurd (by rw [fm_58, if_pos ⟨h1, h2⟩]) h, fun j h1 h2 h => absurd (by rw [fm_57, if_pos ⟨h1, h2⟩]) h⟩
    · rw [fm_55_0] at h2; omega
    · rw [fm_57, if_pos ⟨h1, h2⟩]; decide
    · rw [fm_58, if_pos ⟨h1, h2⟩]; decide
    · rw [fm_55_5] at h2; omega
    · rw [fm_55_5] at h2; omega
  · refine ⟨fun o h1 h2 => ?_, fun o _ _ => ⟨fm_60 o, fm_61 o⟩, fun c n _ h2 h3 h4 => ?_, fun c d n h1 h2 => ?_, fun n h1 h2 => ⟨fun h => ?_, fun _ => fm_59 n⟩, fun o p _ _ _ _ => ⟨fun h => absurd (hdue o p) h, fun _ => fm_62 _⟩⟩
    · rw [fm_55_5] at h2; omega
    · rename_i hc
      rw [fm_55_0] at hc
      rw [fm_57, if_pos (by omega)]
    · rw [fm_55_0] at h2; omega
    · exact absurd (by rw [fm_58, if_pos ⟨h1, h2⟩]) h
  · refine ⟨fm_9_5.trans fm_55_11.symm, by rw [fm_9_5]; decide, ⟨fm_55_21.trans fm_9_3.symm, fm_55_24.trans fm_9_4.symm, by rw [fm_9_3]; decide, fun k h1 h2 => ?_⟩, fun k h1 h2 => ?_, by rw [fm_9_3, fm_9_4]; decide, by rw [fm_9_4]; decide⟩
    · rw [fm_9_3] at h2; omega
    · rw [fm_9_3] at h2; omega
  · refine ⟨by rw [fm_1_4, fm_64], by rw [fm_64]; decide, fun k h1 h2 => ?_⟩
    rw [fm_64] at h2; omega
