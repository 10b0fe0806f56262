/-! the reference: its object is 100, its row in slot k is 100 + k -/
def ab_slM : Nat → Option (Option Nat) := fun k => match k with
  | 1 => some (some 101)
  | 2 => some (some 102)
  | 3 => some (some 103)
  | 4 => some (some 104)
  | 6 => some (some 106)
  | 7 => some (some 107)
  | 8 => some (some 108)
  | 9 => some (some 109)
  | 10 => some (some 110)
  | 13 => some (some 113)
  | 14 => some (some 114)
  | 15 => some (some 115)
  | 16 => some (some 116)
  | 17 => some (some 117)
  | 19 => some (some 119)
  | 20 => some (some 120)
  | 21 => some (some 121)
  | 22 => some (some 122)
  | 23 => some (some 123)
  | 25 => some (some 125)
  | 27 => some (some 127)
  | 33 => some (some 133)
  | 34 => some (some 134)
  | 35 => some (some 135)
  | 36 => some (some 136)
  | 37 => some (some 137)
  | _ => none
def ab_shM : Nat → Option ab_Sh := fun i => match i with
  | 100 => some (sC 11 ab_slM)
  | 101 => some (sA .boolean 280)
  | 102 => some (sA .int 280)
  | 103 => some (sA .int 280)
  | 104 => some (sA .int 280)
  | 106 => some (sA .int 2800)
  | 107 => some (sA .int 10)
  | 108 => some (sA .int 10)
  | 109 => some (sA .int 10)
  | 110 => some (sA .boolean 10)
  | 113 => some (sA .int 1600)
  | 114 => some (sA .int 1600)
  | 115 => some (sA .int 40)
  | 116 => some (sA .int 40)
  | 117 => some (sA .int 40)
  | 119 => some (sA .int 280)
  | 120 => some (sA .int 1120)
  | 121 => some (sA .int 1120)
  | 122 => some (sA .int 1120)
  | 123 => some (sA .int 1120)
  | 125 => some (sA .byte 400)
  | 127 => some (sA .int 5)
  | 133 => some (sA .int 40)
  | 134 => some (sA .int 40)
  | 135 => some (sA .boolean 280)
  | 136 => some (sA .int 280)
  | 137 => some (sA .int 280)
  | _ => none
/-- the world has the reference in it -/
def ab_SM (S : ab_St) : Prop := ∀ i, 100 ≤ i → i ≤ 137 → ab_shM i ≠ none → S i = ab_shM i
theorem sM_100 {S : ab_St} (h : ab_SM S) : S 100 = some (sC 11 ab_slM) := h 100 (by decide) (by decide) (fun z => by cases z)
theorem sM_101 {S : ab_St} (h : ab_SM S) : S 101 = some (sA .boolean 280) := h 101 (by decide) (by decide) (fun z => by cases z)
theorem sM_102 {S : ab_St} (h : ab_SM S) : S 102 = some (sA .int 280) := h 102 (by decide) (by decide) (fun z => by cases z)
theorem sM_103 {S : ab_St} (h : ab_SM S) : S 103 = some (sA .int 280) := h 103 (by decide) (by decide) (fun z => by cases z)
theorem sM_104 {S : ab_St} (h : ab_SM S) : S 104 = some (sA .int 280) := h 104 (by decide) (by decide) (fun z => by cases z)
theorem sM_106 {S : ab_St} (h : ab_SM S) : S 106 = some (sA .int 2800) := h 106 (by decide) (by decide) (fun z => by cases z)
theorem sM_107 {S : ab_St} (h : ab_SM S) : S 107 = some (sA .int 10) := h 107 (by decide) (by decide) (fun z => by cases z)
theorem sM_108 {S : ab_St} (h : ab_SM S) : S 108 = some (sA .int 10) := h 108 (by decide) (by decide) (fun z => by cases z)
theorem sM_109 {S : ab_St} (h : ab_SM S) : S 109 = some (sA .int 10) := h 109 (by decide) (by decide) (fun z => by cases z)
theorem sM_110 {S : ab_St} (h : ab_SM S) : S 110 = some (sA .boolean 10) := h 110 (by decide) (by decide) (fun z => by cases z)
theorem sM_113 {S : ab_St} (h : ab_SM S) : S 113 = some (sA .int 1600) := h 113 (by decide) (by decide) (fun z => by cases z)
theorem sM_114 {S : ab_St} (h : ab_SM S) : S 114 = some (sA .int 1600) := h 114 (by decide) (by decide) (fun z => by cases z)
theorem sM_115 {S : ab_St} (h : ab_SM S) : S 115 = some (sA .int 40) := h 115 (by decide) (by decide) (fun z => by cases z)
theorem sM_116 {S : ab_St} (h : ab_SM S) : S 116 = some (sA .int 40) := h 116 (by decide) (by decide) (fun z => by cases z)
theorem sM_117 {S : ab_St} (h : ab_SM S) : S 117 = some (sA .int 40) := h 117 (by decide) (by decide) (fun z => by cases z)
theorem sM_119 {S : ab_St} (h : ab_SM S) : S 119 = some (sA .int 280) := h 119 (by decide) (by decide) (fun z => by cases z)
theorem sM_120 {S : ab_St} (h : ab_SM S) : S 120 = some (sA .int 1120) := h 120 (by decide) (by decide) (fun z => by cases z)
theorem sM_121 {S : ab_St} (h : ab_SM S) : S 121 = some (sA .int 1120) := h 121 (by decide) (by decide) (fun z => by cases z)
theorem sM_122 {S : ab_St} (h : ab_SM S) : S 122 = some (sA .int 1120) := h 122 (by decide) (by decide) (fun z => by cases z)
theorem sM_123 {S : ab_St} (h : ab_SM S) : S 123 = some (sA .int 1120) := h 123 (by decide) (by decide) (fun z => by cases z)
theorem sM_125 {S : ab_St} (h : ab_SM S) : S 125 = some (sA .byte 400) := h 125 (by decide) (by decide) (fun z => by cases z)
theorem sM_127 {S : ab_St} (h : ab_SM S) : S 127 = some (sA .int 5) := h 127 (by decide) (by decide) (fun z => by cases z)
theorem sM_133 {S : ab_St} (h : ab_SM S) : S 133 = some (sA .int 40) := h 133 (by decide) (by decide) (fun z => by cases z)
theorem sM_134 {S : ab_St} (h : ab_SM S) : S 134 = some (sA .int 40) := h 134 (by decide) (by decide) (fun z => by cases z)
theorem sM_135 {S : ab_St} (h : ab_SM S) : S 135 = some (sA .boolean 280) := h 135 (by decide) (by decide) (fun z => by cases z)
theorem sM_136 {S : ab_St} (h : ab_SM S) : S 136 = some (sA .int 280) := h 136 (by decide) (by decide) (fun z => by cases z)
theorem sM_137 {S : ab_St} (h : ab_SM S) : S 137 = some (sA .int 280) := h 137 (by decide) (by decide) (fun z => by cases z)
theorem lM_100 {S : ab_St} (h : ab_SM S) : ab_live S (aR 100) := by refine Or.inl ?_; rw [sM_100 h]; exact fun z => by cases z
theorem lM_101 {S : ab_St} (h : ab_SM S) : ab_live S (aR 101) := by refine Or.inl ?_; rw [sM_101 h]; exact fun z => by cases z
theorem lM_102 {S : ab_St} (h : ab_SM S) : ab_live S (aR 102) := by refine Or.inl ?_; rw [sM_102 h]; exact fun z => by cases z
theorem lM_103 {S : ab_St} (h : ab_SM S) : ab_live S (aR 103) := by refine Or.inl ?_; rw [sM_103 h]; exact fun z => by cases z
theorem lM_104 {S : ab_St} (h : ab_SM S) : ab_live S (aR 104) := by refine Or.inl ?_; rw [sM_104 h]; exact fun z => by cases z
theorem lM_106 {S : ab_St} (h : ab_SM S) : ab_live S (aR 106) := by refine Or.inl ?_; rw [sM_106 h]; exact fun z => by cases z
theorem lM_107 {S : ab_St} (h : ab_SM S) : ab_live S (aR 107) := by refine Or.inl ?_; rw [sM_107 h]; exact fun z => by cases z
theorem lM_108 {S : ab_St} (h : ab_SM S) : ab_live S (aR 108) := by refine Or.inl ?_; rw [sM_108 h]; exact fun z => by cases z
theorem lM_109 {S : ab_St} (h : ab_SM S) : ab_live S (aR 109) := by refine Or.inl ?_; rw [sM_109 h]; exact fun z => by cases z
theorem lM_110 {S : ab_St} (h : ab_SM S) : ab_live S (aR 110) := by refine Or.inl ?_; rw [sM_110 h]; exact fun z => by cases z
theorem lM_113 {S : ab_St} (h : ab_SM S) : ab_live S (aR 113) := by refine Or.inl ?_; rw [sM_113 h]; exact fun z => by cases z
theorem lM_114 {S : ab_St} (h : ab_SM S) : ab_live S (aR 114) := by refine Or.inl ?_; rw [sM_114 h]; exact fun z => by cases z
theorem lM_115 {S : ab_St} (h : ab_SM S) : ab_live S (aR 115) := by refine Or.inl ?_; rw [sM_115 h]; exact fun z => by cases z
theorem lM_116 {S : ab_St} (h : ab_SM S) : ab_live S (aR 116) := by refine Or.inl ?_; rw [sM_116 h]; exact fun z => by cases z
theorem lM_117 {S : ab_St} (h : ab_SM S) : ab_live S (aR 117) := by refine Or.inl ?_; rw [sM_117 h]; exact fun z => by cases z
theorem lM_119 {S : ab_St} (h : ab_SM S) : ab_live S (aR 119) := by refine Or.inl ?_; rw [sM_119 h]; exact fun z => by cases z
theorem lM_120 {S : ab_St} (h : ab_SM S) : ab_live S (aR 120) := by refine Or.inl ?_; rw [sM_120 h]; exact fun z => by cases z
theorem lM_121 {S : ab_St} (h : ab_SM S) : ab_live S (aR 121) := by refine Or.inl ?_; rw [sM_121 h]; exact fun z => by cases z
theorem lM_122 {S : ab_St} (h : ab_SM S) : ab_live S (aR 122) := by refine Or.inl ?_; rw [sM_122 h]; exact fun z => by cases z
theorem lM_123 {S : ab_St} (h : ab_SM S) : ab_live S (aR 123) := by refine Or.inl ?_; rw [sM_123 h]; exact fun z => by cases z
theorem lM_125 {S : ab_St} (h : ab_SM S) : ab_live S (aR 125) := by refine Or.inl ?_; rw [sM_125 h]; exact fun z => by cases z
theorem lM_127 {S : ab_St} (h : ab_SM S) : ab_live S (aR 127) := by refine Or.inl ?_; rw [sM_127 h]; exact fun z => by cases z
theorem lM_133 {S : ab_St} (h : ab_SM S) : ab_live S (aR 133) := by refine Or.inl ?_; rw [sM_133 h]; exact fun z => by cases z
theorem lM_134 {S : ab_St} (h : ab_SM S) : ab_live S (aR 134) := by refine Or.inl ?_; rw [sM_134 h]; exact fun z => by cases z
theorem lM_135 {S : ab_St} (h : ab_SM S) : ab_live S (aR 135) := by refine Or.inl ?_; rw [sM_135 h]; exact fun z => by cases z
theorem lM_136 {S : ab_St} (h : ab_SM S) : ab_live S (aR 136) := by refine Or.inl ?_; rw [sM_136 h]; exact fun z => by cases z
theorem lM_137 {S : ab_St} (h : ab_SM S) : ab_live S (aR 137) := by refine Or.inl ?_; rw [sM_137 h]; exact fun z => by cases z
