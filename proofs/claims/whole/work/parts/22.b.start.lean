/-! ===== the memory behind the constructors ===== -/
theorem Ag.mr {W : List (Nat × Nat)} {f g : Nat → Nat → Option Nat} {a n : Nat} (h : Ag W f g) (ha : a ≠ 114 ∧ a ≠ 4) (hw : inW W a = true) : Ag W f (mRr g a n) := fun b j hb => by
  have e : b ≠ a := fun e => by
    rw [e, key_o ha.1 ha.2, hw] at hb
    cases hb
  show (if b = a ∧ j < n then some (a + 1 + j) else g b j) = f b j
  rw [if_neg (fun q => e q.1)]
  exact h b j hb
def W0I : List (Nat × Nat) := [(43, 52), (61, 62), (108, 109), (159, 160), (174, 175), (1000071, 1000072), (1000132, 1000133)]
theorem agmi1 : Ag W0I zI mi1 := Ag.st Ag.rf rfl
theorem agmi2 : Ag W0I zI mi2 := Ag.st agmi1 rfl
theorem agmi3 : Ag W0I zI mi3 := Ag.st agmi2 rfl
theorem agmi4 : Ag W0I zI mi4 := Ag.st agmi3 rfl
theorem agmi5 : Ag W0I zI mi5 := Ag.st agmi4 rfl
theorem agmi6 : Ag W0I zI mi6 := Ag.st agmi5 rfl
theorem agmi7 : Ag W0I zI mi7 := Ag.st agmi6 rfl
theorem agmi8 : Ag W0I zI mi8 := Ag.st agmi7 rfl
theorem agmi9 : Ag W0I zI mi9 := Ag.st agmi8 rfl
theorem agmi10 : Ag W0I zI mi10 := Ag.st agmi9 rfl
theorem agmi11 : Ag W0I zI mi11 := Ag.st agmi10 rfl
theorem agmi12 : Ag W0I zI mi12 := Ag.st agmi11 rfl
theorem agmi13 : Ag W0I zI mi13 := Ag.st agmi12 rfl
theorem agmi14 : Ag W0I zI mi14 := Ag.st agmi13 rfl
theorem agmi15 : Ag W0I zI mi15 := Ag.st agmi14 rfl
theorem agmi16 : Ag W0I zI mi16 := Ag.st agmi15 rfl
theorem agmi17 : Ag W0I zI mi17 := Ag.st agmi16 rfl
theorem agmi18 : Ag W0I zI mi18 := Ag.st agmi17 rfl
theorem agmi19 : Ag W0I zI mi19 := Ag.st agmi18 rfl
theorem agmi20 : Ag W0I zI mi20 := Ag.st agmi19 rfl
theorem agmi21 : Ag W0I zI mi21 := Ag.st agmi20 rfl
theorem agmi22 : Ag W0I zI mi22 := Ag.st agmi21 rfl
theorem agmi23 : Ag W0I zI mi23 := Ag.st agmi22 rfl
theorem agmi24 : Ag W0I zI mi24 := Ag.st agmi23 rfl
theorem agmi25 : Ag W0I zI mi25 := Ag.st agmi24 rfl
def W0J : List (Nat × Nat) := [(52, 53), (55, 56), (58, 61), (165, 166), (173, 174), (175, 177)]
theorem agmj1 : Ag W0J zJ mj1 := Ag.st Ag.rf rfl
theorem agmj2 : Ag W0J zJ mj2 := Ag.st agmj1 rfl
theorem agmj3 : Ag W0J zJ mj3 := Ag.st agmj2 rfl
theorem agmj4 : Ag W0J zJ mj4 := Ag.st agmj3 rfl
theorem agmj5 : Ag W0J zJ mj5 := Ag.st agmj4 rfl
theorem agmj6 : Ag W0J zJ mj6 := Ag.st agmj5 rfl
theorem agmj7 : Ag W0J zJ mj7 := Ag.st agmj6 rfl
theorem agmj8 : Ag W0J zJ mj8 := Ag.st agmj7 rfl
theorem agmj9 : Ag W0J zJ mj9 := Ag.st agmj8 rfl
theorem agmj10 : Ag W0J zJ mj10 := Ag.st agmj9 rfl
theorem agmj11 : Ag W0J zJ mj11 := Ag.st agmj10 rfl
theorem agmj12 : Ag W0J zJ mj12 := Ag.st agmj11 rfl
theorem agmj13 : Ag W0J zJ mj13 := Ag.st agmj12 rfl
theorem agmj14 : Ag W0J zJ mj14 := Ag.st agmj13 rfl
theorem agmj15 : Ag W0J zJ mj15 := Ag.st agmj14 rfl
theorem agmj16 : Ag W0J zJ mj16 := Ag.st agmj15 rfl
theorem agmj17 : Ag W0J zJ mj17 := Ag.st agmj16 rfl
theorem agmj18 : Ag W0J zJ mj18 := Ag.st agmj17 rfl
theorem agmj19 : Ag W0J zJ mj19 := Ag.st agmj18 rfl
theorem agmj20 : Ag W0J zJ mj20 := Ag.st agmj19 rfl
theorem agmj21 : Ag W0J zJ mj21 := Ag.st agmj20 rfl
theorem agmj22 : Ag W0J zJ mj22 := Ag.st agmj21 rfl
theorem agmj23 : Ag W0J zJ mj23 := Ag.st agmj22 rfl
theorem agmj24 : Ag W0J zJ mj24 := Ag.st agmj23 rfl
theorem agmj25 : Ag W0J zJ mj25 := Ag.st agmj24 rfl
theorem agmj26 : Ag W0J zJ mj26 := Ag.st agmj25 rfl
theorem agmj27 : Ag W0J zJ mj27 := Ag.st agmj26 rfl
theorem agmj28 : Ag W0J zJ mj28 := Ag.st agmj27 rfl
theorem agmj29 : Ag W0J zJ mj29 := Ag.st agmj28 rfl
theorem agmj30 : Ag W0J zJ mj30 := Ag.st agmj29 rfl
theorem agmj31 : Ag W0J zJ mj31 := Ag.st agmj30 rfl
theorem agmj32 : Ag W0J zJ mj32 := Ag.st agmj31 rfl
theorem agmj33 : Ag W0J zJ mj33 := Ag.st agmj32 rfl
theorem agmj34 : Ag W0J zJ mj34 := Ag.st agmj33 rfl
theorem agmj35 : Ag W0J zJ mj35 := Ag.st agmj34 rfl
theorem agmj36 : Ag W0J zJ mj36 := Ag.st agmj35 rfl
def W0D : List (Nat × Nat) := [(26, 27), (1000094, 1000095)]
theorem agmdd1 : Ag W0D zD mdd1 := Ag.st Ag.rf rfl
theorem agmdd2 : Ag W0D zD mdd2 := Ag.st agmdd1 rfl
def W0R : List (Nat × Nat) := [(5, 6), (7, 8), (9, 10), (17, 18), (26, 29), (32, 33), (42, 43), (57, 58), (62, 63), (66, 67), (71, 73), (79, 80), (83, 84), (91, 93), (95, 96), (98, 99), (101, 102), (108, 109), (1000003, 1000007), (1000008, 1000009), (1000010, 1000018), (1000021, 1000022), (1000023, 1000024), (1000026, 1000029), (1000031, 1000032), (1000033, 1000042), (1000043, 1000054), (1000055, 1000057), (1000075, 1000083), (1000084, 1000085), (1000086, 1000094), (1000095, 1000114), (1000117, 1000125), (1000127, 1000129), (2000000, 2000012)]
theorem agmr1 : Ag W0R zR mr1 := Ag.st Ag.rf rfl
theorem agmr2 : Ag W0R zR mr2 := Ag.st agmr1 rfl
theorem agmr3 : Ag W0R zR mr3 := Ag.st agmr2 rfl
theorem agmr4 : Ag W0R zR mr4 := Ag.st agmr3 rfl
theorem agmr5 : Ag W0R zR mr5 := Ag.st agmr4 rfl
theorem agmr6 : Ag W0R zR mr6 := Ag.st agmr5 rfl
theorem agmr7 : Ag W0R zR mr7 := Ag.st agmr6 rfl
theorem agmr8 : Ag W0R zR mr8 := Ag.st agmr7 rfl
theorem agmr9 : Ag W0R zR mr9 := Ag.st agmr8 rfl
theorem agmr10 : Ag W0R zR mr10 := Ag.st agmr9 rfl
theorem agmr11 : Ag W0R zR mr11 := Ag.st agmr10 rfl
theorem agmr12 : Ag W0R zR mr12 := Ag.st agmr11 rfl
theorem agmr13 : Ag W0R zR mr13 := Ag.st agmr12 rfl
theorem agmr14 : Ag W0R zR mr14 := Ag.st agmr13 rfl
theorem agmr15 : Ag W0R zR mr15 := Ag.st agmr14 rfl
theorem agmr16 : Ag W0R zR mr16 := Ag.st agmr15 rfl
theorem agmr17 : Ag W0R zR mr17 := Ag.st agmr16 rfl
theorem agmr18 : Ag W0R zR mr18 := Ag.st agmr17 rfl
theorem agmr19 : Ag W0R zR mr19 := Ag.st agmr18 rfl
theorem agmr20 : Ag W0R zR mr20 := Ag.st agmr19 rfl
theorem agmr21 : Ag W0R zR mr21 := Ag.st agmr20 rfl
theorem agmr22 : Ag W0R zR mr22 := Ag.st agmr21 rfl
theorem agmr23 : Ag W0R zR mr23 := Ag.st agmr22 rfl
theorem agmr24 : Ag W0R zR mr24 := Ag.st agmr23 rfl
theorem agmr25 : Ag W0R zR mr25 := Ag.st agmr24 rfl
theorem agmr26 : Ag W0R zR mr26 := Ag.mr agmr25 ⟨by decide, by decide⟩ rfl
theorem agmr27 : Ag W0R zR mr27 := Ag.st agmr26 rfl
theorem agmr28 : Ag W0R zR mr28 := Ag.mr agmr27 ⟨by decide, by decide⟩ rfl
theorem agmr29 : Ag W0R zR mr29 := Ag.st agmr28 rfl
theorem agmr30 : Ag W0R zR mr30 := Ag.st agmr29 rfl
theorem agmr31 : Ag W0R zR mr31 := Ag.st agmr30 rfl
theorem agmr32 : Ag W0R zR mr32 := Ag.st agmr31 rfl
theorem agmr33 : Ag W0R zR mr33 := Ag.st agmr32 rfl
theorem agmr34 : Ag W0R zR mr34 := Ag.st agmr33 rfl
theorem agmr35 : Ag W0R zR mr35 := Ag.st agmr34 rfl
theorem agmr36 : Ag W0R zR mr36 := Ag.st agmr35 rfl
theorem agmr37 : Ag W0R zR mr37 := Ag.mr agmr36 ⟨by decide, by decide⟩ rfl
theorem agmr38 : Ag W0R zR mr38 := Ag.st agmr37 rfl
theorem agmr39 : Ag W0R zR mr39 := Ag.st agmr38 rfl
theorem agmr40 : Ag W0R zR mr40 := Ag.st agmr39 rfl
theorem agmr41 : Ag W0R zR mr41 := Ag.st agmr40 rfl
theorem agmr42 : Ag W0R zR mr42 := Ag.st agmr41 rfl
theorem agmr43 : Ag W0R zR mr43 := Ag.st agmr42 rfl
theorem agmr44 : Ag W0R zR mr44 := Ag.mr agmr43 ⟨by decide, by decide⟩ rfl
theorem agmr45 : Ag W0R zR mr45 := Ag.st agmr44 rfl
theorem agmr46 : Ag W0R zR mr46 := Ag.st agmr45 rfl
theorem agmr47 : Ag W0R zR mr47 := Ag.mr agmr46 ⟨by decide, by decide⟩ rfl
theorem agmr48 : Ag W0R zR mr48 := Ag.st agmr47 rfl
theorem agmr49 : Ag W0R zR mr49 := Ag.mr agmr48 ⟨by decide, by decide⟩ rfl
theorem agmr50 : Ag W0R zR mr50 := Ag.st agmr49 rfl
theorem agmr51 : Ag W0R zR mr51 := Ag.st agmr50 rfl
theorem agmr52 : Ag W0R zR mr52 := Ag.st agmr51 rfl
theorem agmr53 : Ag W0R zR mr53 := Ag.st agmr52 rfl
theorem agmr54 : Ag W0R zR mr54 := Ag.mr agmr53 ⟨by decide, by decide⟩ rfl
theorem agmr55 : Ag W0R zR mr55 := Ag.st agmr54 rfl
theorem agmr56 : Ag W0R zR mr56 := Ag.mr agmr55 ⟨by decide, by decide⟩ rfl
theorem agmr57 : Ag W0R zR mr57 := Ag.st agmr56 rfl
theorem agmr58 : Ag W0R zR mr58 := Ag.mr agmr57 ⟨by decide, by decide⟩ rfl
theorem agmr59 : Ag W0R zR mr59 := Ag.st agmr58 rfl
theorem agmr60 : Ag W0R zR mr60 := Ag.st agmr59 rfl
theorem agmr61 : Ag W0R zR mr61 := Ag.st agmr60 rfl
theorem agmr62 : Ag W0R zR mr62 := Ag.st agmr61 rfl
theorem agmr63 : Ag W0R zR mr63 := Ag.st agmr62 rfl
theorem agmr64 : Ag W0R zR mr64 := Ag.st agmr63 rfl
theorem agmr65 : Ag W0R zR mr65 := Ag.mr agmr64 ⟨by decide, by decide⟩ rfl
theorem agmr66 : Ag W0R zR mr66 := Ag.st agmr65 rfl
theorem agmr67 : Ag W0R zR mr67 := Ag.mr agmr66 ⟨by decide, by decide⟩ rfl
theorem agmr68 : Ag W0R zR mr68 := Ag.st agmr67 rfl
theorem agmr69 : Ag W0R zR mr69 := Ag.mr agmr68 ⟨by decide, by decide⟩ rfl
theorem agmr70 : Ag W0R zR mr70 := Ag.st agmr69 rfl
theorem agmr71 : Ag W0R zR mr71 := Ag.mr agmr70 ⟨by decide, by decide⟩ rfl
theorem agmr72 : Ag W0R zR mr72 := Ag.st agmr71 rfl
theorem agmr73 : Ag W0R zR mr73 := Ag.st agmr72 rfl
theorem agmr74 : Ag W0R zR mr74 := Ag.st agmr73 rfl
theorem agmr75 : Ag W0R zR mr75 := Ag.st agmr74 rfl
theorem agmr76 : Ag W0R zR mr76 := Ag.st agmr75 rfl
theorem agmr77 : Ag W0R zR mr77 := Ag.st agmr76 rfl
theorem agmr78 : Ag W0R zR mr78 := Ag.st agmr77 rfl
theorem agmr79 : Ag W0R zR mr79 := Ag.st agmr78 rfl
theorem agmr80 : Ag W0R zR mr80 := Ag.st agmr79 rfl
theorem agmr81 : Ag W0R zR mr81 := Ag.st agmr80 rfl
theorem agmr82 : Ag W0R zR mr82 := Ag.st agmr81 rfl
theorem agmr83 : Ag W0R zR mr83 := Ag.st agmr82 rfl
theorem agmr84 : Ag W0R zR mr84 := Ag.st agmr83 rfl
theorem agmr85 : Ag W0R zR mr85 := Ag.st agmr84 rfl
theorem agmr86 : Ag W0R zR mr86 := Ag.st agmr85 rfl
theorem agmr87 : Ag W0R zR mr87 := Ag.st agmr86 rfl
theorem agmr88 : Ag W0R zR mr88 := Ag.st agmr87 rfl
theorem agmr89 : Ag W0R zR mr89 := Ag.st agmr88 rfl
theorem agmr90 : Ag W0R zR mr90 := Ag.st agmr89 rfl
theorem agmr91 : Ag W0R zR mr91 := Ag.st agmr90 rfl
theorem agmr92 : Ag W0R zR mr92 := Ag.st agmr91 rfl
theorem agmr93 : Ag W0R zR mr93 := Ag.st agmr92 rfl
theorem agmr94 : Ag W0R zR mr94 := Ag.st agmr93 rfl
theorem agmr95 : Ag W0R zR mr95 := Ag.st agmr94 rfl
theorem agmr96 : Ag W0R zR mr96 := Ag.st agmr95 rfl
theorem agmr97 : Ag W0R zR mr97 := Ag.st agmr96 rfl
theorem agmr98 : Ag W0R zR mr98 := Ag.st agmr97 rfl
theorem agmr99 : Ag W0R zR mr99 := Ag.st agmr98 rfl
theorem agmr100 : Ag W0R zR mr100 := Ag.st agmr99 rfl
theorem agmr101 : Ag W0R zR mr101 := Ag.st agmr100 rfl
theorem agmr102 : Ag W0R zR mr102 := Ag.st agmr101 rfl
theorem agmr103 : Ag W0R zR mr103 := Ag.st agmr102 rfl
theorem agmr104 : Ag W0R zR mr104 := Ag.st agmr103 rfl
theorem agmr105 : Ag W0R zR mr105 := Ag.st agmr104 rfl
theorem agmr106 : Ag W0R zR mr106 := Ag.st agmr105 rfl
theorem agmr107 : Ag W0R zR mr107 := Ag.st agmr106 rfl
theorem agmr108 : Ag W0R zR mr108 := Ag.st agmr107 rfl
theorem agmr109 : Ag W0R zR mr109 := Ag.st agmr108 rfl
theorem agmr110 : Ag W0R zR mr110 := Ag.st agmr109 rfl
theorem agmr111 : Ag W0R zR mr111 := Ag.st agmr110 rfl
theorem agmr112 : Ag W0R zR mr112 := Ag.st agmr111 rfl
theorem agmr113 : Ag W0R zR mr113 := Ag.st agmr112 rfl
theorem agmr114 : Ag W0R zR mr114 := Ag.st agmr113 rfl
theorem agmr115 : Ag W0R zR mr115 := Ag.st agmr114 rfl
theorem agmr116 : Ag W0R zR mr116 := Ag.st agmr115 rfl
theorem agmr117 : Ag W0R zR mr117 := Ag.st agmr116 rfl
theorem agmr118 : Ag W0R zR mr118 := Ag.st agmr117 rfl
theorem agmr119 : Ag W0R zR mr119 := Ag.st agmr118 rfl
theorem agmr120 : Ag W0R zR mr120 := Ag.st agmr119 rfl
theorem agmr121 : Ag W0R zR mr121 := Ag.st agmr120 rfl
theorem agmr122 : Ag W0R zR mr122 := Ag.st agmr121 rfl
theorem agmr123 : Ag W0R zR mr123 := Ag.st agmr122 rfl
theorem agmr124 : Ag W0R zR mr124 := Ag.st agmr123 rfl
theorem agmr125 : Ag W0R zR mr125 := Ag.st agmr124 rfl
theorem agmr126 : Ag W0R zR mr126 := Ag.st agmr125 rfl
theorem agmr127 : Ag W0R zR mr127 := Ag.st agmr126 rfl
theorem agmr128 : Ag W0R zR mr128 := Ag.st agmr127 rfl
theorem agmr129 : Ag W0R zR mr129 := Ag.st agmr128 rfl
theorem agmr130 : Ag W0R zR mr130 := Ag.st agmr129 rfl
theorem agmr131 : Ag W0R zR mr131 := Ag.st agmr130 rfl
theorem agmr132 : Ag W0R zR mr132 := Ag.st agmr131 rfl
theorem agmr133 : Ag W0R zR mr133 := Ag.st agmr132 rfl
theorem agmr134 : Ag W0R zR mr134 := Ag.st agmr133 rfl
theorem agmr135 : Ag W0R zR mr135 := Ag.st agmr134 rfl
theorem agmr136 : Ag W0R zR mr136 := Ag.st agmr135 rfl
theorem agmr137 : Ag W0R zR mr137 := Ag.st agmr136 rfl
theorem agmr138 : Ag W0R zR mr138 := Ag.st agmr137 rfl
theorem agmr139 : Ag W0R zR mr139 := Ag.st agmr138 rfl
theorem agmr140 : Ag W0R zR mr140 := Ag.st agmr139 rfl
theorem agmr141 : Ag W0R zR mr141 := Ag.st agmr140 rfl
theorem agmr142 : Ag W0R zR mr142 := Ag.st agmr141 rfl
theorem agmr143 : Ag W0R zR mr143 := Ag.st agmr142 rfl
theorem agmr144 : Ag W0R zR mr144 := Ag.st agmr143 rfl
theorem agmr145 : Ag W0R zR mr145 := Ag.st agmr144 rfl
theorem agmr146 : Ag W0R zR mr146 := Ag.st agmr145 rfl
theorem agmr147 : Ag W0R zR mr147 := Ag.st agmr146 rfl
theorem agmr148 : Ag W0R zR mr148 := Ag.st agmr147 rfl
theorem agmr149 : Ag W0R zR mr149 := Ag.st agmr148 rfl
theorem agmr150 : Ag W0R zR mr150 := Ag.st agmr149 rfl
theorem agmr151 : Ag W0R zR mr151 := Ag.st agmr150 rfl
theorem agmr152 : Ag W0R zR mr152 := Ag.st agmr151 rfl
theorem agmr153 : Ag W0R zR mr153 := Ag.st agmr152 rfl
theorem agmr154 : Ag W0R zR mr154 := Ag.st agmr153 rfl
theorem agmr155 : Ag W0R zR mr155 := Ag.st agmr154 rfl
theorem agmr156 : Ag W0R zR mr156 := Ag.st agmr155 rfl
theorem agmr157 : Ag W0R zR mr157 := Ag.st agmr156 rfl
theorem agmr158 : Ag W0R zR mr158 := Ag.st agmr157 rfl
theorem agmr159 : Ag W0R zR mr159 := Ag.st agmr158 rfl
theorem agmr160 : Ag W0R zR mr160 := Ag.st agmr159 rfl
theorem agmr161 : Ag W0R zR mr161 := Ag.st agmr160 rfl
theorem agmr162 : Ag W0R zR mr162 := Ag.st agmr161 rfl
theorem agmr163 : Ag W0R zR mr163 := Ag.st agmr162 rfl
theorem agmr164 : Ag W0R zR mr164 := Ag.st agmr163 rfl
theorem agmr165 : Ag W0R zR mr165 := Ag.st agmr164 rfl
theorem agmr166 : Ag W0R zR mr166 := Ag.st agmr165 rfl
theorem agmr167 : Ag W0R zR mr167 := Ag.st agmr166 rfl
theorem agmr168 : Ag W0R zR mr168 := Ag.st agmr167 rfl
theorem agmr169 : Ag W0R zR mr169 := Ag.st agmr168 rfl
theorem agmr170 : Ag W0R zR mr170 := Ag.st agmr169 rfl
theorem hk0 (a : Nat) (ha : 202 ≤ a) : kd0 a = 0 := by unfold kd0; (repeat rw [if_neg (by omega)])
theorem hk1 (a : Nat) (ha : 202 ≤ a) : kk1 a = 0 := (if_neg (by omega)).trans (hk0 a ha)
theorem hk2 (a : Nat) (ha : 202 ≤ a) : kk2 a = 0 := (if_neg (by omega)).trans (hk1 a ha)
theorem hk3 (a : Nat) (ha : 202 ≤ a) : kk3 a = 0 := (if_neg (by omega)).trans (hk2 a ha)
theorem hk4 (a : Nat) (ha : 202 ≤ a) : kk4 a = 0 := (if_neg (by omega)).trans (hk3 a ha)
theorem hk5 (a : Nat) (ha : 202 ≤ a) : kk5 a = 0 := (if_neg (by omega)).trans (hk4 a ha)
theorem hk6 (a : Nat) (ha : 202 ≤ a) : kk6 a = 0 := (if_neg (by omega)).trans (hk5 a ha)
theorem hk7 (a : Nat) (ha : 202 ≤ a) : kk7 a = 0 := (if_neg (by omega)).trans (hk6 a ha)
theorem hk8 (a : Nat) (ha : 202 ≤ a) : kk8 a = 0 := (if_neg (by omega)).trans (hk7 a ha)
theorem hk9 (a : Nat) (ha : 202 ≤ a) : kk9 a = 0 := (if_neg (by omega)).trans (hk8 a ha)
theorem hk10 (a : Nat) (ha : 202 ≤ a) : kk10 a = 0 := (if_neg (by omega)).trans (hk9 a ha)
theorem hk11 (a : Nat) (ha : 202 ≤ a) : kk11 a = 0 := (if_neg (by omega)).trans (hk10 a ha)
theorem hk12 (a : Nat) (ha : 202 ≤ a) : kk12 a = 0 := (if_neg (by omega)).trans (hk11 a ha)
theorem hk13 (a : Nat) (ha : 202 ≤ a) : kk13 a = 0 := (if_neg (by omega)).trans (hk12 a ha)
theorem hk14 (a : Nat) (ha : 202 ≤ a) : kk14 a = 0 := (if_neg (by omega)).trans (hk13 a ha)
theorem hk15 (a : Nat) (ha : 202 ≤ a) : kk15 a = 0 := (if_neg (by omega)).trans (hk14 a ha)
theorem hk16 (a : Nat) (ha : 202 ≤ a) : kk16 a = 0 := (if_neg (by omega)).trans (hk15 a ha)
theorem hk17 (a : Nat) (ha : 202 ≤ a) : kk17 a = 0 := (if_neg (by omega)).trans (hk16 a ha)
theorem hk18 (a : Nat) (ha : 202 ≤ a) : kk18 a = 0 := (if_neg (by omega)).trans (hk17 a ha)
theorem hk19 (a : Nat) (ha : 202 ≤ a) : kk19 a = 0 := (if_neg (by omega)).trans (hk18 a ha)
theorem hk20 (a : Nat) (ha : 202 ≤ a) : kk20 a = 0 := (if_neg (by omega)).trans (hk19 a ha)
theorem hk21 (a : Nat) (ha : 202 ≤ a) : kk21 a = 0 := (if_neg (by omega)).trans (hk20 a ha)
theorem hk22 (a : Nat) (ha : 202 ≤ a) : kk22 a = 0 := (if_neg (by omega)).trans (hk21 a ha)
theorem hk23 (a : Nat) (ha : 202 ≤ a) : kk23 a = 0 := (if_neg (by omega)).trans (hk22 a ha)
theorem hk24 (a : Nat) (ha : 202 ≤ a) : kk24 a = 0 := (if_neg (by omega)).trans (hk23 a ha)
theorem hk25 (a : Nat) (ha : 202 ≤ a) : kk25 a = 0 := (if_neg (by omega)).trans ((if_neg (by omega)).trans (hk24 a ha))
theorem hk26 (a : Nat) (ha : 202 ≤ a) : kk26 a = 0 := (if_neg (by omega)).trans ((if_neg (by omega)).trans (hk25 a ha))
theorem hk27 (a : Nat) (ha : 202 ≤ a) : kk27 a = 0 := (if_neg (by omega)).trans (hk26 a ha)
theorem hk28 (a : Nat) (ha : 202 ≤ a) : kk28 a = 0 := (if_neg (by omega)).trans (hk27 a ha)
theorem hk29 (a : Nat) (ha : 202 ≤ a) : kk29 a = 0 := (if_neg (by omega)).trans (hk28 a ha)
theorem hk30 (a : Nat) (ha : 202 ≤ a) : kk30 a = 0 := (if_neg (by omega)).trans (hk29 a ha)
theorem hk31 (a : Nat) (ha : 202 ≤ a) : kk31 a = 0 := (if_neg (by omega)).trans (hk30 a ha)
theorem hk32 (a : Nat) (ha : 202 ≤ a) : kk32 a = 0 := (if_neg (by omega)).trans (hk31 a ha)
theorem hk33 (a : Nat) (ha : 202 ≤ a) : kk33 a = 0 := (if_neg (by omega)).trans ((if_neg (by omega)).trans (hk32 a ha))
theorem hk34 (a : Nat) (ha : 202 ≤ a) : kk34 a = 0 := (if_neg (by omega)).trans (hk33 a ha)
theorem hk35 (a : Nat) (ha : 202 ≤ a) : kk35 a = 0 := (if_neg (by omega)).trans (hk34 a ha)
theorem hk36 (a : Nat) (ha : 202 ≤ a) : kk36 a = 0 := (if_neg (by omega)).trans (hk35 a ha)
theorem hk37 (a : Nat) (ha : 202 ≤ a) : kk37 a = 0 := (if_neg (by omega)).trans (hk36 a ha)
theorem hk38 (a : Nat) (ha : 202 ≤ a) : kk38 a = 0 := (if_neg (by omega)).trans (hk37 a ha)
theorem hk39 (a : Nat) (ha : 202 ≤ a) : kk39 a = 0 := (if_neg (by omega)).trans ((if_neg (by omega)).trans (hk38 a ha))
theorem hk40 (a : Nat) (ha : 202 ≤ a) : kk40 a = 0 := (if_neg (by omega)).trans (hk39 a ha)
theorem hk41 (a : Nat) (ha : 202 ≤ a) : kk41 a = 0 := (if_neg (by omega)).trans ((if_neg (by omega)).trans (hk40 a ha))
theorem hk42 (a : Nat) (ha : 202 ≤ a) : kk42 a = 0 := (if_neg (by omega)).trans ((if_neg (by omega)).trans (hk41 a ha))
theorem hk43 (a : Nat) (ha : 202 ≤ a) : kk43 a = 0 := (if_neg (by omega)).trans (hk42 a ha)
theorem hk44 (a : Nat) (ha : 202 ≤ a) : kk44 a = 0 := (if_neg (by omega)).trans (hk43 a ha)
theorem hk45 (a : Nat) (ha : 202 ≤ a) : kk45 a = 0 := (if_neg (by omega)).trans ((if_neg (by omega)).trans (hk44 a ha))
theorem hk46 (a : Nat) (ha : 202 ≤ a) : kk46 a = 0 := (if_neg (by omega)).trans ((if_neg (by omega)).trans (hk45 a ha))
theorem hk47 (a : Nat) (ha : 202 ≤ a) : kk47 a = 0 := (if_neg (by omega)).trans ((if_neg (by omega)).trans (hk46 a ha))
theorem hk48 (a : Nat) (ha : 202 ≤ a) : kk48 a = 0 := (if_neg (by omega)).trans (hk47 a ha)
theorem hk49 (a : Nat) (ha : 202 ≤ a) : kk49 a = 0 := (if_neg (by omega)).trans (hk48 a ha)
theorem hk50 (a : Nat) (ha : 202 ≤ a) : kk50 a = 0 := (if_neg (by omega)).trans (hk49 a ha)
theorem hk51 (a : Nat) (ha : 202 ≤ a) : kk51 a = 0 := (if_neg (by omega)).trans (hk50 a ha)
theorem hk52 (a : Nat) (ha : 202 ≤ a) : kk52 a = 0 := (if_neg (by omega)).trans (hk51 a ha)
theorem hk53 (a : Nat) (ha : 202 ≤ a) : kk53 a = 0 := (if_neg (by omega)).trans ((if_neg (by omega)).trans (hk52 a ha))
theorem hk54 (a : Nat) (ha : 202 ≤ a) : kk54 a = 0 := (if_neg (by omega)).trans ((if_neg (by omega)).trans (hk53 a ha))
theorem hk55 (a : Nat) (ha : 202 ≤ a) : kk55 a = 0 := (if_neg (by omega)).trans ((if_neg (by omega)).trans (hk54 a ha))
theorem hk56 (a : Nat) (ha : 202 ≤ a) : kk56 a = 0 := (if_neg (by omega)).trans ((if_neg (by omega)).trans (hk55 a ha))
theorem hk57 (a : Nat) (ha : 202 ≤ a) : kk57 a = 0 := (if_neg (by omega)).trans (hk56 a ha)
theorem hk58 (a : Nat) (ha : 202 ≤ a) : kk58 a = 0 := (if_neg (by omega)).trans (hk57 a ha)
theorem hk59 (a : Nat) (ha : 202 ≤ a) : kk59 a = 0 := (if_neg (by omega)).trans (hk58 a ha)
theorem hk60 (a : Nat) (ha : 202 ≤ a) : kk60 a = 0 := (if_neg (by omega)).trans (hk59 a ha)
theorem hk61 (a : Nat) (ha : 202 ≤ a) : kk61 a = 0 := (if_neg (by omega)).trans (hk60 a ha)
theorem hk62 (a : Nat) (ha : 202 ≤ a) : kk62 a = 0 := (if_neg (by omega)).trans (hk61 a ha)
theorem hk63 (a : Nat) (ha : 202 ≤ a) : kk63 a = 0 := (if_neg (by omega)).trans (hk62 a ha)
theorem hk64 (a : Nat) (ha : 202 ≤ a) : kk64 a = 0 := (if_neg (by omega)).trans (hk63 a ha)
theorem hk65 (a : Nat) (ha : 202 ≤ a) : kk65 a = 0 := (if_neg (by omega)).trans (hk64 a ha)
theorem hk66 (a : Nat) (ha : 202 ≤ a) : kk66 a = 0 := (if_neg (by omega)).trans (hk65 a ha)
theorem hk67 (a : Nat) (ha : 202 ≤ a) : kk67 a = 0 := (if_neg (by omega)).trans (hk66 a ha)
theorem hk68 (a : Nat) (ha : 202 ≤ a) : kk68 a = 0 := (if_neg (by omega)).trans (hk67 a ha)
theorem hk69 (a : Nat) (ha : 202 ≤ a) : kk69 a = 0 := (if_neg (by omega)).trans (hk68 a ha)
theorem hk70 (a : Nat) (ha : 202 ≤ a) : kk70 a = 0 := (if_neg (by omega)).trans (hk69 a ha)
theorem hk71 (a : Nat) (ha : 202 ≤ a) : kk71 a = 0 := (if_neg (by omega)).trans (hk70 a ha)
theorem hk72 (a : Nat) (ha : 202 ≤ a) : kk72 a = 0 := (if_neg (by omega)).trans (hk71 a ha)
theorem hk73 (a : Nat) (ha : 202 ≤ a) : kk73 a = 0 := (if_neg (by omega)).trans (hk72 a ha)
theorem hk74 (a : Nat) (ha : 202 ≤ a) : kk74 a = 0 := (if_neg (by omega)).trans (hk73 a ha)
theorem hk75 (a : Nat) (ha : 202 ≤ a) : kk75 a = 0 := (if_neg (by omega)).trans (hk74 a ha)
theorem hk76 (a : Nat) (ha : 202 ≤ a) : kk76 a = 0 := (if_neg (by omega)).trans (hk75 a ha)
theorem hk77 (a : Nat) (ha : 202 ≤ a) : kk77 a = 0 := (if_neg (by omega)).trans (hk76 a ha)
theorem hk78 (a : Nat) (ha : 202 ≤ a) : kk78 a = 0 := (if_neg (by omega)).trans (hk77 a ha)
theorem hk79 (a : Nat) (ha : 202 ≤ a) : kk79 a = 0 := (if_neg (by omega)).trans (hk78 a ha)
theorem hk80 (a : Nat) (ha : 202 ≤ a) : kk80 a = 0 := (if_neg (by omega)).trans (hk79 a ha)
theorem hk81 (a : Nat) (ha : 202 ≤ a) : kk81 a = 0 := (if_neg (by omega)).trans (hk80 a ha)
theorem hk82 (a : Nat) (ha : 202 ≤ a) : kk82 a = 0 := (if_neg (by omega)).trans (hk81 a ha)
theorem hk83 (a : Nat) (ha : 202 ≤ a) : kk83 a = 0 := (if_neg (by omega)).trans (hk82 a ha)
theorem hk84 (a : Nat) (ha : 202 ≤ a) : kk84 a = 0 := (if_neg (by omega)).trans (hk83 a ha)
theorem hk85 (a : Nat) (ha : 202 ≤ a) : kk85 a = 0 := (if_neg (by omega)).trans (hk84 a ha)
theorem hk86 (a : Nat) (ha : 202 ≤ a) : kk86 a = 0 := (if_neg (by omega)).trans (hk85 a ha)
theorem hk87 (a : Nat) (ha : 202 ≤ a) : kk87 a = 0 := (if_neg (by omega)).trans (hk86 a ha)
theorem hk88 (a : Nat) (ha : 202 ≤ a) : kk88 a = 0 := (if_neg (by omega)).trans (hk87 a ha)
theorem hk89 (a : Nat) (ha : 202 ≤ a) : kk89 a = 0 := (if_neg (by omega)).trans (hk88 a ha)
theorem hk90 (a : Nat) (ha : 202 ≤ a) : kk90 a = 0 := (if_neg (by omega)).trans (hk89 a ha)
theorem hk91 (a : Nat) (ha : 202 ≤ a) : kk91 a = 0 := (if_neg (by omega)).trans (hk90 a ha)
theorem hk92 (a : Nat) (ha : 202 ≤ a) : kk92 a = 0 := (if_neg (by omega)).trans (hk91 a ha)
theorem hk93 (a : Nat) (ha : 202 ≤ a) : kk93 a = 0 := (if_neg (by omega)).trans (hk92 a ha)
theorem hk94 (a : Nat) (ha : 202 ≤ a) : kk94 a = 0 := (if_neg (by omega)).trans (hk93 a ha)
theorem hk95 (a : Nat) (ha : 202 ≤ a) : kk95 a = 0 := (if_neg (by omega)).trans (hk94 a ha)
theorem hk96 (a : Nat) (ha : 202 ≤ a) : kk96 a = 0 := (if_neg (by omega)).trans (hk95 a ha)
theorem hk97 (a : Nat) (ha : 202 ≤ a) : kk97 a = 0 := (if_neg (by omega)).trans (hk96 a ha)
theorem hk98 (a : Nat) (ha : 202 ≤ a) : kk98 a = 0 := (if_neg (by omega)).trans (hk97 a ha)
theorem hk99 (a : Nat) (ha : 202 ≤ a) : kk99 a = 0 := (if_neg (by omega)).trans (hk98 a ha)
theorem hk100 (a : Nat) (ha : 202 ≤ a) : kk100 a = 0 := (if_neg (by omega)).trans (hk99 a ha)
theorem hk101 (a : Nat) (ha : 202 ≤ a) : kk101 a = 0 := (if_neg (by omega)).trans (hk100 a ha)
theorem hk102 (a : Nat) (ha : 202 ≤ a) : kk102 a = 0 := (if_neg (by omega)).trans (hk101 a ha)
theorem hk103 (a : Nat) (ha : 202 ≤ a) : kk103 a = 0 := (if_neg (by omega)).trans (hk102 a ha)
theorem hk104 (a : Nat) (ha : 202 ≤ a) : kk104 a = 0 := (if_neg (by omega)).trans (hk103 a ha)
theorem hk105 (a : Nat) (ha : 202 ≤ a) : kk105 a = 0 := (if_neg (by omega)).trans (hk104 a ha)
theorem hk106 (a : Nat) (ha : 202 ≤ a) : kk106 a = 0 := (if_neg (by omega)).trans (hk105 a ha)
theorem hk107 (a : Nat) (ha : 202 ≤ a) : kk107 a = 0 := (if_neg (by omega)).trans (hk106 a ha)
theorem hk108 (a : Nat) (ha : 202 ≤ a) : kk108 a = 0 := (if_neg (by omega)).trans (hk107 a ha)
theorem hk109 (a : Nat) (ha : 202 ≤ a) : kk109 a = 0 := (if_neg (by omega)).trans (hk108 a ha)
theorem hk110 (a : Nat) (ha : 202 ≤ a) : kk110 a = 0 := (if_neg (by omega)).trans (hk109 a ha)
theorem hk111 (a : Nat) (ha : 202 ≤ a) : kk111 a = 0 := (if_neg (by omega)).trans (hk110 a ha)
theorem hk112 (a : Nat) (ha : 202 ≤ a) : kk112 a = 0 := (if_neg (by omega)).trans (hk111 a ha)
theorem hk113 (a : Nat) (ha : 202 ≤ a) : kk113 a = 0 := (if_neg (by omega)).trans (hk112 a ha)
theorem hk114 (a : Nat) (ha : 202 ≤ a) : kk114 a = 0 := (if_neg (by omega)).trans (hk113 a ha)
theorem hk115 (a : Nat) (ha : 202 ≤ a) : kk115 a = 0 := (if_neg (by omega)).trans (hk114 a ha)
theorem hk116 (a : Nat) (ha : 202 ≤ a) : kk116 a = 0 := (if_neg (by omega)).trans (hk115 a ha)
theorem hk117 (a : Nat) (ha : 202 ≤ a) : kk117 a = 0 := (if_neg (by omega)).trans (hk116 a ha)
theorem hk118 (a : Nat) (ha : 202 ≤ a) : kk118 a = 0 := (if_neg (by omega)).trans (hk117 a ha)
theorem hk119 (a : Nat) (ha : 202 ≤ a) : kk119 a = 0 := (if_neg (by omega)).trans (hk118 a ha)
theorem hk120 (a : Nat) (ha : 202 ≤ a) : kk120 a = 0 := (if_neg (by omega)).trans (hk119 a ha)
theorem hk121 (a : Nat) (ha : 202 ≤ a) : kk121 a = 0 := (if_neg (by omega)).trans (hk120 a ha)
theorem hk122 (a : Nat) (ha : 202 ≤ a) : kk122 a = 0 := (if_neg (by omega)).trans (hk121 a ha)
theorem hk123 (a : Nat) (ha : 202 ≤ a) : kk123 a = 0 := (if_neg (by omega)).trans (hk122 a ha)
theorem hk124 (a : Nat) (ha : 202 ≤ a) : kk124 a = 0 := (if_neg (by omega)).trans (hk123 a ha)
theorem hk125 (a : Nat) (ha : 202 ≤ a) : kk125 a = 0 := (if_neg (by omega)).trans (hk124 a ha)
theorem hk126 (a : Nat) (ha : 202 ≤ a) : kk126 a = 0 := (if_neg (by omega)).trans (hk125 a ha)
theorem hk127 (a : Nat) (ha : 202 ≤ a) : kk127 a = 0 := (if_neg (by omega)).trans (hk126 a ha)
theorem hk128 (a : Nat) (ha : 202 ≤ a) : kk128 a = 0 := (if_neg (by omega)).trans (hk127 a ha)
theorem hk129 (a : Nat) (ha : 202 ≤ a) : kk129 a = 0 := (if_neg (by omega)).trans (hk128 a ha)
theorem hk130 (a : Nat) (ha : 202 ≤ a) : kk130 a = 0 := (if_neg (by omega)).trans (hk129 a ha)
theorem hk131 (a : Nat) (ha : 202 ≤ a) : kk131 a = 0 := (if_neg (by omega)).trans (hk130 a ha)
theorem hk132 (a : Nat) (ha : 202 ≤ a) : kk132 a = 0 := (if_neg (by omega)).trans (hk131 a ha)
theorem hk133 (a : Nat) (ha : 202 ≤ a) : kk133 a = 0 := (if_neg (by omega)).trans (hk132 a ha)
theorem hk134 (a : Nat) (ha : 202 ≤ a) : kk134 a = 0 := (if_neg (by omega)).trans (hk133 a ha)
theorem hk135 (a : Nat) (ha : 202 ≤ a) : kk135 a = 0 := (if_neg (by omega)).trans (hk134 a ha)
theorem hk136 (a : Nat) (ha : 202 ≤ a) : kk136 a = 0 := (if_neg (by omega)).trans (hk135 a ha)
theorem hk137 (a : Nat) (ha : 202 ≤ a) : kk137 a = 0 := (if_neg (by omega)).trans (hk136 a ha)
theorem hk138 (a : Nat) (ha : 202 ≤ a) : kk138 a = 0 := (if_neg (by omega)).trans (hk137 a ha)
theorem hk139 (a : Nat) (ha : 202 ≤ a) : kk139 a = 0 := (if_neg (by omega)).trans (hk138 a ha)
theorem hk140 (a : Nat) (ha : 202 ≤ a) : kk140 a = 0 := (if_neg (by omega)).trans (hk139 a ha)
theorem hk141 (a : Nat) (ha : 202 ≤ a) : kk141 a = 0 := (if_neg (by omega)).trans (hk140 a ha)
theorem hk142 (a : Nat) (ha : 202 ≤ a) : kk142 a = 0 := (if_neg (by omega)).trans (hk141 a ha)
theorem hk143 (a : Nat) (ha : 202 ≤ a) : kk143 a = 0 := (if_neg (by omega)).trans (hk142 a ha)
theorem hk144 (a : Nat) (ha : 202 ≤ a) : kk144 a = 0 := (if_neg (by omega)).trans (hk143 a ha)
theorem hk145 (a : Nat) (ha : 202 ≤ a) : kk145 a = 0 := (if_neg (by omega)).trans (hk144 a ha)
theorem hk146 (a : Nat) (ha : 202 ≤ a) : kk146 a = 0 := (if_neg (by omega)).trans (hk145 a ha)
theorem hk147 (a : Nat) (ha : 202 ≤ a) : kk147 a = 0 := (if_neg (by omega)).trans (hk146 a ha)
theorem hk148 (a : Nat) (ha : 202 ≤ a) : kk148 a = 0 := (if_neg (by omega)).trans (hk147 a ha)
theorem hk149 (a : Nat) (ha : 202 ≤ a) : kk149 a = 0 := (if_neg (by omega)).trans (hk148 a ha)
theorem hk150 (a : Nat) (ha : 202 ≤ a) : kk150 a = 0 := (if_neg (by omega)).trans (hk149 a ha)
theorem hk151 (a : Nat) (ha : 202 ≤ a) : kk151 a = 0 := (if_neg (by omega)).trans (hk150 a ha)
theorem hk152 (a : Nat) (ha : 202 ≤ a) : kk152 a = 0 := (if_neg (by omega)).trans (hk151 a ha)
theorem hk153 (a : Nat) (ha : 202 ≤ a) : kk153 a = 0 := (if_neg (by omega)).trans (hk152 a ha)
theorem hk154 (a : Nat) (ha : 202 ≤ a) : kk154 a = 0 := (if_neg (by omega)).trans (hk153 a ha)
