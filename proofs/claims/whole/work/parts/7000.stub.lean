def Inv (σx σm : Sto) : Prop := True
theorem op_row {σx σm : Sto} (h : Inv σx σm) (a1 : Int32) (a2 : Int32) (a3 : Int32) : ∃ qx qm, fX9_row σx a1 a2 a3 = some qx ∧ fX10_row σm a1 a2 a3 = some qm ∧ qx.2 = qm.2 ∧ Inv qx.1 qm.1 := sorry
theorem op_set {σx σm : Sto} (h : Inv σx σm) (a1 : Int32) (a2 : Int32) (a3 : Int32) : ∃ qx qm, fX9_set σx a1 a2 a3 = some qx ∧ fX10_set σm a1 a2 a3 = some qm ∧ qx.2 = qm.2 ∧ Inv qx.1 qm.1 := sorry
theorem op_copy {σx σm : Sto} (h : Inv σx σm) (a1 : Int32) (a2 : Int32) (a3 : Int32) (a4 : Int32) (a5 : Int32) : ∃ qx qm, fX9_copy σx a1 a2 a3 a4 a5 = some qx ∧ fX10_copy σm a1 a2 a3 a4 a5 = some qm ∧ qx.2 = qm.2 ∧ Inv qx.1 qm.1 := sorry
theorem op_drop {σx σm : Sto} (h : Inv σx σm) (a1 : Int32) : ∃ qx qm, fX9_drop σx a1 = some qx ∧ fX10_drop σm a1 = some qm ∧ qx.2 = qm.2 ∧ Inv qx.1 qm.1 := sorry
theorem op_feed {σx σm : Sto} (h : Inv σx σm) (a1 : Int32) : ∃ qx qm, fX9_feed σx a1 = some qx ∧ fX10_feed σm a1 = some qm ∧ qx.2 = qm.2 ∧ Inv qx.1 qm.1 := sorry
theorem op_street {σx σm : Sto} (h : Inv σx σm) : ∃ qx qm, fX9_street σx = some qx ∧ fX10_street σm = some qm ∧ qx.2 = qm.2 ∧ Inv qx.1 qm.1 := sorry
theorem op_fault {σx σm : Sto} (h : Inv σx σm) : fX9_fault σx = fX10_fault σm := sorry
theorem op_undo {σx σm : Sto} (h : Inv σx σm) : ∃ qx qm, fX9_undo σx = some qx ∧ fX10_undo σm = some qm ∧ qx.2 = qm.2 ∧ Inv qx.1 qm.1 := sorry
theorem op_days {σx σm : Sto} (h : Inv σx σm) (a1 : Int32) : ∃ qx qm, fX9_days σx a1 = some qx ∧ fX10_days σm a1 = some qm ∧ qx.2 = qm.2 ∧ Inv qx.1 qm.1 := sorry
theorem op_wall {σx σm : Sto} (h : Inv σx σm) (a1 : Int32) (a2 : Int32) : ∃ qx qm, fX9_wall σx a1 a2 = some qx ∧ fX10_wall σm a1 a2 = some qm ∧ qx.2 = qm.2 ∧ Inv qx.1 qm.1 := sorry
theorem op_carry {σx σm : Sto} (h : Inv σx σm) (a1 : Int32) : ∃ qx qm, fX9_carry σx a1 = some qx ∧ fX10_carry σm a1 = some qm ∧ qx.2 = qm.2 ∧ Inv qx.1 qm.1 := sorry
theorem op_feeding {σx σm : Sto} (h : Inv σx σm) (a1 : Int32) : ∃ qx qm, fX9_feeding σx a1 = some qx ∧ fX10_feeding σm a1 = some qm ∧ qx.2 = qm.2 ∧ Inv qx.1 qm.1 := sorry
theorem op_dig {σx σm : Sto} (h : Inv σx σm) (a1 : Int32) : ∃ qx qm, fX9_dig σx a1 = some qx ∧ fX10_dig σm a1 = some qm ∧ qx.2 = qm.2 ∧ Inv qx.1 qm.1 := sorry
theorem op_thing {σx σm : Sto} (h : Inv σx σm) (a1 : Int32) (a2 : Int32) : ∃ r, fX9_thing σx a1 a2 = some r ∧ fX10_thing σm a1 a2 = some r := sorry
theorem op_roomOf {σx σm : Sto} (h : Inv σx σm) (a1 : Int32) (a2 : Int32) : ∃ r, fX9_roomOf σx a1 a2 = some r ∧ fX10_roomOf σm a1 a2 = some r := sorry
theorem op_stand {σx σm : Sto} (h : Inv σx σm) (a1 : Int32) : ∃ r, fX9_stand σx a1 = some r ∧ fX10_stand σm a1 = some r := sorry
theorem op_ahead {σx σm : Sto} (h : Inv σx σm) (a1 : Int32) (a2 : Int32) : ∃ qx qm, fX9_ahead σx a1 a2 = some qx ∧ fX10_ahead σm a1 a2 = some qm ∧ qx.2 = qm.2 ∧ Inv qx.1 qm.1 := sorry
theorem op_lava {σx σm : Sto} (h : Inv σx σm) (a1 : Int32) (a2 : Int32) : ∃ qx qm, fX9_lava σx a1 a2 = some qx ∧ fX10_lava σm a1 a2 = some qm ∧ qx.2 = qm.2 ∧ Inv qx.1 qm.1 := sorry
theorem op_kept {σx σm : Sto} (h : Inv σx σm) (a1 : Int32) (a2 : Int32) : ∃ qx qm, fX9_kept σx a1 a2 = some qx ∧ fX10_kept σm a1 a2 = some qm ∧ qx.2 = qm.2 ∧ Inv qx.1 qm.1 := sorry
theorem op_when {σx σm : Sto} (h : Inv σx σm) (a1 : Int32) (a2 : Int32) : ∃ qx qm, fX9_when σx a1 a2 = some qx ∧ fX10_when σm a1 a2 = some qm ∧ qx.2 = qm.2 ∧ Inv qx.1 qm.1 := sorry
theorem op_front {σx σm : Sto} (h : Inv σx σm) (a1 : Int32) : ∃ qx qm, fX9_front σx a1 = some qx ∧ fX10_front σm a1 = some qm ∧ qx.2 = qm.2 ∧ Inv qx.1 qm.1 := sorry
theorem op_carries {σx σm : Sto} (h : Inv σx σm) (a1 : Int32) (a2 : Int32) (a3 : Int32) : ∃ qx qm, fX9_carries σx a1 a2 a3 = some qx ∧ fX10_carries σm a1 a2 a3 = some qm ∧ qx.2 = qm.2 ∧ Inv qx.1 qm.1 := sorry
theorem op_dam {σx σm : Sto} (h : Inv σx σm) (a1 : Int32) (a2 : Int32) (a3 : Int32) : ∃ qx qm, fX9_dam σx a1 a2 a3 = some qx ∧ fX10_dam σm a1 a2 a3 = some qm ∧ qx.2 = qm.2 ∧ Inv qx.1 qm.1 := sorry
theorem op_hold {σx σm : Sto} (h : Inv σx σm) (a1 : Int32) (a2 : Int32) (a3 : Int32) : ∃ qx qm, fX9_hold σx a1 a2 a3 = some qx ∧ fX10_hold σm a1 a2 a3 = some qm ∧ qx.2 = qm.2 ∧ Inv qx.1 qm.1 := sorry
theorem op_spare {σx σm : Sto} (h : Inv σx σm) (a1 : Int32) : ∃ qx qm, fX9_spare σx a1 = some qx ∧ fX10_spare σm a1 = some qm ∧ qx.2 = qm.2 ∧ Inv qx.1 qm.1 := sorry
theorem op_sets {σx σm : Sto} (h : Inv σx σm) (a1 : Int32) (a2 : Int32) : ∃ r, fX9_sets σx a1 a2 = some r ∧ fX10_sets σm a1 a2 = some r := sorry
theorem op_share {σx σm : Sto} (h : Inv σx σm) (a1 : Int32) (a2 : Int32) : ∃ r, fX9_share σx a1 a2 = some r ∧ fX10_share σm a1 a2 = some r := sorry
theorem op_byTurns {σx σm : Sto} (h : Inv σx σm) (a1 : Int32) (a2 : Int32) : ∃ qx qm, fX9_byTurns σx a1 a2 = some qx ∧ fX10_byTurns σm a1 a2 = some qm ∧ qx.2 = qm.2 ∧ Inv qx.1 qm.1 := sorry
theorem op_who {σx σm : Sto} (h : Inv σx σm) (a1 : Int32) (a2 : Int32) (a3 : Int32) (a4 : Int32) (a5 : Int32) : ∃ qx qm, fX9_who σx a1 a2 a3 a4 a5 = some qx ∧ fX10_who σm a1 a2 a3 a4 a5 = some qm ∧ qx.2 = qm.2 ∧ Inv qx.1 qm.1 := sorry
theorem op_feeds {σx σm : Sto} (h : Inv σx σm) (a1 : Int32) (a2 : Int32) (a3 : Int32) (a4 : Int32) (a5 : Int32) : ∃ qx qm, fX9_feeds σx a1 a2 a3 a4 a5 = some qx ∧ fX10_feeds σm a1 a2 a3 a4 a5 = some qm ∧ qx.2 = qm.2 ∧ Inv qx.1 qm.1 := sorry
theorem op_gives {σx σm : Sto} (h : Inv σx σm) (a1 : Int32) (a2 : Int32) (a3 : Int32) (a4 : Int32) : ∃ qx qm, fX9_gives σx a1 a2 a3 a4 = some qx ∧ fX10_gives σm a1 a2 a3 a4 = some qm ∧ qx.2 = qm.2 ∧ Inv qx.1 qm.1 := sorry
theorem op_drawn {σx σm : Sto} (h : Inv σx σm) (a1 : Int32) (a2 : Int32) (a3 : Int32) : ∃ qx qm, fX9_drawn σx a1 a2 a3 = some qx ∧ fX10_drawn σm a1 a2 a3 = some qm ∧ qx.2 = qm.2 ∧ Inv qx.1 qm.1 := sorry
theorem op_image {σx σm : Sto} (h : Inv σx σm) (a1 : Int32) : ∃ qx qm, fX9_image σx a1 = some qx ∧ fX10_image σm a1 = some qm ∧ qx.2 = qm.2 ∧ Inv qx.1 qm.1 := sorry
theorem op_restore {σx σm : Sto} (h : Inv σx σm) (a1 : Int32) : ∃ qx qm, fX9_restore σx a1 = some qx ∧ fX10_restore σm a1 = some qm ∧ qx.2 = qm.2 ∧ Inv qx.1 qm.1 := sorry
theorem op_kind {σx σm : Sto} (h : Inv σx σm) (a1 : Int32) : ∃ r, fX9_kind σx a1 = some r ∧ fX10_kind σm a1 = some r := sorry
theorem op_as {σx σm : Sto} (h : Inv σx σm) (a1 : Int32) (a2 : Int32) : ∃ qx qm, fX9_as σx a1 a2 = some qx ∧ fX10_as σm a1 a2 = some qm ∧ qx.2 = qm.2 ∧ Inv qx.1 qm.1 := sorry
theorem op_ask {σx σm : Sto} (h : Inv σx σm) (a1 : Int32) (a2 : Int32) : ∃ qx qm, fX9_ask σx a1 a2 = some qx ∧ fX10_ask σm a1 a2 = some qm ∧ qx.2 = qm.2 ∧ Inv qx.1 qm.1 := sorry
theorem op_trace {σx σm : Sto} (h : Inv σx σm) (a1 : Int32) : ∃ r, fX9_trace σx a1 = some r ∧ fX10_trace σm a1 = some r := sorry
theorem op_count {σx σm : Sto} (h : Inv σx σm) (a1 : Int32) : ∃ r, fX9_count σx a1 = some r ∧ fX10_count σm a1 = some r := sorry
theorem op_status {σx σm : Sto} (h : Inv σx σm) : fX9_status σx = fX10_status σm := sorry
theorem inv_0 : Inv st0X st0M := sorry
