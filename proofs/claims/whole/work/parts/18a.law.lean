/-! ===== the law: what the pairs of methods must do ===== -/
def Pr_clear (Inv : Nat → Mem → Prop) : Prop := ∀ (n : Nat) (S : Mem), n < 512 → Inv n S → ∃ (r : Int32) (S1 S2 : Mem), g_X8_clear S = some (r, S1) ∧ g_X9_clear S1 = some (r, S2) ∧ Inv (n + 1) S2
def Pr_append (Inv : Nat → Mem → Prop) : Prop := ∀ (n : Nat) (S : Mem), n < 512 → Inv n S → ∀ a1 : Int32, ∃ (r : Int32) (S1 S2 : Mem), g_X8_append S ((a1.toUInt32 % 65536).toInt32) = some (r, S1) ∧ g_X9_append S1 ((a1.toUInt32 % 65536).toInt32) = some (r, S2) ∧ Inv (n + 1) S2
def Pr_driver (Inv : Nat → Mem → Prop) : Prop := ∀ (n : Nat) (S : Mem), n < 512 → Inv n S → ∀ a1 : Int32, ∃ (r : Int32) (S1 S2 : Mem), g_X8_driver S a1 = some (r, S1) ∧ g_X9_driver S1 a1 = some (r, S2) ∧ Inv (n + 1) S2
def Pr_ask (Inv : Nat → Mem → Prop) : Prop := ∀ (n : Nat) (S : Mem), n < 512 → Inv n S → ∀ a1 : Int32, ∃ (r : Int32) (S1 S2 : Mem), g_X8_ask S a1 = some (r, S1) ∧ g_X9_ask S1 a1 = some (r, S2) ∧ Inv (n + 1) S2
def Pr_send (Inv : Nat → Mem → Prop) : Prop := ∀ (n : Nat) (S : Mem), n < 512 → Inv n S → ∀ a1 : Int32, ∃ (r : Int32) (S1 S2 : Mem), g_X8_send S a1 = some (r, S1) ∧ g_X9_send S1 a1 = some (r, S2) ∧ Inv (n + 1) S2
def Pr_shout (Inv : Nat → Mem → Prop) : Prop := ∀ (n : Nat) (S : Mem), n < 512 → Inv n S → ∀ a1 : Int32, ∀ a2 : Int32, ∃ (r : Int32) (S1 S2 : Mem), g_X8_shout S a1 ((a2.toUInt32 % 65536).toInt32) = some (r, S1) ∧ g_X9_shout S1 a1 ((a2.toUInt32 % 65536).toInt32) = some (r, S2) ∧ Inv (n + 1) S2
def Pr_wash (Inv : Nat → Mem → Prop) : Prop := ∀ (n : Nat) (S : Mem), n < 512 → Inv n S → ∀ a1 : Int32, ∃ (r : Int32) (S1 S2 : Mem), g_X8_wash S a1 = some (r, S1) ∧ g_X9_wash S1 a1 = some (r, S2) ∧ Inv (n + 1) S2
def Pr_back (Inv : Nat → Mem → Prop) : Prop := ∀ (n : Nat) (S : Mem), n < 512 → Inv n S → ∀ a1 : Int32, ∃ (r : Int32) (S1 S2 : Mem), g_X8_back S a1 = some (r, S1) ∧ g_X9_back S1 a1 = some (r, S2) ∧ Inv (n + 1) S2
def Pr_cut (Inv : Nat → Mem → Prop) : Prop := ∀ (n : Nat) (S : Mem), n < 512 → Inv n S → ∀ a1 : Int32, ∀ a2 : Int32, ∃ (r : Int32) (S1 S2 : Mem), g_X8_cut S a1 a2 = some (r, S1) ∧ g_X9_cut S1 a1 a2 = some (r, S2) ∧ Inv (n + 1) S2
def Pr_tie (Inv : Nat → Mem → Prop) : Prop := ∀ (n : Nat) (S : Mem), n < 512 → Inv n S → ∀ a1 : Int32, ∀ a2 : Int32, ∃ (r : Int32) (S1 S2 : Mem), g_X8_tie S a1 a2 = some (r, S1) ∧ g_X9_tie S1 a1 a2 = some (r, S2) ∧ Inv (n + 1) S2
def Pr_beats (Inv : Nat → Mem → Prop) : Prop := ∀ (n : Nat) (S : Mem), n < 512 → Inv n S → ∀ a1 : Int32, ∃ (r : Int32) (S1 S2 : Mem), g_X8_beats S a1 = some (r, S1) ∧ g_X9_beats S1 a1 = some (r, S2) ∧ Inv (n + 1) S2
def Pr_read (Inv : Nat → Mem → Prop) : Prop := ∀ (n : Nat) (S : Mem), n < 512 → Inv n S → ∃ (r : Int32) (S1 S2 : Mem), g_X8_read S = some (r, S1) ∧ g_X9_read S1 = some (r, S2) ∧ Inv (n + 1) S2
def Pr_fault (Inv : Nat → Mem → Prop) : Prop := ∀ (n : Nat) (S : Mem), n < 512 → Inv n S → ∃ r : Int32, g_X8_fault S = some r ∧ g_X9_fault S = some r
def Pr_reason (Inv : Nat → Mem → Prop) : Prop := ∀ (n : Nat) (S : Mem), n < 512 → Inv n S → ∀ a1 : Int32, ∀ b2 : Int32, (b2 = 0 ∨ b2 = 1) → ∃ r : Int32, g_X8_reason S a1 b2 = some r ∧ g_X9_reason S a1 b2 = some r
def Pr_driverOf (Inv : Nat → Mem → Prop) : Prop := ∀ (n : Nat) (S : Mem), n < 512 → Inv n S → ∀ a1 : Int32, ∀ a2 : Int32, ∃ r : Int32, g_X8_driverOf S a1 a2 = some r ∧ g_X9_driverOf S a1 a2 = some r
def Pr_lineOf (Inv : Nat → Mem → Prop) : Prop := ∀ (n : Nat) (S : Mem), n < 512 → Inv n S → ∀ a1 : Int32, ∀ a2 : Int32, ∀ b3 : Int32, (b3 = 0 ∨ b3 = 1) → ∃ r : Int32, g_X8_lineOf S a1 a2 b3 = some r ∧ g_X9_lineOf S a1 a2 b3 = some r
def Pr_leader (Inv : Nat → Mem → Prop) : Prop := ∀ (n : Nat) (S : Mem), n < 512 → Inv n S → ∃ r : Int32, g_X8_leader S = some r ∧ g_X9_leader S = some r
def Pr_reaches (Inv : Nat → Mem → Prop) : Prop := ∀ (n : Nat) (S : Mem), n < 512 → Inv n S → ∀ a1 : Int32, ∀ a2 : Int32, ∃ r : Int32, g_X8_reaches S a1 a2 = some r ∧ g_X9_reaches S a1 a2 = some r
def Pr_longer (Inv : Nat → Mem → Prop) : Prop := ∀ (n : Nat) (S : Mem), n < 512 → Inv n S → ∀ a1 : Int32, ∀ a2 : Int32, ∃ r : Int32, g_X8_longer S a1 a2 = some r ∧ g_X9_longer S a1 a2 = some r
def Pr_wouldVote (Inv : Nat → Mem → Prop) : Prop := ∀ (n : Nat) (S : Mem), n < 512 → Inv n S → ∀ a1 : Int32, ∀ a2 : Int32, ∃ r : Int32, g_X8_wouldVote S a1 a2 = some r ∧ g_X9_wouldVote S a1 a2 = some r
def Pr_couldLead (Inv : Nat → Mem → Prop) : Prop := ∀ (n : Nat) (S : Mem), n < 512 → Inv n S → ∀ a1 : Int32, ∃ r : Int32, g_X8_couldLead S a1 = some r ∧ g_X9_couldLead S a1 = some r
def Pr_couldLeadAgain (Inv : Nat → Mem → Prop) : Prop := ∀ (n : Nat) (S : Mem), n < 512 → Inv n S → ∀ a1 : Int32, ∃ (r : Int32) (S1 S2 : Mem), g_X8_couldLeadAgain S a1 = some (r, S1) ∧ g_X9_couldLeadAgain S1 a1 = some (r, S2) ∧ Inv (n + 1) S2
def Pr_alike (Inv : Nat → Mem → Prop) : Prop := ∀ (n : Nat) (S : Mem), n < 512 → Inv n S → ∀ a1 : Int32, ∀ a2 : Int32, ∃ r : Int32, g_X8_alike S a1 a2 = some r ∧ g_X9_alike S a1 a2 = some r
def Pr_holders (Inv : Nat → Mem → Prop) : Prop := ∀ (n : Nat) (S : Mem), n < 512 → Inv n S → ∀ a1 : Int32, ∀ a2 : Int32, ∃ r : Int32, g_X8_holders S a1 a2 = some r ∧ g_X9_holders S a1 a2 = some r
def Pr_agreed (Inv : Nat → Mem → Prop) : Prop := ∀ (n : Nat) (S : Mem), n < 512 → Inv n S → ∃ r : Int32, g_X8_agreed S = some r ∧ g_X9_agreed S = some r
def Pr_agreedAgain (Inv : Nat → Mem → Prop) : Prop := ∀ (n : Nat) (S : Mem), n < 512 → Inv n S → ∃ r : Int32, g_X8_agreedAgain S = some r ∧ g_X9_agreedAgain S = some r
def Pr_conflicts (Inv : Nat → Mem → Prop) : Prop := ∀ (n : Nat) (S : Mem), n < 512 → Inv n S → ∃ r : Int32, g_X8_conflicts S = some r ∧ g_X9_conflicts S = some r
def Pr_isSafe (Inv : Nat → Mem → Prop) : Prop := ∀ (n : Nat) (S : Mem), n < 512 → Inv n S → ∃ r : Int32, g_X8_isSafe S = some r ∧ g_X9_isSafe S = some r
def Pr_ranked (Inv : Nat → Mem → Prop) : Prop := ∀ (n : Nat) (S : Mem), n < 512 → Inv n S → ∀ a1 : Int32, ∃ r : Int32, g_X8_ranked S a1 = some r ∧ g_X9_ranked S a1 = some r
def Pr_oldest (Inv : Nat → Mem → Prop) : Prop := ∀ (n : Nat) (S : Mem), n < 512 → Inv n S → ∀ a1 : Int32, ∃ r : Int32, g_X8_oldest S a1 = some r ∧ g_X9_oldest S a1 = some r
def Pr_quietBeats (Inv : Nat → Mem → Prop) : Prop := ∀ (n : Nat) (S : Mem), n < 512 → Inv n S → ∃ (r : Int32) (S1 S2 : Mem), g_X8_quietBeats S = some (r, S1) ∧ g_X9_quietBeats S1 = some (r, S2) ∧ Inv (n + 1) S2
def Pr_tell (Inv : Nat → Mem → Prop) : Prop := ∀ (n : Nat) (S : Mem), n < 512 → Inv n S → ∀ a1 : Int32, ∃ (r : Int32) (S1 S2 : Mem), g_X8_tell S a1 = some (r, S1) ∧ g_X9_tell S1 a1 = some (r, S2) ∧ Inv (n + 1) S2
def Pr_tellVotes (Inv : Nat → Mem → Prop) : Prop := ∀ (n : Nat) (S : Mem), n < 512 → Inv n S → ∀ a1 : Int32, ∃ (r : Int32) (S1 S2 : Mem), g_X8_tellVotes S a1 = some (r, S1) ∧ g_X9_tellVotes S1 a1 = some (r, S2) ∧ Inv (n + 1) S2
def Pr_written (Inv : Nat → Mem → Prop) : Prop := ∀ (n : Nat) (S : Mem), n < 512 → Inv n S → ∀ a1 : Int32, ∃ r : Int32, g_X8_written S a1 = some r ∧ g_X9_written S a1 = some r
def Pr_meanTale (Inv : Nat → Mem → Prop) : Prop := ∀ (n : Nat) (S : Mem), n < 512 → Inv n S → ∃ r : UInt32, g_X8_meanTale S = some r ∧ g_X9_meanTale S = some r ∧ nn64 (FP.f2d r) = true
def Pr_agreedShare (Inv : Nat → Mem → Prop) : Prop := ∀ (n : Nat) (S : Mem), n < 512 → Inv n S → ∃ r : UInt64, g_X8_agreedShare S = some r ∧ g_X9_agreedShare S = some r
def Pr_account (Inv : Nat → Mem → Prop) : Prop := ∀ (n : Nat) (S : Mem), n < 512 → Inv n S → ∀ a1 : Int32, ∃ r : Int32, g_X8_account S a1 = some r ∧ g_X9_account S a1 = some r
def Pr_undo (Inv : Nat → Mem → Prop) : Prop := ∀ (n : Nat) (S : Mem), n < 512 → Inv n S → ∃ (r : Int32) (S1 S2 : Mem), g_X8_undo S = some (r, S1) ∧ g_X9_undo S1 = some (r, S2) ∧ Inv (n + 1) S2
def Pr_save (Inv : Nat → Mem → Prop) : Prop := ∀ (n : Nat) (S : Mem), n < 512 → Inv n S → ∃ (r : Int32) (S1 S2 : Mem), g_X8_save S = some (r, S1) ∧ g_X9_save S1 = some (r, S2) ∧ Inv (n + 1) S2
def Pr_restore (Inv : Nat → Mem → Prop) : Prop := ∀ (n : Nat) (S : Mem), n < 512 → Inv n S → ∃ (r : Int32) (S1 S2 : Mem), g_X8_restore S = some (r, S1) ∧ g_X9_restore S1 = some (r, S2) ∧ Inv (n + 1) S2
def LawP (Inv : Nat → Mem → Prop) : Prop := (∀ n S, Inv n S → Inv (n + 1) S) ∧ Pr_clear Inv ∧ Pr_append Inv ∧ Pr_driver Inv ∧ Pr_ask Inv ∧ Pr_send Inv ∧ Pr_shout Inv ∧ Pr_wash Inv ∧ Pr_back Inv ∧ Pr_cut Inv ∧ Pr_tie Inv ∧ Pr_beats Inv ∧ Pr_read Inv ∧ Pr_fault Inv ∧ Pr_reason Inv ∧ Pr_driverOf Inv ∧ Pr_lineOf Inv ∧ Pr_leader Inv ∧ Pr_reaches Inv ∧ Pr_longer Inv ∧ Pr_wouldVote Inv ∧ Pr_couldLead Inv ∧ Pr_couldLeadAgain Inv ∧ Pr_alike Inv ∧ Pr_holders Inv ∧ Pr_agreed Inv ∧ Pr_agreedAgain Inv ∧ Pr_conflicts Inv ∧ Pr_isSafe Inv ∧ Pr_ranked Inv ∧ Pr_oldest Inv ∧ Pr_quietBeats Inv ∧ Pr_tell Inv ∧ Pr_tellVotes Inv ∧ Pr_written Inv ∧ Pr_meanTale Inv ∧ Pr_agreedShare Inv ∧ Pr_account Inv ∧ Pr_undo Inv ∧ Pr_save Inv ∧ Pr_restore Inv
theorem LawP.clear {Inv : Nat → Mem → Prop} (h : LawP Inv) : Pr_clear Inv := h.2.1
theorem LawP.append {Inv : Nat → Mem → Prop} (h : LawP Inv) : Pr_append Inv := h.2.2.1
theorem LawP.driver {Inv : Nat → Mem → Prop} (h : LawP Inv) : Pr_driver Inv := h.2.2.2.1
theorem LawP.ask {Inv : Nat → Mem → Prop} (h : LawP Inv) : Pr_ask Inv := h.2.2.2.2.1
theorem LawP.send {Inv : Nat → Mem → Prop} (h : LawP Inv) : Pr_send Inv := h.2.2.2.2.2.1
theorem LawP.shout {Inv : Nat → Mem → Prop} (h : LawP Inv) : Pr_shout Inv := h.2.2.2.2.2.2.1
theorem LawP.wash {Inv : Nat → Mem → Prop} (h : LawP Inv) : Pr_wash Inv := h.2.2.2.2.2.2.2.1
theorem LawP.back {Inv : Nat → Mem → Prop} (h : LawP Inv) : Pr_back Inv := h.2.2.2.2.2.2.2.2.1
theorem LawP.cut {Inv : Nat → Mem → Prop} (h : LawP Inv) : Pr_cut Inv := h.2.2.2.2.2.2.2.2.2.1
theorem LawP.tie {Inv : Nat → Mem → Prop} (h : LawP Inv) : Pr_tie Inv := h.2.2.2.2.2.2.2.2.2.2.1
theorem LawP.beats {Inv : Nat → Mem → Prop} (h : LawP Inv) : Pr_beats Inv := h.2.2.2.2.2.2.2.2.2.2.2.1
theorem LawP.read {Inv : Nat → Mem → Prop} (h : LawP Inv) : Pr_read Inv := h.2.2.2.2.2.2.2.2.2.2.2.2.1
theorem LawP.fault {Inv : Nat → Mem → Prop} (h : LawP Inv) : Pr_fault Inv := h.2.2.2.2.2.2.2.2.2.2.2.2.2.1
theorem LawP.reason {Inv : Nat → Mem → Prop} (h : LawP Inv) : Pr_reason Inv := h.2.2.2.2.2.2.2.2.2.2.2.2.2.2.1
theorem LawP.driverOf {Inv : Nat → Mem → Prop} (h : LawP Inv) : Pr_driverOf Inv := h.2.2.2.2.2.2.2.2.2.2.2.2.2.2.2.1
theorem LawP.lineOf {Inv : Nat → Mem → Prop} (h : LawP Inv) : Pr_lineOf Inv := h.2.2.2.2.2.2.2.2.2.2.2.2.2.2.2.2.1
theorem LawP.leader {Inv : Nat → Mem → Prop} (h : LawP Inv) : Pr_leader Inv := h.2.2.2.2.2.2.2.2.2.2.2.2.2.2.2.2.2.1
theorem LawP.reaches {Inv : Nat → Mem → Prop} (h : LawP Inv) : Pr_reaches Inv := h.2.2.2.2.2.2.2.2.2.2.2.2.2.2.2.2.2.2.1
theorem LawP.longer {Inv : Nat → Mem → Prop} (h : LawP Inv) : Pr_longer Inv := h.2.2.2.2.2.2.2.2.2.2.2.2.2.2.2.2.2.2.2.1
theorem LawP.wouldVote {Inv : Nat → Mem → Prop} (h : LawP Inv) : Pr_wouldVote Inv := h.2.2.2.2.2.2.2.2.2.2.2.2.2.2.2.2.2.2.2.2.1
theorem LawP.couldLead {Inv : Nat → Mem → Prop} (h : LawP Inv) : Pr_couldLead Inv := h.2.2.2.2.2.2.2.2.2.2.2.2.2.2.2.2.2.2.2.2.2.1
theorem LawP.couldLeadAgain {Inv : Nat → Mem → Prop} (h : LawP Inv) : Pr_couldLeadAgain Inv := h.2.2.2.2.2.2.2.2.2.2.2.2.2.2.2.2.2.2.2.2.2.2.1
theorem LawP.alike {Inv : Nat → Mem → Prop} (h : LawP Inv) : Pr_alike Inv := h.2.2.2.2.2.2.2.2.2.2.2.2.2.2.2.2.2.2.2.2.2.2.2.1
theorem LawP.holders {Inv : Nat → Mem → Prop} (h : LawP Inv) : Pr_holders Inv := h.2.2.2.2.2.2.2.2.2.2.2.2.2.2.2.2.2.2.2.2.2.2.2.2.1
theorem LawP.agreed {Inv : Nat → Mem → Prop} (h : LawP Inv) : Pr_agreed Inv := h.2.2.2.2.2.2.2.2.2.2.2.2.2.2.2.2.2.2.2.2.2.2.2.2.2.1
theorem LawP.agreedAgain {Inv : Nat → Mem → Prop} (h : LawP Inv) : Pr_agreedAgain Inv := h.2.2.2.2.2.2.2.2.2.2.2.2.2.2.2.2.2.2.2.2.2.2.2.2.2.2.1
theorem LawP.conflicts {Inv : Nat → Mem → Prop} (h : LawP Inv) : Pr_conflicts Inv := h.2.2.2.2.2.2.2.2.2.2.2.2.2.2.2.2.2.2.2.2.2.2.2.2.2.2.2.1
theorem LawP.isSafe {Inv : Nat → Mem → Prop} (h : LawP Inv) : Pr_isSafe Inv := h.2.2.2.2.2.2.2.2.2.2.2.2.2.2.2.2.2.2.2.2.2.2.2.2.2.2.2.2.1
theorem LawP.ranked {Inv : Nat → Mem → Prop} (h : LawP Inv) : Pr_ranked Inv := h.2.2.2.2.2.2.2.2.2.2.2.2.2.2.2.2.2.2.2.2.2.2.2.2.2.2.2.2.2.1
theorem LawP.oldest {Inv : Nat → Mem → Prop} (h : LawP Inv) : Pr_oldest Inv := h.2.2.2.2.2.2.2.2.2.2.2.2.2.2.2.2.2.2.2.2.2.2.2.2.2.2.2.2.2.2.1
theorem LawP.quietBeats {Inv : Nat → Mem → Prop} (h : LawP Inv) : Pr_quietBeats Inv := h.2.2.2.2.2.2.2.2.2.2.2.2.2.2.2.2.2.2.2.2.2.2.2.2.2.2.2.2.2.2.2.1
theorem LawP.tell {Inv : Nat → Mem → Prop} (h : LawP Inv) : Pr_tell Inv := h.2.2.2.2.2.2.2.2.2.2.2.2.2.2.2.2.2.2.2.2.2.2.2.2.2.2.2.2.2.2.2.2.1
theorem LawP.tellVotes {Inv : Nat → Mem → Prop} (h : LawP Inv) : Pr_tellVotes Inv := h.2.2.2.2.2.2.2.2.2.2.2.2.2.2.2.2.2.2.2.2.2.2.2.2.2.2.2.2.2.2.2.2.2.1
theorem LawP.written {Inv : Nat → Mem → Prop} (h : LawP Inv) : Pr_written Inv := h.2.2.2.2.2.2.2.2.2.2.2.2.2.2.2.2.2.2.2.2.2.2.2.2.2.2.2.2.2.2.2.2.2.2.1
theorem LawP.meanTale {Inv : Nat → Mem → Prop} (h : LawP Inv) : Pr_meanTale Inv := h.2.2.2.2.2.2.2.2.2.2.2.2.2.2.2.2.2.2.2.2.2.2.2.2.2.2.2.2.2.2.2.2.2.2.2.1
theorem LawP.agreedShare {Inv : Nat → Mem → Prop} (h : LawP Inv) : Pr_agreedShare Inv := h.2.2.2.2.2.2.2.2.2.2.2.2.2.2.2.2.2.2.2.2.2.2.2.2.2.2.2.2.2.2.2.2.2.2.2.2.1
theorem LawP.account {Inv : Nat → Mem → Prop} (h : LawP Inv) : Pr_account Inv := h.2.2.2.2.2.2.2.2.2.2.2.2.2.2.2.2.2.2.2.2.2.2.2.2.2.2.2.2.2.2.2.2.2.2.2.2.2.1
theorem LawP.undo {Inv : Nat → Mem → Prop} (h : LawP Inv) : Pr_undo Inv := h.2.2.2.2.2.2.2.2.2.2.2.2.2.2.2.2.2.2.2.2.2.2.2.2.2.2.2.2.2.2.2.2.2.2.2.2.2.2.1
theorem LawP.save {Inv : Nat → Mem → Prop} (h : LawP Inv) : Pr_save Inv := h.2.2.2.2.2.2.2.2.2.2.2.2.2.2.2.2.2.2.2.2.2.2.2.2.2.2.2.2.2.2.2.2.2.2.2.2.2.2.2.1
theorem LawP.restore {Inv : Nat → Mem → Prop} (h : LawP Inv) : Pr_restore Inv := h.2.2.2.2.2.2.2.2.2.2.2.2.2.2.2.2.2.2.2.2.2.2.2.2.2.2.2.2.2.2.2.2.2.2.2.2.2.2.2.2
section LAW
variable {v : EV} {p : Program} {l : Launch} {e : Env} {R : Room} {s : State} {m : MethodId} {args : Array Value} {below : List Frame} {meth : Method} {c : Code} {own : String} {cc : ByteArray} {nL : Nat} {ret : Option FieldType} {Q : State → Prop} {qb : Nat} {Wd : Mem → Heap → Prop} {S : Mem} {pc : Nat} {lv : List (Nat × Value)} {st : List Value}
theorem Mw.less {q2 : Nat} (h : q2 ≤ qb) (k : Mw Wd v p l e R s m args below meth c nL Q q2 S pc lv st) : Mw Wd v p l e R s m args below meth c nL Q qb S pc lv st := fun H locs ls cells slots hbu hW hS hl => k H locs ls cells slots (by omega) hW hS hl
theorem i_sld (hC : Cx v p l e s m args meth c own cc nL ret) {b L J : Nat} {xs : Nat → Int32} (hX : va_X b L xs s s.heap ∧ b < s.heap.size ∧ ¬ eG v b) (hJ : J < L) (hL : L < 2 ^ 31) (hdg : decode cc pc = .ok (.iaload, 1)) (k : Mw Wd v p l e R s m args below meth c nL Q qb S (pc + 1) lv (.int (xs J) :: st)) : Mw Wd v p l e R s m args below meth c nL Q qb S pc lv (.int (nI J) :: .ref b :: st) := by
  intro H locs ls cells slots hbu hW hS hl
  refine va_sld hC.1 hC.2.1 hX.1 hX.2.1 hX.2.2 hS (vp_in_nI hJ hL) hdg ?_
  rw [nI_clamp (by omega)]
  exact k H locs ls cells slots hbu hW hS hl
theorem i_slen (hC : Cx v p l e s m args meth c own cc nL ret) {b L : Nat} {xs : Nat → Int32} (hX : va_X b L xs s s.heap ∧ b < s.heap.size ∧ ¬ eG v b) (hdg : decode cc pc = .ok (.arraylength, 1)) (k : Mw Wd v p l e R s m args below meth c nL Q qb S (pc + 1) lv (.int (nI L) :: st)) : Mw Wd v p l e R s m args below meth c nL Q qb S pc lv (.ref b :: st) :=
  fun H locs ls cells slots hbu hW hS hl => va_slen hC.1 hC.2.1 hX.1 hX.2.1 hX.2.2 hS hdg (k H locs ls cells slots hbu hW hS hl)
theorem i_f2d (hC : Cx v p l e s m args meth c own cc nL ret) {x : UInt32} (hn : nn64 (FP.f2d x) = true) (hdg : decode cc pc = .ok (.f2d, 1)) (k : Mw Wd v p l e R s m args below meth c nL Q qb S (pc + 1) lv (.double (FP.f2d x) :: st)) : Mw Wd v p l e R s m args below meth c nL Q qb S pc lv (.float x :: st) := fun H locs ls cells slots hbu hW hS hl => lv_f2d hC.1 hC.2.1 hdg (nn64_of hn) (k H locs ls cells slots hbu hW hS hl)
def lstd (lv : List (Nat × Value)) (i : Nat) (x : Value) : List (Nat × Value) := (i, x) :: lv.filter (fun q => !(q.1 == i) && (!(q.1 == i + 1) && !(q.1 + 1 == i && q.2.category == 2)))
theorem i_dstore (hC : Cx v p l e s m args meth c own cc nL ret) {i : Nat} {x : UInt64} (hdg : decode cc pc = .ok (.dstore i, 2)) (hn : i + 1 < nL) (k : Mw Wd v p l e R s m args below meth c nL Q qb S (pc + 2) (lstd lv i (.double x)) st) : Mw Wd v p l e R s m args below meth c nL Q qb S pc lv (.double x :: st) := fun H locs ls cells slots hbu hW hS hl => lv_dstore hC.1 hC.2.1 hdg hl hn rfl (fun ls hl => k H locs ls cells slots hbu hW hS hl)
theorem i_dload (hC : Cx v p l e s m args meth c own cc nL ret) {i : Nat} {x : UInt64} (hdg : decode cc pc = .ok (.dload i, 2)) (hk : lk lv i = some (.double x)) (k : Mw Wd v p l e R s m args below meth c nL Q qb S (pc + 2) lv (.double x :: st)) : Mw Wd v p l e R s m args below meth c nL Q qb S pc lv st := fun H locs ls cells slots hbu hW hS hl => lv_dload hC.1 hC.2.1 hdg (lk_has hl hk) (k H locs ls cells slots hbu hW hS hl)
theorem i_dcmp (hC : Cx v p l e s m args meth c own cc nL ret) {x y : UInt64} {op : CmpOp} (hdg : decode cc pc = .ok (.dcmp op, 1)) (k : Mw Wd v p l e R s m args below meth c nL Q qb S (pc + 1) lv (.int (Op.cmpValue (FP.dcmp x y) op) :: st)) : Mw Wd v p l e R s m args below meth c nL Q qb S pc lv (.double y :: .double x :: st) := fun H locs ls cells slots hbu hW hS hl => lv_dcmp hC.1 hC.2.1 hdg (k H locs ls cells slots hbu hW hS hl)
theorem nI_a (a k : Nat) : nI a + nI k = nI (a + k) := nI_add a k
end LAW
theorem mw_374 : Cond.methodLink RL 13 yX8_clear ∈ TW := tw_of (i := 374) (by decide +kernel) rfl
theorem mw_375 : Cond.instanceMethod yX8_clear ∈ TW := tw_of (i := 375) (by decide +kernel) rfl
theorem mw_376 : Cond.selects RX8 yX8_clear yX8_clear ∈ TW := tw_of (i := 376) (by decide +kernel) rfl
theorem mw_377 : Cond.code yX8_clear cX8_clear 2 (some .int) ∈ TW := tw_of (i := 377) (by decide +kernel) rfl
theorem mw_386 : Cond.methodLink RL 18 yX8_append ∈ TW := tw_of (i := 386) (by decide +kernel) rfl
theorem mw_387 : Cond.instanceMethod yX8_append ∈ TW := tw_of (i := 387) (by decide +kernel) rfl
theorem mw_388 : Cond.selects RX8 yX8_append yX8_append ∈ TW := tw_of (i := 388) (by decide +kernel) rfl
theorem mw_389 : Cond.code yX8_append cX8_append 2 (some .int) ∈ TW := tw_of (i := 389) (by decide +kernel) rfl
theorem mw_500 : Cond.methodLink RL 23 yX8_driver ∈ TW := tw_of (i := 500) (by decide +kernel) rfl
theorem mw_501 : Cond.instanceMethod yX8_driver ∈ TW := tw_of (i := 501) (by decide +kernel) rfl
theorem mw_502 : Cond.selects RX8 yX8_driver yX8_driver ∈ TW := tw_of (i := 502) (by decide +kernel) rfl
theorem mw_503 : Cond.code yX8_driver cX8_driver 2 (some .int) ∈ TW := tw_of (i := 503) (by decide +kernel) rfl
theorem mw_671 : Cond.methodLink RL 28 yX8_ask ∈ TW := tw_of (i := 671) (by decide +kernel) rfl
theorem mw_672 : Cond.instanceMethod yX8_ask ∈ TW := tw_of (i := 672) (by decide +kernel) rfl
theorem mw_673 : Cond.selects RX8 yX8_ask yX8_ask ∈ TW := tw_of (i := 673) (by decide +kernel) rfl
theorem mw_674 : Cond.code yX8_ask cX8_ask 2 (some .int) ∈ TW := tw_of (i := 674) (by decide +kernel) rfl
theorem mw_677 : Cond.methodLink RL 32 yX8_send ∈ TW := tw_of (i := 677) (by decide +kernel) rfl
theorem mw_678 : Cond.instanceMethod yX8_send ∈ TW := tw_of (i := 678) (by decide +kernel) rfl
theorem mw_679 : Cond.selects RX8 yX8_send yX8_send ∈ TW := tw_of (i := 679) (by decide +kernel) rfl
theorem mw_680 : Cond.code yX8_send cX8_send 2 (some .int) ∈ TW := tw_of (i := 680) (by decide +kernel) rfl
theorem mw_683 : Cond.methodLink RL 36 yX8_shout ∈ TW := tw_of (i := 683) (by decide +kernel) rfl
theorem mw_684 : Cond.instanceMethod yX8_shout ∈ TW := tw_of (i := 684) (by decide +kernel) rfl
theorem mw_685 : Cond.selects RX8 yX8_shout yX8_shout ∈ TW := tw_of (i := 685) (by decide +kernel) rfl
theorem mw_686 : Cond.code yX8_shout cX8_shout 3 (some .int) ∈ TW := tw_of (i := 686) (by decide +kernel) rfl
theorem mw_689 : Cond.methodLink RL 41 yX8_wash ∈ TW := tw_of (i := 689) (by decide +kernel) rfl
theorem mw_690 : Cond.instanceMethod yX8_wash ∈ TW := tw_of (i := 690) (by decide +kernel) rfl
theorem mw_691 : Cond.selects RX8 yX8_wash yX8_wash ∈ TW := tw_of (i := 691) (by decide +kernel) rfl
theorem mw_692 : Cond.code yX8_wash cX8_wash 2 (some .int) ∈ TW := tw_of (i := 692) (by decide +kernel) rfl
theorem mw_695 : Cond.methodLink RL 45 yX8_back ∈ TW := tw_of (i := 695) (by decide +kernel) rfl
theorem mw_696 : Cond.instanceMethod yX8_back ∈ TW := tw_of (i := 696) (by decide +kernel) rfl
theorem mw_697 : Cond.selects RX8 yX8_back yX8_back ∈ TW := tw_of (i := 697) (by decide +kernel) rfl
theorem mw_698 : Cond.code yX8_back cX8_back 2 (some .int) ∈ TW := tw_of (i := 698) (by decide +kernel) rfl
theorem mw_701 : Cond.methodLink RL 49 yX8_cut ∈ TW := tw_of (i := 701) (by decide +kernel) rfl
theorem mw_702 : Cond.instanceMethod yX8_cut ∈ TW := tw_of (i := 702) (by decide +kernel) rfl
theorem mw_703 : Cond.selects RX8 yX8_cut yX8_cut ∈ TW := tw_of (i := 703) (by decide +kernel) rfl
theorem mw_704 : Cond.code yX8_cut cX8_cut 3 (some .int) ∈ TW := tw_of (i := 704) (by decide +kernel) rfl
theorem mw_707 : Cond.methodLink RL 54 yX8_tie ∈ TW := tw_of (i := 707) (by decide +kernel) rfl
theorem mw_708 : Cond.instanceMethod yX8_tie ∈ TW := tw_of (i := 708) (by decide +kernel) rfl
theorem mw_709 : Cond.selects RX8 yX8_tie yX8_tie ∈ TW := tw_of (i := 709) (by decide +kernel) rfl
theorem mw_710 : Cond.code yX8_tie cX8_tie 3 (some .int) ∈ TW := tw_of (i := 710) (by decide +kernel) rfl
theorem mw_713 : Cond.methodLink RL 58 yX8_beats ∈ TW := tw_of (i := 713) (by decide +kernel) rfl
theorem mw_714 : Cond.instanceMethod yX8_beats ∈ TW := tw_of (i := 714) (by decide +kernel) rfl
theorem mw_715 : Cond.selects RX8 yX8_beats yX8_beats ∈ TW := tw_of (i := 715) (by decide +kernel) rfl
theorem mw_716 : Cond.code yX8_beats cX8_beats 2 (some .int) ∈ TW := tw_of (i := 716) (by decide +kernel) rfl
theorem mw_719 : Cond.methodLink RL 62 yX8_read ∈ TW := tw_of (i := 719) (by decide +kernel) rfl
theorem mw_720 : Cond.instanceMethod yX8_read ∈ TW := tw_of (i := 720) (by decide +kernel) rfl
theorem mw_721 : Cond.selects RX8 yX8_read yX8_read ∈ TW := tw_of (i := 721) (by decide +kernel) rfl
theorem mw_722 : Cond.code yX8_read cX8_read 5 (some .int) ∈ TW := tw_of (i := 722) (by decide +kernel) rfl
theorem mw_845 : Cond.methodLink RL 66 yX8_fault ∈ TW := tw_of (i := 845) (by decide +kernel) rfl
theorem mw_846 : Cond.instanceMethod yX8_fault ∈ TW := tw_of (i := 846) (by decide +kernel) rfl
theorem mw_847 : Cond.selects RX8 yX8_fault yX8_fault ∈ TW := tw_of (i := 847) (by decide +kernel) rfl
theorem mw_848 : Cond.code yX8_fault cX8_fault 1 (some .int) ∈ TW := tw_of (i := 848) (by decide +kernel) rfl
theorem mw_849 : Cond.methodLink RL 70 yX8_reason ∈ TW := tw_of (i := 849) (by decide +kernel) rfl
theorem mw_850 : Cond.instanceMethod yX8_reason ∈ TW := tw_of (i := 850) (by decide +kernel) rfl
theorem mw_851 : Cond.selects RX8 yX8_reason yX8_reason ∈ TW := tw_of (i := 851) (by decide +kernel) rfl
theorem mw_852 : Cond.code yX8_reason cX8_reason 4 (some .int) ∈ TW := tw_of (i := 852) (by decide +kernel) rfl
theorem mw_853 : Cond.methodLink RL 75 yX8_driverOf ∈ TW := tw_of (i := 853) (by decide +kernel) rfl
theorem mw_854 : Cond.instanceMethod yX8_driverOf ∈ TW := tw_of (i := 854) (by decide +kernel) rfl
theorem mw_855 : Cond.selects RX8 yX8_driverOf yX8_driverOf ∈ TW := tw_of (i := 855) (by decide +kernel) rfl
theorem mw_856 : Cond.code yX8_driverOf cX8_driverOf 4 (some .int) ∈ TW := tw_of (i := 856) (by decide +kernel) rfl
theorem mw_861 : Cond.methodLink RL 79 yX8_lineOf ∈ TW := tw_of (i := 861) (by decide +kernel) rfl
theorem mw_862 : Cond.instanceMethod yX8_lineOf ∈ TW := tw_of (i := 862) (by decide +kernel) rfl
theorem mw_863 : Cond.selects RX8 yX8_lineOf yX8_lineOf ∈ TW := tw_of (i := 863) (by decide +kernel) rfl
theorem mw_864 : Cond.code yX8_lineOf cX8_lineOf 5 (some .int) ∈ TW := tw_of (i := 864) (by decide +kernel) rfl
theorem mw_870 : Cond.methodLink RL 84 yX8_leader ∈ TW := tw_of (i := 870) (by decide +kernel) rfl
theorem mw_871 : Cond.instanceMethod yX8_leader ∈ TW := tw_of (i := 871) (by decide +kernel) rfl
theorem mw_872 : Cond.selects RX8 yX8_leader yX8_leader ∈ TW := tw_of (i := 872) (by decide +kernel) rfl
theorem mw_873 : Cond.code yX8_leader cX8_leader 5 (some .int) ∈ TW := tw_of (i := 873) (by decide +kernel) rfl
theorem mw_875 : Cond.methodLink RL 88 yX8_reaches ∈ TW := tw_of (i := 875) (by decide +kernel) rfl
theorem mw_876 : Cond.instanceMethod yX8_reaches ∈ TW := tw_of (i := 876) (by decide +kernel) rfl
theorem mw_877 : Cond.selects RX8 yX8_reaches yX8_reaches ∈ TW := tw_of (i := 877) (by decide +kernel) rfl
theorem mw_878 : Cond.code yX8_reaches cX8_reaches 3 (some .boolean) ∈ TW := tw_of (i := 878) (by decide +kernel) rfl
theorem mw_880 : Cond.methodLink RL 97 yX8_wouldVote ∈ TW := tw_of (i := 880) (by decide +kernel) rfl
theorem mw_881 : Cond.instanceMethod yX8_wouldVote ∈ TW := tw_of (i := 881) (by decide +kernel) rfl
theorem mw_882 : Cond.selects RX8 yX8_wouldVote yX8_wouldVote ∈ TW := tw_of (i := 882) (by decide +kernel) rfl
theorem mw_883 : Cond.code yX8_wouldVote cX8_wouldVote 3 (some .boolean) ∈ TW := tw_of (i := 883) (by decide +kernel) rfl
theorem mw_888 : Cond.methodLink RL 101 yX8_couldLead ∈ TW := tw_of (i := 888) (by decide +kernel) rfl
theorem mw_889 : Cond.instanceMethod yX8_couldLead ∈ TW := tw_of (i := 889) (by decide +kernel) rfl
theorem mw_890 : Cond.selects RX8 yX8_couldLead yX8_couldLead ∈ TW := tw_of (i := 890) (by decide +kernel) rfl
theorem mw_891 : Cond.code yX8_couldLead cX8_couldLead 3 (some .int) ∈ TW := tw_of (i := 891) (by decide +kernel) rfl
theorem mw_901 : Cond.methodLink RL 105 yX8_couldLeadAgain ∈ TW := tw_of (i := 901) (by decide +kernel) rfl
theorem mw_902 : Cond.instanceMethod yX8_couldLeadAgain ∈ TW := tw_of (i := 902) (by decide +kernel) rfl
theorem mw_903 : Cond.selects RX8 yX8_couldLeadAgain yX8_couldLeadAgain ∈ TW := tw_of (i := 903) (by decide +kernel) rfl
theorem mw_904 : Cond.code yX8_couldLeadAgain cX8_couldLeadAgain 4 (some .int) ∈ TW := tw_of (i := 904) (by decide +kernel) rfl
theorem mw_905 : Cond.methodLink RL 93 yX8_longer ∈ TW := tw_of (i := 905) (by decide +kernel) rfl
theorem mw_906 : Cond.instanceMethod yX8_longer ∈ TW := tw_of (i := 906) (by decide +kernel) rfl
theorem mw_907 : Cond.selects RX8 yX8_longer yX8_longer ∈ TW := tw_of (i := 907) (by decide +kernel) rfl
theorem mw_908 : Cond.code yX8_longer cX8_longer 3 (some .int) ∈ TW := tw_of (i := 908) (by decide +kernel) rfl
theorem mw_910 : Cond.methodLink RL 109 yX8_alike ∈ TW := tw_of (i := 910) (by decide +kernel) rfl
theorem mw_911 : Cond.instanceMethod yX8_alike ∈ TW := tw_of (i := 911) (by decide +kernel) rfl
theorem mw_912 : Cond.selects RX8 yX8_alike yX8_alike ∈ TW := tw_of (i := 912) (by decide +kernel) rfl
theorem mw_913 : Cond.code yX8_alike cX8_alike 3 (some .int) ∈ TW := tw_of (i := 913) (by decide +kernel) rfl
theorem mw_915 : Cond.methodLink RL 113 yX8_holders ∈ TW := tw_of (i := 915) (by decide +kernel) rfl
theorem mw_916 : Cond.instanceMethod yX8_holders ∈ TW := tw_of (i := 916) (by decide +kernel) rfl
theorem mw_917 : Cond.selects RX8 yX8_holders yX8_holders ∈ TW := tw_of (i := 917) (by decide +kernel) rfl
theorem mw_918 : Cond.code yX8_holders cX8_holders 5 (some .int) ∈ TW := tw_of (i := 918) (by decide +kernel) rfl
theorem mw_919 : Cond.methodLink RL 117 yX8_agreed ∈ TW := tw_of (i := 919) (by decide +kernel) rfl
theorem mw_920 : Cond.instanceMethod yX8_agreed ∈ TW := tw_of (i := 920) (by decide +kernel) rfl
theorem mw_921 : Cond.selects RX8 yX8_agreed yX8_agreed ∈ TW := tw_of (i := 921) (by decide +kernel) rfl
theorem mw_922 : Cond.code yX8_agreed cX8_agreed 3 (some .int) ∈ TW := tw_of (i := 922) (by decide +kernel) rfl
theorem mw_923 : Cond.methodLink RL 121 yX8_agreedAgain ∈ TW := tw_of (i := 923) (by decide +kernel) rfl
theorem mw_924 : Cond.instanceMethod yX8_agreedAgain ∈ TW := tw_of (i := 924) (by decide +kernel) rfl
theorem mw_925 : Cond.selects RX8 yX8_agreedAgain yX8_agreedAgain ∈ TW := tw_of (i := 925) (by decide +kernel) rfl
theorem mw_926 : Cond.code yX8_agreedAgain cX8_agreedAgain 3 (some .int) ∈ TW := tw_of (i := 926) (by decide +kernel) rfl
theorem mw_927 : Cond.methodLink RL 125 yX8_conflicts ∈ TW := tw_of (i := 927) (by decide +kernel) rfl
theorem mw_928 : Cond.instanceMethod yX8_conflicts ∈ TW := tw_of (i := 928) (by decide +kernel) rfl
theorem mw_929 : Cond.selects RX8 yX8_conflicts yX8_conflicts ∈ TW := tw_of (i := 929) (by decide +kernel) rfl
theorem mw_930 : Cond.code yX8_conflicts cX8_conflicts 4 (some .int) ∈ TW := tw_of (i := 930) (by decide +kernel) rfl
theorem mw_937 : Cond.methodLink RL 129 yX8_isSafe ∈ TW := tw_of (i := 937) (by decide +kernel) rfl
theorem mw_938 : Cond.instanceMethod yX8_isSafe ∈ TW := tw_of (i := 938) (by decide +kernel) rfl
theorem mw_939 : Cond.selects RX8 yX8_isSafe yX8_isSafe ∈ TW := tw_of (i := 939) (by decide +kernel) rfl
theorem mw_940 : Cond.code yX8_isSafe cX8_isSafe 5 (some .int) ∈ TW := tw_of (i := 940) (by decide +kernel) rfl
theorem mw_942 : Cond.methodLink RL 133 yX8_ranked ∈ TW := tw_of (i := 942) (by decide +kernel) rfl
theorem mw_943 : Cond.instanceMethod yX8_ranked ∈ TW := tw_of (i := 943) (by decide +kernel) rfl
theorem mw_944 : Cond.selects RX8 yX8_ranked yX8_ranked ∈ TW := tw_of (i := 944) (by decide +kernel) rfl
theorem mw_945 : Cond.code yX8_ranked cX8_ranked 3 (some .int) ∈ TW := tw_of (i := 945) (by decide +kernel) rfl
theorem mw_954 : Cond.methodLink RL 137 yX8_oldest ∈ TW := tw_of (i := 954) (by decide +kernel) rfl
theorem mw_955 : Cond.instanceMethod yX8_oldest ∈ TW := tw_of (i := 955) (by decide +kernel) rfl
theorem mw_956 : Cond.selects RX8 yX8_oldest yX8_oldest ∈ TW := tw_of (i := 956) (by decide +kernel) rfl
theorem mw_957 : Cond.code yX8_oldest cX8_oldest 3 (some .int) ∈ TW := tw_of (i := 957) (by decide +kernel) rfl
theorem mw_971 : Cond.methodLink RL 141 yX8_quietBeats ∈ TW := tw_of (i := 971) (by decide +kernel) rfl
theorem mw_972 : Cond.instanceMethod yX8_quietBeats ∈ TW := tw_of (i := 972) (by decide +kernel) rfl
theorem mw_973 : Cond.selects RX8 yX8_quietBeats yX8_quietBeats ∈ TW := tw_of (i := 973) (by decide +kernel) rfl
theorem mw_974 : Cond.code yX8_quietBeats cX8_quietBeats 2 (some .int) ∈ TW := tw_of (i := 974) (by decide +kernel) rfl
theorem mw_975 : Cond.methodLink RL 145 yX8_tell ∈ TW := tw_of (i := 975) (by decide +kernel) rfl
theorem mw_976 : Cond.instanceMethod yX8_tell ∈ TW := tw_of (i := 976) (by decide +kernel) rfl
theorem mw_977 : Cond.selects RX8 yX8_tell yX8_tell ∈ TW := tw_of (i := 977) (by decide +kernel) rfl
theorem mw_978 : Cond.code yX8_tell cX8_tell 2 (some .int) ∈ TW := tw_of (i := 978) (by decide +kernel) rfl
theorem mw_1020 : Cond.methodLink RL 149 yX8_tellVotes ∈ TW := tw_of (i := 1020) (by decide +kernel) rfl
theorem mw_1021 : Cond.instanceMethod yX8_tellVotes ∈ TW := tw_of (i := 1021) (by decide +kernel) rfl
theorem mw_1022 : Cond.selects RX8 yX8_tellVotes yX8_tellVotes ∈ TW := tw_of (i := 1022) (by decide +kernel) rfl
theorem mw_1023 : Cond.code yX8_tellVotes cX8_tellVotes 3 (some .int) ∈ TW := tw_of (i := 1023) (by decide +kernel) rfl
theorem mw_1030 : Cond.methodLink RL 153 yX8_written ∈ TW := tw_of (i := 1030) (by decide +kernel) rfl
theorem mw_1031 : Cond.instanceMethod yX8_written ∈ TW := tw_of (i := 1031) (by decide +kernel) rfl
theorem mw_1032 : Cond.selects RX8 yX8_written yX8_written ∈ TW := tw_of (i := 1032) (by decide +kernel) rfl
theorem mw_1033 : Cond.code yX8_written cX8_written 2 (some .int) ∈ TW := tw_of (i := 1033) (by decide +kernel) rfl
theorem mw_1035 : Cond.methodLink RL 157 yX8_meanTale ∈ TW := tw_of (i := 1035) (by decide +kernel) rfl
theorem mw_1036 : Cond.instanceMethod yX8_meanTale ∈ TW := tw_of (i := 1036) (by decide +kernel) rfl
theorem mw_1037 : Cond.selects RX8 yX8_meanTale yX8_meanTale ∈ TW := tw_of (i := 1037) (by decide +kernel) rfl
theorem mw_1038 : Cond.code yX8_meanTale cX8_meanTale 1 (some .float) ∈ TW := tw_of (i := 1038) (by decide +kernel) rfl
theorem mw_1043 : Cond.methodLink RL 162 yX8_agreedShare ∈ TW := tw_of (i := 1043) (by decide +kernel) rfl
theorem mw_1044 : Cond.instanceMethod yX8_agreedShare ∈ TW := tw_of (i := 1044) (by decide +kernel) rfl
theorem mw_1045 : Cond.selects RX8 yX8_agreedShare yX8_agreedShare ∈ TW := tw_of (i := 1045) (by decide +kernel) rfl
theorem mw_1046 : Cond.code yX8_agreedShare cX8_agreedShare 2 (some .double) ∈ TW := tw_of (i := 1046) (by decide +kernel) rfl
theorem mw_1051 : Cond.methodLink RL 167 yX8_account ∈ TW := tw_of (i := 1051) (by decide +kernel) rfl
theorem mw_1052 : Cond.instanceMethod yX8_account ∈ TW := tw_of (i := 1052) (by decide +kernel) rfl
theorem mw_1053 : Cond.selects RX8 yX8_account yX8_account ∈ TW := tw_of (i := 1053) (by decide +kernel) rfl
theorem mw_1054 : Cond.code yX8_account cX8_account 2 (some .int) ∈ TW := tw_of (i := 1054) (by decide +kernel) rfl
theorem mw_1060 : Cond.methodLink RL 171 yX8_undo ∈ TW := tw_of (i := 1060) (by decide +kernel) rfl
theorem mw_1061 : Cond.instanceMethod yX8_undo ∈ TW := tw_of (i := 1061) (by decide +kernel) rfl
theorem mw_1062 : Cond.selects RX8 yX8_undo yX8_undo ∈ TW := tw_of (i := 1062) (by decide +kernel) rfl
theorem mw_1063 : Cond.code yX8_undo cX8_undo 1 (some .int) ∈ TW := tw_of (i := 1063) (by decide +kernel) rfl
theorem mw_1068 : Cond.methodLink RL 175 yX8_save ∈ TW := tw_of (i := 1068) (by decide +kernel) rfl
theorem mw_1069 : Cond.instanceMethod yX8_save ∈ TW := tw_of (i := 1069) (by decide +kernel) rfl
theorem mw_1070 : Cond.selects RX8 yX8_save yX8_save ∈ TW := tw_of (i := 1070) (by decide +kernel) rfl
theorem mw_1071 : Cond.code yX8_save cX8_save 1 (some .int) ∈ TW := tw_of (i := 1071) (by decide +kernel) rfl
theorem mw_1072 : Cond.methodLink RL 179 yX8_restore ∈ TW := tw_of (i := 1072) (by decide +kernel) rfl
theorem mw_1073 : Cond.instanceMethod yX8_restore ∈ TW := tw_of (i := 1073) (by decide +kernel) rfl
theorem mw_1074 : Cond.selects RX8 yX8_restore yX8_restore ∈ TW := tw_of (i := 1074) (by decide +kernel) rfl
theorem mw_1075 : Cond.code yX8_restore cX8_restore 1 (some .int) ∈ TW := tw_of (i := 1075) (by decide +kernel) rfl
theorem mw_1143 : Cond.methodLink RL 17 yX9_clear ∈ TW := tw_of (i := 1143) (by decide +kernel) rfl
theorem mw_1144 : Cond.instanceMethod yX9_clear ∈ TW := tw_of (i := 1144) (by decide +kernel) rfl
theorem mw_1145 : Cond.selects RX9 yX9_clear yX9_clear ∈ TW := tw_of (i := 1145) (by decide +kernel) rfl
theorem mw_1146 : Cond.code yX9_clear cX9_clear 3 (some .int) ∈ TW := tw_of (i := 1146) (by decide +kernel) rfl
theorem mw_1147 : Cond.methodLink RL 27 yX9_driver ∈ TW := tw_of (i := 1147) (by decide +kernel) rfl
theorem mw_1148 : Cond.instanceMethod yX9_driver ∈ TW := tw_of (i := 1148) (by decide +kernel) rfl
theorem mw_1149 : Cond.selects RX9 yX9_driver yX9_driver ∈ TW := tw_of (i := 1149) (by decide +kernel) rfl
theorem mw_1150 : Cond.code yX9_driver cX9_driver 2 (some .int) ∈ TW := tw_of (i := 1150) (by decide +kernel) rfl
theorem mw_1184 : Cond.methodLink RL 31 yX9_ask ∈ TW := tw_of (i := 1184) (by decide +kernel) rfl
theorem mw_1185 : Cond.instanceMethod yX9_ask ∈ TW := tw_of (i := 1185) (by decide +kernel) rfl
theorem mw_1186 : Cond.selects RX9 yX9_ask yX9_ask ∈ TW := tw_of (i := 1186) (by decide +kernel) rfl
theorem mw_1187 : Cond.code yX9_ask cX9_ask 2 (some .int) ∈ TW := tw_of (i := 1187) (by decide +kernel) rfl
theorem mw_1246 : Cond.methodLink RL 35 yX9_send ∈ TW := tw_of (i := 1246) (by decide +kernel) rfl
theorem mw_1247 : Cond.instanceMethod yX9_send ∈ TW := tw_of (i := 1247) (by decide +kernel) rfl
theorem mw_1248 : Cond.selects RX9 yX9_send yX9_send ∈ TW := tw_of (i := 1248) (by decide +kernel) rfl
theorem mw_1249 : Cond.code yX9_send cX9_send 2 (some .int) ∈ TW := tw_of (i := 1249) (by decide +kernel) rfl
theorem mw_1274 : Cond.methodLink RL 40 yX9_shout ∈ TW := tw_of (i := 1274) (by decide +kernel) rfl
theorem mw_1275 : Cond.instanceMethod yX9_shout ∈ TW := tw_of (i := 1275) (by decide +kernel) rfl
theorem mw_1276 : Cond.selects RX9 yX9_shout yX9_shout ∈ TW := tw_of (i := 1276) (by decide +kernel) rfl
theorem mw_1277 : Cond.code yX9_shout cX9_shout 3 (some .int) ∈ TW := tw_of (i := 1277) (by decide +kernel) rfl
theorem mw_1282 : Cond.methodLink RL 44 yX9_wash ∈ TW := tw_of (i := 1282) (by decide +kernel) rfl
theorem mw_1283 : Cond.instanceMethod yX9_wash ∈ TW := tw_of (i := 1283) (by decide +kernel) rfl
theorem mw_1284 : Cond.selects RX9 yX9_wash yX9_wash ∈ TW := tw_of (i := 1284) (by decide +kernel) rfl
theorem mw_1285 : Cond.code yX9_wash cX9_wash 2 (some .int) ∈ TW := tw_of (i := 1285) (by decide +kernel) rfl
theorem mw_1294 : Cond.methodLink RL 48 yX9_back ∈ TW := tw_of (i := 1294) (by decide +kernel) rfl
theorem mw_1295 : Cond.instanceMethod yX9_back ∈ TW := tw_of (i := 1295) (by decide +kernel) rfl
theorem mw_1296 : Cond.selects RX9 yX9_back yX9_back ∈ TW := tw_of (i := 1296) (by decide +kernel) rfl
theorem mw_1297 : Cond.code yX9_back cX9_back 2 (some .int) ∈ TW := tw_of (i := 1297) (by decide +kernel) rfl
theorem mw_1302 : Cond.methodLink RL 53 yX9_cut ∈ TW := tw_of (i := 1302) (by decide +kernel) rfl
theorem mw_1303 : Cond.instanceMethod yX9_cut ∈ TW := tw_of (i := 1303) (by decide +kernel) rfl
theorem mw_1304 : Cond.selects RX9 yX9_cut yX9_cut ∈ TW := tw_of (i := 1304) (by decide +kernel) rfl
theorem mw_1305 : Cond.code yX9_cut cX9_cut 3 (some .int) ∈ TW := tw_of (i := 1305) (by decide +kernel) rfl
theorem mw_1318 : Cond.methodLink RL 57 yX9_tie ∈ TW := tw_of (i := 1318) (by decide +kernel) rfl
theorem mw_1319 : Cond.instanceMethod yX9_tie ∈ TW := tw_of (i := 1319) (by decide +kernel) rfl
theorem mw_1320 : Cond.selects RX9 yX9_tie yX9_tie ∈ TW := tw_of (i := 1320) (by decide +kernel) rfl
theorem mw_1321 : Cond.code yX9_tie cX9_tie 3 (some .int) ∈ TW := tw_of (i := 1321) (by decide +kernel) rfl
theorem mw_1322 : Cond.methodLink RL 61 yX9_beats ∈ TW := tw_of (i := 1322) (by decide +kernel) rfl
theorem mw_1323 : Cond.instanceMethod yX9_beats ∈ TW := tw_of (i := 1323) (by decide +kernel) rfl
theorem mw_1324 : Cond.selects RX9 yX9_beats yX9_beats ∈ TW := tw_of (i := 1324) (by decide +kernel) rfl
theorem mw_1325 : Cond.code yX9_beats cX9_beats 2 (some .int) ∈ TW := tw_of (i := 1325) (by decide +kernel) rfl
theorem mw_1338 : Cond.methodLink RL 22 yX9_append ∈ TW := tw_of (i := 1338) (by decide +kernel) rfl
theorem mw_1339 : Cond.instanceMethod yX9_append ∈ TW := tw_of (i := 1339) (by decide +kernel) rfl
theorem mw_1340 : Cond.selects RX9 yX9_append yX9_append ∈ TW := tw_of (i := 1340) (by decide +kernel) rfl
theorem mw_1341 : Cond.code yX9_append cX9_append 2 (some .int) ∈ TW := tw_of (i := 1341) (by decide +kernel) rfl
theorem mw_1342 : Cond.methodLink RL 65 yX9_read ∈ TW := tw_of (i := 1342) (by decide +kernel) rfl
theorem mw_1343 : Cond.instanceMethod yX9_read ∈ TW := tw_of (i := 1343) (by decide +kernel) rfl
theorem mw_1344 : Cond.selects RX9 yX9_read yX9_read ∈ TW := tw_of (i := 1344) (by decide +kernel) rfl
theorem mw_1345 : Cond.code yX9_read cX9_read 4 (some .int) ∈ TW := tw_of (i := 1345) (by decide +kernel) rfl
theorem mw_1400 : Cond.methodLink RL 69 yX9_fault ∈ TW := tw_of (i := 1400) (by decide +kernel) rfl
theorem mw_1401 : Cond.instanceMethod yX9_fault ∈ TW := tw_of (i := 1401) (by decide +kernel) rfl
theorem mw_1402 : Cond.selects RX9 yX9_fault yX9_fault ∈ TW := tw_of (i := 1402) (by decide +kernel) rfl
theorem mw_1403 : Cond.code yX9_fault cX9_fault 1 (some .int) ∈ TW := tw_of (i := 1403) (by decide +kernel) rfl
theorem mw_1404 : Cond.methodLink RL 74 yX9_reason ∈ TW := tw_of (i := 1404) (by decide +kernel) rfl
theorem mw_1405 : Cond.instanceMethod yX9_reason ∈ TW := tw_of (i := 1405) (by decide +kernel) rfl
theorem mw_1406 : Cond.selects RX9 yX9_reason yX9_reason ∈ TW := tw_of (i := 1406) (by decide +kernel) rfl
theorem mw_1407 : Cond.code yX9_reason cX9_reason 3 (some .int) ∈ TW := tw_of (i := 1407) (by decide +kernel) rfl
theorem mw_1408 : Cond.methodLink RL 78 yX9_driverOf ∈ TW := tw_of (i := 1408) (by decide +kernel) rfl
theorem mw_1409 : Cond.instanceMethod yX9_driverOf ∈ TW := tw_of (i := 1409) (by decide +kernel) rfl
theorem mw_1410 : Cond.selects RX9 yX9_driverOf yX9_driverOf ∈ TW := tw_of (i := 1410) (by decide +kernel) rfl
theorem mw_1411 : Cond.code yX9_driverOf cX9_driverOf 3 (some .int) ∈ TW := tw_of (i := 1411) (by decide +kernel) rfl
theorem mw_1416 : Cond.methodLink RL 83 yX9_lineOf ∈ TW := tw_of (i := 1416) (by decide +kernel) rfl
theorem mw_1417 : Cond.instanceMethod yX9_lineOf ∈ TW := tw_of (i := 1417) (by decide +kernel) rfl
theorem mw_1418 : Cond.selects RX9 yX9_lineOf yX9_lineOf ∈ TW := tw_of (i := 1418) (by decide +kernel) rfl
theorem mw_1419 : Cond.code yX9_lineOf cX9_lineOf 4 (some .int) ∈ TW := tw_of (i := 1419) (by decide +kernel) rfl
theorem mw_1424 : Cond.methodLink RL 87 yX9_leader ∈ TW := tw_of (i := 1424) (by decide +kernel) rfl
theorem mw_1425 : Cond.instanceMethod yX9_leader ∈ TW := tw_of (i := 1425) (by decide +kernel) rfl
theorem mw_1426 : Cond.selects RX9 yX9_leader yX9_leader ∈ TW := tw_of (i := 1426) (by decide +kernel) rfl
theorem mw_1427 : Cond.code yX9_leader cX9_leader 4 (some .int) ∈ TW := tw_of (i := 1427) (by decide +kernel) rfl
theorem mw_1428 : Cond.methodLink RL 92 yX9_reaches ∈ TW := tw_of (i := 1428) (by decide +kernel) rfl
theorem mw_1429 : Cond.instanceMethod yX9_reaches ∈ TW := tw_of (i := 1429) (by decide +kernel) rfl
theorem mw_1430 : Cond.selects RX9 yX9_reaches yX9_reaches ∈ TW := tw_of (i := 1430) (by decide +kernel) rfl
theorem mw_1431 : Cond.code yX9_reaches cX9_reaches 3 (some .boolean) ∈ TW := tw_of (i := 1431) (by decide +kernel) rfl
theorem mw_1432 : Cond.methodLink RL 96 yX9_longer ∈ TW := tw_of (i := 1432) (by decide +kernel) rfl
theorem mw_1433 : Cond.instanceMethod yX9_longer ∈ TW := tw_of (i := 1433) (by decide +kernel) rfl
theorem mw_1434 : Cond.selects RX9 yX9_longer yX9_longer ∈ TW := tw_of (i := 1434) (by decide +kernel) rfl
theorem mw_1435 : Cond.code yX9_longer cX9_longer 3 (some .int) ∈ TW := tw_of (i := 1435) (by decide +kernel) rfl
theorem mw_1436 : Cond.methodLink RL 100 yX9_wouldVote ∈ TW := tw_of (i := 1436) (by decide +kernel) rfl
theorem mw_1437 : Cond.instanceMethod yX9_wouldVote ∈ TW := tw_of (i := 1437) (by decide +kernel) rfl
theorem mw_1438 : Cond.selects RX9 yX9_wouldVote yX9_wouldVote ∈ TW := tw_of (i := 1438) (by decide +kernel) rfl
theorem mw_1439 : Cond.code yX9_wouldVote cX9_wouldVote 3 (some .boolean) ∈ TW := tw_of (i := 1439) (by decide +kernel) rfl
theorem mw_1444 : Cond.methodLink RL 104 yX9_couldLead ∈ TW := tw_of (i := 1444) (by decide +kernel) rfl
theorem mw_1445 : Cond.instanceMethod yX9_couldLead ∈ TW := tw_of (i := 1445) (by decide +kernel) rfl
theorem mw_1446 : Cond.selects RX9 yX9_couldLead yX9_couldLead ∈ TW := tw_of (i := 1446) (by decide +kernel) rfl
theorem mw_1447 : Cond.code yX9_couldLead cX9_couldLead 5 (some .int) ∈ TW := tw_of (i := 1447) (by decide +kernel) rfl
theorem mw_1452 : Cond.methodLink RL 108 yX9_couldLeadAgain ∈ TW := tw_of (i := 1452) (by decide +kernel) rfl
theorem mw_1453 : Cond.instanceMethod yX9_couldLeadAgain ∈ TW := tw_of (i := 1453) (by decide +kernel) rfl
theorem mw_1454 : Cond.selects RX9 yX9_couldLeadAgain yX9_couldLeadAgain ∈ TW := tw_of (i := 1454) (by decide +kernel) rfl
theorem mw_1455 : Cond.code yX9_couldLeadAgain cX9_couldLeadAgain 4 (some .int) ∈ TW := tw_of (i := 1455) (by decide +kernel) rfl
theorem mw_1456 : Cond.methodLink RL 112 yX9_alike ∈ TW := tw_of (i := 1456) (by decide +kernel) rfl
theorem mw_1457 : Cond.instanceMethod yX9_alike ∈ TW := tw_of (i := 1457) (by decide +kernel) rfl
theorem mw_1458 : Cond.selects RX9 yX9_alike yX9_alike ∈ TW := tw_of (i := 1458) (by decide +kernel) rfl
theorem mw_1459 : Cond.code yX9_alike cX9_alike 3 (some .int) ∈ TW := tw_of (i := 1459) (by decide +kernel) rfl
theorem mw_1460 : Cond.methodLink RL 116 yX9_holders ∈ TW := tw_of (i := 1460) (by decide +kernel) rfl
theorem mw_1461 : Cond.instanceMethod yX9_holders ∈ TW := tw_of (i := 1461) (by decide +kernel) rfl
theorem mw_1462 : Cond.selects RX9 yX9_holders yX9_holders ∈ TW := tw_of (i := 1462) (by decide +kernel) rfl
theorem mw_1463 : Cond.code yX9_holders cX9_holders 5 (some .int) ∈ TW := tw_of (i := 1463) (by decide +kernel) rfl
theorem mw_1464 : Cond.methodLink RL 120 yX9_agreed ∈ TW := tw_of (i := 1464) (by decide +kernel) rfl
theorem mw_1465 : Cond.instanceMethod yX9_agreed ∈ TW := tw_of (i := 1465) (by decide +kernel) rfl
theorem mw_1466 : Cond.selects RX9 yX9_agreed yX9_agreed ∈ TW := tw_of (i := 1466) (by decide +kernel) rfl
theorem mw_1467 : Cond.code yX9_agreed cX9_agreed 3 (some .int) ∈ TW := tw_of (i := 1467) (by decide +kernel) rfl
theorem mw_1468 : Cond.methodLink RL 124 yX9_agreedAgain ∈ TW := tw_of (i := 1468) (by decide +kernel) rfl
theorem mw_1469 : Cond.instanceMethod yX9_agreedAgain ∈ TW := tw_of (i := 1469) (by decide +kernel) rfl
theorem mw_1470 : Cond.selects RX9 yX9_agreedAgain yX9_agreedAgain ∈ TW := tw_of (i := 1470) (by decide +kernel) rfl
theorem mw_1471 : Cond.code yX9_agreedAgain cX9_agreedAgain 3 (some .int) ∈ TW := tw_of (i := 1471) (by decide +kernel) rfl
theorem mw_1472 : Cond.methodLink RL 128 yX9_conflicts ∈ TW := tw_of (i := 1472) (by decide +kernel) rfl
theorem mw_1473 : Cond.instanceMethod yX9_conflicts ∈ TW := tw_of (i := 1473) (by decide +kernel) rfl
theorem mw_1474 : Cond.selects RX9 yX9_conflicts yX9_conflicts ∈ TW := tw_of (i := 1474) (by decide +kernel) rfl
theorem mw_1475 : Cond.code yX9_conflicts cX9_conflicts 4 (some .int) ∈ TW := tw_of (i := 1475) (by decide +kernel) rfl
theorem mw_1476 : Cond.methodLink RL 132 yX9_isSafe ∈ TW := tw_of (i := 1476) (by decide +kernel) rfl
theorem mw_1477 : Cond.instanceMethod yX9_isSafe ∈ TW := tw_of (i := 1477) (by decide +kernel) rfl
theorem mw_1478 : Cond.selects RX9 yX9_isSafe yX9_isSafe ∈ TW := tw_of (i := 1478) (by decide +kernel) rfl
theorem mw_1479 : Cond.code yX9_isSafe cX9_isSafe 3 (some .int) ∈ TW := tw_of (i := 1479) (by decide +kernel) rfl
theorem mw_1480 : Cond.methodLink RL 136 yX9_ranked ∈ TW := tw_of (i := 1480) (by decide +kernel) rfl
theorem mw_1481 : Cond.instanceMethod yX9_ranked ∈ TW := tw_of (i := 1481) (by decide +kernel) rfl
theorem mw_1482 : Cond.selects RX9 yX9_ranked yX9_ranked ∈ TW := tw_of (i := 1482) (by decide +kernel) rfl
theorem mw_1483 : Cond.code yX9_ranked cX9_ranked 5 (some .int) ∈ TW := tw_of (i := 1483) (by decide +kernel) rfl
theorem mw_1488 : Cond.methodLink RL 140 yX9_oldest ∈ TW := tw_of (i := 1488) (by decide +kernel) rfl
theorem mw_1489 : Cond.instanceMethod yX9_oldest ∈ TW := tw_of (i := 1489) (by decide +kernel) rfl
theorem mw_1490 : Cond.selects RX9 yX9_oldest yX9_oldest ∈ TW := tw_of (i := 1490) (by decide +kernel) rfl
theorem mw_1491 : Cond.code yX9_oldest cX9_oldest 6 (some .int) ∈ TW := tw_of (i := 1491) (by decide +kernel) rfl
theorem mw_1500 : Cond.methodLink RL 144 yX9_quietBeats ∈ TW := tw_of (i := 1500) (by decide +kernel) rfl
theorem mw_1501 : Cond.instanceMethod yX9_quietBeats ∈ TW := tw_of (i := 1501) (by decide +kernel) rfl
theorem mw_1502 : Cond.selects RX9 yX9_quietBeats yX9_quietBeats ∈ TW := tw_of (i := 1502) (by decide +kernel) rfl
theorem mw_1503 : Cond.code yX9_quietBeats cX9_quietBeats 3 (some .int) ∈ TW := tw_of (i := 1503) (by decide +kernel) rfl
theorem mw_1504 : Cond.methodLink RL 148 yX9_tell ∈ TW := tw_of (i := 1504) (by decide +kernel) rfl
theorem mw_1505 : Cond.instanceMethod yX9_tell ∈ TW := tw_of (i := 1505) (by decide +kernel) rfl
theorem mw_1506 : Cond.selects RX9 yX9_tell yX9_tell ∈ TW := tw_of (i := 1506) (by decide +kernel) rfl
theorem mw_1507 : Cond.code yX9_tell cX9_tell 4 (some .int) ∈ TW := tw_of (i := 1507) (by decide +kernel) rfl
theorem mw_1516 : Cond.methodLink RL 152 yX9_tellVotes ∈ TW := tw_of (i := 1516) (by decide +kernel) rfl
theorem mw_1517 : Cond.instanceMethod yX9_tellVotes ∈ TW := tw_of (i := 1517) (by decide +kernel) rfl
theorem mw_1518 : Cond.selects RX9 yX9_tellVotes yX9_tellVotes ∈ TW := tw_of (i := 1518) (by decide +kernel) rfl
theorem mw_1519 : Cond.code yX9_tellVotes cX9_tellVotes 3 (some .int) ∈ TW := tw_of (i := 1519) (by decide +kernel) rfl
theorem mw_1520 : Cond.methodLink RL 156 yX9_written ∈ TW := tw_of (i := 1520) (by decide +kernel) rfl
theorem mw_1521 : Cond.instanceMethod yX9_written ∈ TW := tw_of (i := 1521) (by decide +kernel) rfl
theorem mw_1522 : Cond.selects RX9 yX9_written yX9_written ∈ TW := tw_of (i := 1522) (by decide +kernel) rfl
theorem mw_1523 : Cond.code yX9_written cX9_written 2 (some .int) ∈ TW := tw_of (i := 1523) (by decide +kernel) rfl
theorem mw_1524 : Cond.methodLink RL 161 yX9_meanTale ∈ TW := tw_of (i := 1524) (by decide +kernel) rfl
theorem mw_1525 : Cond.instanceMethod yX9_meanTale ∈ TW := tw_of (i := 1525) (by decide +kernel) rfl
theorem mw_1526 : Cond.selects RX9 yX9_meanTale yX9_meanTale ∈ TW := tw_of (i := 1526) (by decide +kernel) rfl
theorem mw_1527 : Cond.code yX9_meanTale cX9_meanTale 1 (some .float) ∈ TW := tw_of (i := 1527) (by decide +kernel) rfl
theorem mw_1532 : Cond.methodLink RL 166 yX9_agreedShare ∈ TW := tw_of (i := 1532) (by decide +kernel) rfl
theorem mw_1533 : Cond.instanceMethod yX9_agreedShare ∈ TW := tw_of (i := 1533) (by decide +kernel) rfl
theorem mw_1534 : Cond.selects RX9 yX9_agreedShare yX9_agreedShare ∈ TW := tw_of (i := 1534) (by decide +kernel) rfl
theorem mw_1535 : Cond.code yX9_agreedShare cX9_agreedShare 2 (some .double) ∈ TW := tw_of (i := 1535) (by decide +kernel) rfl
theorem mw_1536 : Cond.methodLink RL 170 yX9_account ∈ TW := tw_of (i := 1536) (by decide +kernel) rfl
theorem mw_1537 : Cond.instanceMethod yX9_account ∈ TW := tw_of (i := 1537) (by decide +kernel) rfl
theorem mw_1538 : Cond.selects RX9 yX9_account yX9_account ∈ TW := tw_of (i := 1538) (by decide +kernel) rfl
theorem mw_1539 : Cond.code yX9_account cX9_account 2 (some .int) ∈ TW := tw_of (i := 1539) (by decide +kernel) rfl
theorem mw_1544 : Cond.methodLink RL 174 yX9_undo ∈ TW := tw_of (i := 1544) (by decide +kernel) rfl
theorem mw_1545 : Cond.instanceMethod yX9_undo ∈ TW := tw_of (i := 1545) (by decide +kernel) rfl
theorem mw_1546 : Cond.selects RX9 yX9_undo yX9_undo ∈ TW := tw_of (i := 1546) (by decide +kernel) rfl
theorem mw_1547 : Cond.code yX9_undo cX9_undo 1 (some .int) ∈ TW := tw_of (i := 1547) (by decide +kernel) rfl
theorem mw_1548 : Cond.methodLink RL 178 yX9_save ∈ TW := tw_of (i := 1548) (by decide +kernel) rfl
theorem mw_1549 : Cond.instanceMethod yX9_save ∈ TW := tw_of (i := 1549) (by decide +kernel) rfl
theorem mw_1550 : Cond.selects RX9 yX9_save yX9_save ∈ TW := tw_of (i := 1550) (by decide +kernel) rfl
theorem mw_1551 : Cond.code yX9_save cX9_save 1 (some .int) ∈ TW := tw_of (i := 1551) (by decide +kernel) rfl
theorem mw_1552 : Cond.methodLink RL 182 yX9_restore ∈ TW := tw_of (i := 1552) (by decide +kernel) rfl
theorem mw_1553 : Cond.instanceMethod yX9_restore ∈ TW := tw_of (i := 1553) (by decide +kernel) rfl
theorem mw_1554 : Cond.selects RX9 yX9_restore yX9_restore ∈ TW := tw_of (i := 1554) (by decide +kernel) rfl
theorem mw_1555 : Cond.code yX9_restore cX9_restore 1 (some .int) ∈ TW := tw_of (i := 1555) (by decide +kernel) rfl
theorem mv_L_13 : MV RL 13 yX8_clear cX8_clear 2 (some .int) 0 := ⟨gi_cons mw_374 (gi_cons mw_375 (gi_cons mw_376 (gi_cons mw_83 (gi_cons mw_377 tw_good)))), by decide +kernel⟩
theorem mv_L_17 : MV RL 17 yX9_clear cX9_clear 3 (some .int) 0 := ⟨gi_cons mw_1143 (gi_cons mw_1144 (gi_cons mw_1145 (gi_cons mw_94 (gi_cons mw_1146 tw_good)))), by decide +kernel⟩
theorem mv_L_18 : MV RL 18 yX8_append cX8_append 2 (some .int) 1 := ⟨gi_cons mw_386 (gi_cons mw_387 (gi_cons mw_388 (gi_cons mw_83 (gi_cons mw_389 tw_good)))), by decide +kernel⟩
theorem mv_L_22 : MV RL 22 yX9_append cX9_append 2 (some .int) 1 := ⟨gi_cons mw_1338 (gi_cons mw_1339 (gi_cons mw_1340 (gi_cons mw_94 (gi_cons mw_1341 tw_good)))), by decide +kernel⟩
theorem mv_L_23 : MV RL 23 yX8_driver cX8_driver 2 (some .int) 1 := ⟨gi_cons mw_500 (gi_cons mw_501 (gi_cons mw_502 (gi_cons mw_83 (gi_cons mw_503 tw_good)))), by decide +kernel⟩
theorem mv_L_27 : MV RL 27 yX9_driver cX9_driver 2 (some .int) 1 := ⟨gi_cons mw_1147 (gi_cons mw_1148 (gi_cons mw_1149 (gi_cons mw_94 (gi_cons mw_1150 tw_good)))), by decide +kernel⟩
theorem mv_L_28 : MV RL 28 yX8_ask cX8_ask 2 (some .int) 1 := ⟨gi_cons mw_671 (gi_cons mw_672 (gi_cons mw_673 (gi_cons mw_83 (gi_cons mw_674 tw_good)))), by decide +kernel⟩
theorem mv_L_31 : MV RL 31 yX9_ask cX9_ask 2 (some .int) 1 := ⟨gi_cons mw_1184 (gi_cons mw_1185 (gi_cons mw_1186 (gi_cons mw_94 (gi_cons mw_1187 tw_good)))), by decide +kernel⟩
theorem mv_L_32 : MV RL 32 yX8_send cX8_send 2 (some .int) 1 := ⟨gi_cons mw_677 (gi_cons mw_678 (gi_cons mw_679 (gi_cons mw_83 (gi_cons mw_680 tw_good)))), by decide +kernel⟩
theorem mv_L_35 : MV RL 35 yX9_send cX9_send 2 (some .int) 1 := ⟨gi_cons mw_1246 (gi_cons mw_1247 (gi_cons mw_1248 (gi_cons mw_94 (gi_cons mw_1249 tw_good)))), by decide +kernel⟩
theorem mv_L_36 : MV RL 36 yX8_shout cX8_shout 3 (some .int) 2 := ⟨gi_cons mw_683 (gi_cons mw_684 (gi_cons mw_685 (gi_cons mw_83 (gi_cons mw_686 tw_good)))), by decide +kernel⟩
theorem mv_L_40 : MV RL 40 yX9_shout cX9_shout 3 (some .int) 2 := ⟨gi_cons mw_1274 (gi_cons mw_1275 (gi_cons mw_1276 (gi_cons mw_94 (gi_cons mw_1277 tw_good)))), by decide +kernel⟩
theorem mv_L_41 : MV RL 41 yX8_wash cX8_wash 2 (some .int) 1 := ⟨gi_cons mw_689 (gi_cons mw_690 (gi_cons mw_691 (gi_cons mw_83 (gi_cons mw_692 tw_good)))), by decide +kernel⟩
theorem mv_L_44 : MV RL 44 yX9_wash cX9_wash 2 (some .int) 1 := ⟨gi_cons mw_1282 (gi_cons mw_1283 (gi_cons mw_1284 (gi_cons mw_94 (gi_cons mw_1285 tw_good)))), by decide +kernel⟩
theorem mv_L_45 : MV RL 45 yX8_back cX8_back 2 (some .int) 1 := ⟨gi_cons mw_695 (gi_cons mw_696 (gi_cons mw_697 (gi_cons mw_83 (gi_cons mw_698 tw_good)))), by decide +kernel⟩
theorem mv_L_48 : MV RL 48 yX9_back cX9_back 2 (some .int) 1 := ⟨gi_cons mw_1294 (gi_cons mw_1295 (gi_cons mw_1296 (gi_cons mw_94 (gi_cons mw_1297 tw_good)))), by decide +kernel⟩
theorem mv_L_49 : MV RL 49 yX8_cut cX8_cut 3 (some .int) 2 := ⟨gi_cons mw_701 (gi_cons mw_702 (gi_cons mw_703 (gi_cons mw_83 (gi_cons mw_704 tw_good)))), by decide +kernel⟩
theorem mv_L_53 : MV RL 53 yX9_cut cX9_cut 3 (some .int) 2 := ⟨gi_cons mw_1302 (gi_cons mw_1303 (gi_cons mw_1304 (gi_cons mw_94 (gi_cons mw_1305 tw_good)))), by decide +kernel⟩
theorem mv_L_54 : MV RL 54 yX8_tie cX8_tie 3 (some .int) 2 := ⟨gi_cons mw_707 (gi_cons mw_708 (gi_cons mw_709 (gi_cons mw_83 (gi_cons mw_710 tw_good)))), by decide +kernel⟩
theorem mv_L_57 : MV RL 57 yX9_tie cX9_tie 3 (some .int) 2 := ⟨gi_cons mw_1318 (gi_cons mw_1319 (gi_cons mw_1320 (gi_cons mw_94 (gi_cons mw_1321 tw_good)))), by decide +kernel⟩
theorem mv_L_58 : MV RL 58 yX8_beats cX8_beats 2 (some .int) 1 := ⟨gi_cons mw_713 (gi_cons mw_714 (gi_cons mw_715 (gi_cons mw_83 (gi_cons mw_716 tw_good)))), by decide +kernel⟩
theorem mv_L_61 : MV RL 61 yX9_beats cX9_beats 2 (some .int) 1 := ⟨gi_cons mw_1322 (gi_cons mw_1323 (gi_cons mw_1324 (gi_cons mw_94 (gi_cons mw_1325 tw_good)))), by decide +kernel⟩
theorem mv_L_62 : MV RL 62 yX8_read cX8_read 5 (some .int) 0 := ⟨gi_cons mw_719 (gi_cons mw_720 (gi_cons mw_721 (gi_cons mw_83 (gi_cons mw_722 tw_good)))), by decide +kernel⟩
theorem mv_L_65 : MV RL 65 yX9_read cX9_read 4 (some .int) 0 := ⟨gi_cons mw_1342 (gi_cons mw_1343 (gi_cons mw_1344 (gi_cons mw_94 (gi_cons mw_1345 tw_good)))), by decide +kernel⟩
theorem mv_L_66 : MV RL 66 yX8_fault cX8_fault 1 (some .int) 0 := ⟨gi_cons mw_845 (gi_cons mw_846 (gi_cons mw_847 (gi_cons mw_83 (gi_cons mw_848 tw_good)))), by decide +kernel⟩
theorem mv_L_69 : MV RL 69 yX9_fault cX9_fault 1 (some .int) 0 := ⟨gi_cons mw_1400 (gi_cons mw_1401 (gi_cons mw_1402 (gi_cons mw_94 (gi_cons mw_1403 tw_good)))), by decide +kernel⟩
theorem mv_L_70 : MV RL 70 yX8_reason cX8_reason 4 (some .int) 2 := ⟨gi_cons mw_849 (gi_cons mw_850 (gi_cons mw_851 (gi_cons mw_83 (gi_cons mw_852 tw_good)))), by decide +kernel⟩
theorem mv_L_74 : MV RL 74 yX9_reason cX9_reason 3 (some .int) 2 := ⟨gi_cons mw_1404 (gi_cons mw_1405 (gi_cons mw_1406 (gi_cons mw_94 (gi_cons mw_1407 tw_good)))), by decide +kernel⟩
theorem mv_L_75 : MV RL 75 yX8_driverOf cX8_driverOf 4 (some .int) 2 := ⟨gi_cons mw_853 (gi_cons mw_854 (gi_cons mw_855 (gi_cons mw_83 (gi_cons mw_856 tw_good)))), by decide +kernel⟩
theorem mv_L_78 : MV RL 78 yX9_driverOf cX9_driverOf 3 (some .int) 2 := ⟨gi_cons mw_1408 (gi_cons mw_1409 (gi_cons mw_1410 (gi_cons mw_94 (gi_cons mw_1411 tw_good)))), by decide +kernel⟩
theorem mv_L_79 : MV RL 79 yX8_lineOf cX8_lineOf 5 (some .int) 3 := ⟨gi_cons mw_861 (gi_cons mw_862 (gi_cons mw_863 (gi_cons mw_83 (gi_cons mw_864 tw_good)))), by decide +kernel⟩
theorem mv_L_83 : MV RL 83 yX9_lineOf cX9_lineOf 4 (some .int) 3 := ⟨gi_cons mw_1416 (gi_cons mw_1417 (gi_cons mw_1418 (gi_cons mw_94 (gi_cons mw_1419 tw_good)))), by decide +kernel⟩
theorem mv_L_84 : MV RL 84 yX8_leader cX8_leader 5 (some .int) 0 := ⟨gi_cons mw_870 (gi_cons mw_871 (gi_cons mw_872 (gi_cons mw_83 (gi_cons mw_873 tw_good)))), by decide +kernel⟩
theorem mv_L_87 : MV RL 87 yX9_leader cX9_leader 4 (some .int) 0 := ⟨gi_cons mw_1424 (gi_cons mw_1425 (gi_cons mw_1426 (gi_cons mw_94 (gi_cons mw_1427 tw_good)))), by decide +kernel⟩
theorem mv_L_88 : MV RL 88 yX8_reaches cX8_reaches 3 (some .boolean) 2 := ⟨gi_cons mw_875 (gi_cons mw_876 (gi_cons mw_877 (gi_cons mw_83 (gi_cons mw_878 tw_good)))), by decide +kernel⟩
theorem mv_L_92 : MV RL 92 yX9_reaches cX9_reaches 3 (some .boolean) 2 := ⟨gi_cons mw_1428 (gi_cons mw_1429 (gi_cons mw_1430 (gi_cons mw_94 (gi_cons mw_1431 tw_good)))), by decide +kernel⟩
theorem mv_L_93 : MV RL 93 yX8_longer cX8_longer 3 (some .int) 2 := ⟨gi_cons mw_905 (gi_cons mw_906 (gi_cons mw_907 (gi_cons mw_83 (gi_cons mw_908 tw_good)))), by decide +kernel⟩
theorem mv_L_96 : MV RL 96 yX9_longer cX9_longer 3 (some .int) 2 := ⟨gi_cons mw_1432 (gi_cons mw_1433 (gi_cons mw_1434 (gi_cons mw_94 (gi_cons mw_1435 tw_good)))), by decide +kernel⟩
theorem mv_L_97 : MV RL 97 yX8_wouldVote cX8_wouldVote 3 (some .boolean) 2 := ⟨gi_cons mw_880 (gi_cons mw_881 (gi_cons mw_882 (gi_cons mw_83 (gi_cons mw_883 tw_good)))), by decide +kernel⟩
theorem mv_L_100 : MV RL 100 yX9_wouldVote cX9_wouldVote 3 (some .boolean) 2 := ⟨gi_cons mw_1436 (gi_cons mw_1437 (gi_cons mw_1438 (gi_cons mw_94 (gi_cons mw_1439 tw_good)))), by decide +kernel⟩
theorem mv_L_101 : MV RL 101 yX8_couldLead cX8_couldLead 3 (some .int) 1 := ⟨gi_cons mw_888 (gi_cons mw_889 (gi_cons mw_890 (gi_cons mw_83 (gi_cons mw_891 tw_good)))), by decide +kernel⟩
theorem mv_L_104 : MV RL 104 yX9_couldLead cX9_couldLead 5 (some .int) 1 := ⟨gi_cons mw_1444 (gi_cons mw_1445 (gi_cons mw_1446 (gi_cons mw_94 (gi_cons mw_1447 tw_good)))), by decide +kernel⟩
theorem mv_L_105 : MV RL 105 yX8_couldLeadAgain cX8_couldLeadAgain 4 (some .int) 1 := ⟨gi_cons mw_901 (gi_cons mw_902 (gi_cons mw_903 (gi_cons mw_83 (gi_cons mw_904 tw_good)))), by decide +kernel⟩
theorem mv_L_108 : MV RL 108 yX9_couldLeadAgain cX9_couldLeadAgain 4 (some .int) 1 := ⟨gi_cons mw_1452 (gi_cons mw_1453 (gi_cons mw_1454 (gi_cons mw_94 (gi_cons mw_1455 tw_good)))), by decide +kernel⟩
theorem mv_L_109 : MV RL 109 yX8_alike cX8_alike 3 (some .int) 2 := ⟨gi_cons mw_910 (gi_cons mw_911 (gi_cons mw_912 (gi_cons mw_83 (gi_cons mw_913 tw_good)))), by decide +kernel⟩
theorem mv_L_112 : MV RL 112 yX9_alike cX9_alike 3 (some .int) 2 := ⟨gi_cons mw_1456 (gi_cons mw_1457 (gi_cons mw_1458 (gi_cons mw_94 (gi_cons mw_1459 tw_good)))), by decide +kernel⟩
theorem mv_L_113 : MV RL 113 yX8_holders cX8_holders 5 (some .int) 2 := ⟨gi_cons mw_915 (gi_cons mw_916 (gi_cons mw_917 (gi_cons mw_83 (gi_cons mw_918 tw_good)))), by decide +kernel⟩
theorem mv_L_116 : MV RL 116 yX9_holders cX9_holders 5 (some .int) 2 := ⟨gi_cons mw_1460 (gi_cons mw_1461 (gi_cons mw_1462 (gi_cons mw_94 (gi_cons mw_1463 tw_good)))), by decide +kernel⟩
theorem mv_L_117 : MV RL 117 yX8_agreed cX8_agreed 3 (some .int) 0 := ⟨gi_cons mw_919 (gi_cons mw_920 (gi_cons mw_921 (gi_cons mw_83 (gi_cons mw_922 tw_good)))), by decide +kernel⟩
theorem mv_L_120 : MV RL 120 yX9_agreed cX9_agreed 3 (some .int) 0 := ⟨gi_cons mw_1464 (gi_cons mw_1465 (gi_cons mw_1466 (gi_cons mw_94 (gi_cons mw_1467 tw_good)))), by decide +kernel⟩
theorem mv_L_121 : MV RL 121 yX8_agreedAgain cX8_agreedAgain 3 (some .int) 0 := ⟨gi_cons mw_923 (gi_cons mw_924 (gi_cons mw_925 (gi_cons mw_83 (gi_cons mw_926 tw_good)))), by decide +kernel⟩
theorem mv_L_124 : MV RL 124 yX9_agreedAgain cX9_agreedAgain 3 (some .int) 0 := ⟨gi_cons mw_1468 (gi_cons mw_1469 (gi_cons mw_1470 (gi_cons mw_94 (gi_cons mw_1471 tw_good)))), by decide +kernel⟩
theorem mv_L_125 : MV RL 125 yX8_conflicts cX8_conflicts 4 (some .int) 0 := ⟨gi_cons mw_927 (gi_cons mw_928 (gi_cons mw_929 (gi_cons mw_83 (gi_cons mw_930 tw_good)))), by decide +kernel⟩
theorem mv_L_128 : MV RL 128 yX9_conflicts cX9_conflicts 4 (some .int) 0 := ⟨gi_cons mw_1472 (gi_cons mw_1473 (gi_cons mw_1474 (gi_cons mw_94 (gi_cons mw_1475 tw_good)))), by decide +kernel⟩
theorem mv_L_129 : MV RL 129 yX8_isSafe cX8_isSafe 5 (some .int) 0 := ⟨gi_cons mw_937 (gi_cons mw_938 (gi_cons mw_939 (gi_cons mw_83 (gi_cons mw_940 tw_good)))), by decide +kernel⟩
theorem mv_L_132 : MV RL 132 yX9_isSafe cX9_isSafe 3 (some .int) 0 := ⟨gi_cons mw_1476 (gi_cons mw_1477 (gi_cons mw_1478 (gi_cons mw_94 (gi_cons mw_1479 tw_good)))), by decide +kernel⟩
theorem mv_L_133 : MV RL 133 yX8_ranked cX8_ranked 3 (some .int) 1 := ⟨gi_cons mw_942 (gi_cons mw_943 (gi_cons mw_944 (gi_cons mw_83 (gi_cons mw_945 tw_good)))), by decide +kernel⟩
theorem mv_L_136 : MV RL 136 yX9_ranked cX9_ranked 5 (some .int) 1 := ⟨gi_cons mw_1480 (gi_cons mw_1481 (gi_cons mw_1482 (gi_cons mw_94 (gi_cons mw_1483 tw_good)))), by decide +kernel⟩
theorem mv_L_137 : MV RL 137 yX8_oldest cX8_oldest 3 (some .int) 1 := ⟨gi_cons mw_954 (gi_cons mw_955 (gi_cons mw_956 (gi_cons mw_83 (gi_cons mw_957 tw_good)))), by decide +kernel⟩
theorem mv_L_140 : MV RL 140 yX9_oldest cX9_oldest 6 (some .int) 1 := ⟨gi_cons mw_1488 (gi_cons mw_1489 (gi_cons mw_1490 (gi_cons mw_94 (gi_cons mw_1491 tw_good)))), by decide +kernel⟩
theorem mv_L_141 : MV RL 141 yX8_quietBeats cX8_quietBeats 2 (some .int) 0 := ⟨gi_cons mw_971 (gi_cons mw_972 (gi_cons mw_973 (gi_cons mw_83 (gi_cons mw_974 tw_good)))), by decide +kernel⟩
theorem mv_L_144 : MV RL 144 yX9_quietBeats cX9_quietBeats 3 (some .int) 0 := ⟨gi_cons mw_1500 (gi_cons mw_1501 (gi_cons mw_1502 (gi_cons mw_94 (gi_cons mw_1503 tw_good)))), by decide +kernel⟩
theorem mv_L_145 : MV RL 145 yX8_tell cX8_tell 2 (some .int) 1 := ⟨gi_cons mw_975 (gi_cons mw_976 (gi_cons mw_977 (gi_cons mw_83 (gi_cons mw_978 tw_good)))), by decide +kernel⟩
theorem mv_L_148 : MV RL 148 yX9_tell cX9_tell 4 (some .int) 1 := ⟨gi_cons mw_1504 (gi_cons mw_1505 (gi_cons mw_1506 (gi_cons mw_94 (gi_cons mw_1507 tw_good)))), by decide +kernel⟩
theorem mv_L_149 : MV RL 149 yX8_tellVotes cX8_tellVotes 3 (some .int) 1 := ⟨gi_cons mw_1020 (gi_cons mw_1021 (gi_cons mw_1022 (gi_cons mw_83 (gi_cons mw_1023 tw_good)))), by decide +kernel⟩
theorem mv_L_152 : MV RL 152 yX9_tellVotes cX9_tellVotes 3 (some .int) 1 := ⟨gi_cons mw_1516 (gi_cons mw_1517 (gi_cons mw_1518 (gi_cons mw_94 (gi_cons mw_1519 tw_good)))), by decide +kernel⟩
theorem mv_L_153 : MV RL 153 yX8_written cX8_written 2 (some .int) 1 := ⟨gi_cons mw_1030 (gi_cons mw_1031 (gi_cons mw_1032 (gi_cons mw_83 (gi_cons mw_1033 tw_good)))), by decide +kernel⟩
theorem mv_L_156 : MV RL 156 yX9_written cX9_written 2 (some .int) 1 := ⟨gi_cons mw_1520 (gi_cons mw_1521 (gi_cons mw_1522 (gi_cons mw_94 (gi_cons mw_1523 tw_good)))), by decide +kernel⟩
theorem mv_L_157 : MV RL 157 yX8_meanTale cX8_meanTale 1 (some .float) 0 := ⟨gi_cons mw_1035 (gi_cons mw_1036 (gi_cons mw_1037 (gi_cons mw_83 (gi_cons mw_1038 tw_good)))), by decide +kernel⟩
theorem mv_L_161 : MV RL 161 yX9_meanTale cX9_meanTale 1 (some .float) 0 := ⟨gi_cons mw_1524 (gi_cons mw_1525 (gi_cons mw_1526 (gi_cons mw_94 (gi_cons mw_1527 tw_good)))), by decide +kernel⟩
theorem mv_L_162 : MV RL 162 yX8_agreedShare cX8_agreedShare 2 (some .double) 0 := ⟨gi_cons mw_1043 (gi_cons mw_1044 (gi_cons mw_1045 (gi_cons mw_83 (gi_cons mw_1046 tw_good)))), by decide +kernel⟩
theorem mv_L_166 : MV RL 166 yX9_agreedShare cX9_agreedShare 2 (some .double) 0 := ⟨gi_cons mw_1532 (gi_cons mw_1533 (gi_cons mw_1534 (gi_cons mw_94 (gi_cons mw_1535 tw_good)))), by decide +kernel⟩
theorem mv_L_167 : MV RL 167 yX8_account cX8_account 2 (some .int) 1 := ⟨gi_cons mw_1051 (gi_cons mw_1052 (gi_cons mw_1053 (gi_cons mw_83 (gi_cons mw_1054 tw_good)))), by decide +kernel⟩
theorem mv_L_170 : MV RL 170 yX9_account cX9_account 2 (some .int) 1 := ⟨gi_cons mw_1536 (gi_cons mw_1537 (gi_cons mw_1538 (gi_cons mw_94 (gi_cons mw_1539 tw_good)))), by decide +kernel⟩
theorem mv_L_171 : MV RL 171 yX8_undo cX8_undo 1 (some .int) 0 := ⟨gi_cons mw_1060 (gi_cons mw_1061 (gi_cons mw_1062 (gi_cons mw_83 (gi_cons mw_1063 tw_good)))), by decide +kernel⟩
theorem mv_L_174 : MV RL 174 yX9_undo cX9_undo 1 (some .int) 0 := ⟨gi_cons mw_1544 (gi_cons mw_1545 (gi_cons mw_1546 (gi_cons mw_94 (gi_cons mw_1547 tw_good)))), by decide +kernel⟩
theorem mv_L_175 : MV RL 175 yX8_save cX8_save 1 (some .int) 0 := ⟨gi_cons mw_1068 (gi_cons mw_1069 (gi_cons mw_1070 (gi_cons mw_83 (gi_cons mw_1071 tw_good)))), by decide +kernel⟩
theorem mv_L_178 : MV RL 178 yX9_save cX9_save 1 (some .int) 0 := ⟨gi_cons mw_1548 (gi_cons mw_1549 (gi_cons mw_1550 (gi_cons mw_94 (gi_cons mw_1551 tw_good)))), by decide +kernel⟩
theorem mv_L_179 : MV RL 179 yX8_restore cX8_restore 1 (some .int) 0 := ⟨gi_cons mw_1072 (gi_cons mw_1073 (gi_cons mw_1074 (gi_cons mw_83 (gi_cons mw_1075 tw_good)))), by decide +kernel⟩
theorem mv_L_182 : MV RL 182 yX9_restore cX9_restore 1 (some .int) 0 := ⟨gi_cons mw_1552 (gi_cons mw_1553 (gi_cons mw_1554 (gi_cons mw_94 (gi_cons mw_1555 tw_good)))), by decide +kernel⟩
