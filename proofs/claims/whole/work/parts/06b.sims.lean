/-- status: both answer alike -/
def s_status (Rel : z_I → z_L → z_I → z_L → Prop) : Prop := ∀ (I : z_I) (L : z_L) (J : z_I) (K : z_L), Rel I L J K → (f_X10_status I) = (f_X11_status J ) ∧ Rel I L J K
/-- top: both answer alike -/
def s_top (Rel : z_I → z_L → z_I → z_L → Prop) : Prop := ∀ (I : z_I) (L : z_L) (J : z_I) (K : z_L), Rel I L J K → (f_X10_top L) = (f_X11_top K ) ∧ Rel I L J K
/-- bottom: both answer alike -/
def s_bottom (Rel : z_I → z_L → z_I → z_L → Prop) : Prop := ∀ (I : z_I) (L : z_L) (J : z_I) (K : z_L), Rel I L J K → (f_X10_bottom L) = (f_X11_bottom K ) ∧ Rel I L J K
/-- tray: both answer alike -/
def s_tray (Rel : z_I → z_L → z_I → z_L → Prop) : Prop := ∀ (I : z_I) (L : z_L) (J : z_I) (K : z_L) (p0 : Int32) (p1 : Int32) (p2 : Int32), Rel I L J K → ∃ (qX : Bool × z_I × z_L) (qM : Bool × z_I × z_L), f_X10_tray I L p0 p1 p2 = some qX ∧ f_X11_tray J K p0 p1 p2 = some qM ∧ qX.1 = qM.1 ∧ Rel qX.2.1 qX.2.2 qM.2.1 qM.2.2
/-- write: both answer alike -/
def s_write (Rel : z_I → z_L → z_I → z_L → Prop) : Prop := ∀ (I : z_I) (L : z_L) (J : z_I) (K : z_L) (p0 : Int32) (p1 : Int32) (p2 : Int64), Rel I L J K → ∃ (qX : Bool × z_I × z_L) (qM : Bool × z_I × z_L), f_X10_write I L p0 p1 p2 = some qX ∧ f_X11_write J K p0 p1 p2 = some qM ∧ qX.1 = qM.1 ∧ Rel qX.2.1 qX.2.2 qM.2.1 qM.2.2
/-- read: both answer alike -/
def s_read (Rel : z_I → z_L → z_I → z_L → Prop) : Prop := ∀ (I : z_I) (L : z_L) (J : z_I) (K : z_L) (p0 : Int32) (p1 : Int32), Rel I L J K → ∃ (qX : Int64 × z_I) (qM : Int64 × z_I), f_X10_read I L p0 p1 = some qX ∧ f_X11_read J K p0 p1 = some qM ∧ qX.1 = qM.1 ∧ Rel qX.2 L qM.2 K
/-- pour: both answer alike -/
def s_pour (Rel : z_I → z_L → z_I → z_L → Prop) : Prop := ∀ (I : z_I) (L : z_L) (J : z_I) (K : z_L) (p0 : Int32) (p1 : Int32) (p2 : Int32) (p3 : Int32) (p4 : Int32), Rel I L J K → ∃ (qX : Bool × z_I × z_L) (qM : Bool × z_I × z_L), f_X10_pour I L p0 p1 p2 p3 p4 = some qX ∧ f_X11_pour J K p0 p1 p2 p3 p4 = some qM ∧ qX.1 = qM.1 ∧ Rel qX.2.1 qX.2.2 qM.2.1 qM.2.2
/-- feed: both answer alike -/
def s_feed (Rel : z_I → z_L → z_I → z_L → Prop) : Prop := ∀ (I : z_I) (L : z_L) (J : z_I) (K : z_L) (p0 : Int32) (p1 : Int32) (p2 : Int32) (p3 : Int32) (p4 : Int32), Rel I L J K → ∃ (qX : Int32 × z_I) (qM : Int32 × z_I), f_X10_feed I p0 p1 p2 p3 p4 = some qX ∧ f_X11_feed J p0 p1 p2 p3 p4 = some qM ∧ qX.1 = qM.1 ∧ Rel qX.2 L qM.2 K
/-- court: both answer alike -/
def s_court (Rel : z_I → z_L → z_I → z_L → Prop) : Prop := ∀ (I : z_I) (L : z_L) (J : z_I) (K : z_L) (p0 : Int32), Rel I L J K → ∃ (qX : Int32 × z_I × z_L) (qM : Int32 × z_I × z_L), f_X10_court I L p0 = some qX ∧ f_X11_court J K p0 = some qM ∧ qX.1 = qM.1 ∧ Rel qX.2.1 qX.2.2 qM.2.1 qM.2.2
/-- terms: both answer alike -/
def s_terms (Rel : z_I → z_L → z_I → z_L → Prop) : Prop := ∀ (I : z_I) (L : z_L) (J : z_I) (K : z_L) (p0 : Int32), Rel I L J K → ∃ (qX : Int32 × z_I × z_L) (qM : Int32 × z_I), f_X10_terms I L p0 = some qX ∧ f_X11_terms J K p0 = some qM ∧ qX.1 = qM.1 ∧ Rel qX.2.1 qX.2.2 qM.2 K
/-- fault: both answer alike -/
def s_fault (Rel : z_I → z_L → z_I → z_L → Prop) : Prop := ∀ (I : z_I) (L : z_L) (J : z_I) (K : z_L) (p0 : Int32), Rel I L J K → (f_X10_fault I p0) = (f_X11_fault J p0) ∧ Rel I L J K
/-- told: both answer alike -/
def s_told (Rel : z_I → z_L → z_I → z_L → Prop) : Prop := ∀ (I : z_I) (L : z_L) (J : z_I) (K : z_L) (p0 : Int32), Rel I L J K → ∃ (qX : Int32 × z_I) (qM : Int32 × z_I), f_X10_told I p0 = some qX ∧ f_X11_told J p0 = some qM ∧ qX.1 = qM.1 ∧ Rel qX.2 L qM.2 K
/-- bed: both answer alike -/
def s_bed (Rel : z_I → z_L → z_I → z_L → Prop) : Prop := ∀ (I : z_I) (L : z_L) (J : z_I) (K : z_L) (p0 : Int32) (p1 : Int32), Rel I L J K → ∃ (qX : Int32 × z_I) (qM : Int32 × z_I), f_X10_bed I p0 p1 = some qX ∧ f_X11_bed J p0 p1 = some qM ∧ qX.1 = qM.1 ∧ Rel qX.2 L qM.2 K
/-- weight: both answer alike -/
def s_weight (Rel : z_I → z_L → z_I → z_L → Prop) : Prop := ∀ (I : z_I) (L : z_L) (J : z_I) (K : z_L) (p0 : Int32), Rel I L J K → ∃ (qX : Int32 × z_I) (qM : Int32 × z_I), f_X10_weight I p0 = some qX ∧ f_X11_weight J p0 = some qM ∧ qX.1 = qM.1 ∧ Rel qX.2 L qM.2 K
/-- claim: both answer alike -/
def s_claim (Rel : z_I → z_L → z_I → z_L → Prop) : Prop := ∀ (I : z_I) (L : z_L) (J : z_I) (K : z_L) (p0 : Int32) (p1 : Int32), Rel I L J K → ∃ (qX : Int32 × z_I) (qM : Int32 × z_I), f_X10_claim I p0 p1 = some qX ∧ f_X11_claim J p0 p1 = some qM ∧ qX.1 = qM.1 ∧ Rel qX.2 L qM.2 K
/-- scholar: both answer alike -/
def s_scholar (Rel : z_I → z_L → z_I → z_L → Prop) : Prop := ∀ (I : z_I) (L : z_L) (J : z_I) (K : z_L) (p0 : Int32) (p1 : Int32), Rel I L J K → ∃ (qX : Int32 × z_I) (qM : Int32 × z_I), f_X10_scholar I p0 p1 = some qX ∧ f_X11_scholar J p0 p1 = some qM ∧ qX.1 = qM.1 ∧ Rel qX.2 L qM.2 K
/-- make: both answer alike -/
def s_make (Rel : z_I → z_L → z_I → z_L → Prop) : Prop := ∀ (I : z_I) (L : z_L) (J : z_I) (K : z_L) (p0 : Int32), Rel I L J K → ∃ (qX : Int32 × z_I) (qM : Int32 × z_I), f_X10_make I p0 = some qX ∧ f_X11_make J p0 = some qM ∧ qX.1 = qM.1 ∧ Rel qX.2 L qM.2 K
/-- recant: both answer alike -/
def s_recant (Rel : z_I → z_L → z_I → z_L → Prop) : Prop := ∀ (I : z_I) (L : z_L) (J : z_I) (K : z_L) (p0 : Int32), Rel I L J K → ∃ (qM : Int32 × z_I), f_X11_recant J p0 = some qM ∧ (f_X10_recant I p0).1 = qM.1 ∧ Rel (f_X10_recant I p0).2 L qM.2 K
/-- forget: both answer alike -/
def s_forget (Rel : z_I → z_L → z_I → z_L → Prop) : Prop := ∀ (I : z_I) (L : z_L) (J : z_I) (K : z_L), Rel I L J K → ∃ (qM : Int32 × z_I), f_X11_forget J  = some qM ∧ (f_X10_forget I).1 = qM.1 ∧ Rel (f_X10_forget I).2 L qM.2 K
/-- walk: both answer alike -/
def s_walk (Rel : z_I → z_L → z_I → z_L → Prop) : Prop := ∀ (I : z_I) (L : z_L) (J : z_I) (K : z_L) (p0 : Int32) (p1 : Int32), Rel I L J K → ∃ (qX : Int32 × z_I) (qM : Int32 × z_I), f_X10_walk I p0 p1 = some qX ∧ f_X11_walk J p0 p1 = some qM ∧ qX.1 = qM.1 ∧ Rel qX.2 L qM.2 K
/-- pick: both answer alike -/
def s_pick (Rel : z_I → z_L → z_I → z_L → Prop) : Prop := ∀ (I : z_I) (L : z_L) (J : z_I) (K : z_L) (p0 : Int32), Rel I L J K → ∃ (qX : Int32 × z_I) (qM : Int32 × z_I), f_X10_pick I p0 = some qX ∧ f_X11_pick J p0 = some qM ∧ qX.1 = qM.1 ∧ Rel qX.2 L qM.2 K
/-- night: both answer alike -/
def s_night (Rel : z_I → z_L → z_I → z_L → Prop) : Prop := ∀ (I : z_I) (L : z_L) (J : z_I) (K : z_L) (p0 : Int32), Rel I L J K → ∃ (qX : Int32 × z_I) (qM : Int32 × z_I), f_X10_night I p0 = some qX ∧ f_X11_night J p0 = some qM ∧ qX.1 = qM.1 ∧ Rel qX.2 L qM.2 K
/-- weed: both answer alike -/
def s_weed (Rel : z_I → z_L → z_I → z_L → Prop) : Prop := ∀ (I : z_I) (L : z_L) (J : z_I) (K : z_L) (p0 : Int32), Rel I L J K → ∃ (qX : Int32 × z_I) (qM : Int32 × z_I), f_X10_weed I p0 = some qX ∧ f_X11_weed J p0 = some qM ∧ qX.1 = qM.1 ∧ Rel qX.2 L qM.2 K
/-- teach: both answer alike -/
def s_teach (Rel : z_I → z_L → z_I → z_L → Prop) : Prop := ∀ (I : z_I) (L : z_L) (J : z_I) (K : z_L) (p0 : Int32) (p1 : Int32) (p2 : Bool), Rel I L J K → ∃ (qX : Bool × z_I) (qM : Bool × z_I), f_X10_teach I p0 p1 p2 = some qX ∧ f_X11_teach J p0 p1 p2 = some qM ∧ qX.1 = qM.1 ∧ Rel qX.2 L qM.2 K
/-- weigh: both answer alike -/
def s_weigh (Rel : z_I → z_L → z_I → z_L → Prop) : Prop := ∀ (I : z_I) (L : z_L) (J : z_I) (K : z_L) (p0 : Int32) (p1 : Int32), Rel I L J K → ∃ (qX : Int32 × z_I) (qM : Int32 × z_I), f_X10_weigh I p0 p1 = some qX ∧ f_X11_weigh J p0 p1 = some qM ∧ qX.1 = qM.1 ∧ Rel qX.2 L qM.2 K
/-- think: both answer alike -/
def s_think (Rel : z_I → z_L → z_I → z_L → Prop) : Prop := ∀ (I : z_I) (L : z_L) (J : z_I) (K : z_L) (p0 : Int32) (p1 : Int32) (p2 : Int32), Rel I L J K → ∃ (qX : Int32 × z_I × z_L) (qM : Int32 × z_I × z_L), f_X10_think I L p0 p1 p2 = some qX ∧ f_X11_think J K p0 p1 p2 = some qM ∧ qX.1 = qM.1 ∧ Rel qX.2.1 qX.2.2 qM.2.1 qM.2.2
/-- rule: both answer alike -/
def s_rule (Rel : z_I → z_L → z_I → z_L → Prop) : Prop := ∀ (I : z_I) (L : z_L) (J : z_I) (K : z_L) (p0 : Int32), Rel I L J K → (f_X10_rule I p0).1 = (f_X11_rule J p0).1 ∧ Rel (f_X10_rule I p0).2 L (f_X11_rule J p0).2 K
/-- partOf: both answer alike -/
def s_partOf (Rel : z_I → z_L → z_I → z_L → Prop) : Prop := ∀ (I : z_I) (L : z_L) (J : z_I) (K : z_L) (p0 : Int32), Rel I L J K → ∃ (qX : Int32 × z_I) (qM : Int32 × z_I), f_X10_partOf I p0 = some qX ∧ f_X11_partOf J p0 = some qM ∧ qX.1 = qM.1 ∧ Rel qX.2 L qM.2 K
/-- couples: both answer alike -/
def s_couples (Rel : z_I → z_L → z_I → z_L → Prop) : Prop := ∀ (I : z_I) (L : z_L) (J : z_I) (K : z_L), Rel I L J K → ∃ (qX : Int32 × z_I) (qM : Int32 × z_I), f_X10_couples I = some qX ∧ f_X11_couples J  = some qM ∧ qX.1 = qM.1 ∧ Rel qX.2 L qM.2 K
/-- parting: both answer alike -/
def s_parting (Rel : z_I → z_L → z_I → z_L → Prop) : Prop := ∀ (I : z_I) (L : z_L) (J : z_I) (K : z_L) (p0 : Int32) (p1 : Int32), Rel I L J K → ∃ (qX : Int32 × z_I) (qM : Int32 × z_I), f_X10_parting I p0 p1 = some qX ∧ f_X11_parting J p0 p1 = some qM ∧ qX.1 = qM.1 ∧ Rel qX.2 L qM.2 K
/-- barren: both answer alike -/
def s_barren (Rel : z_I → z_L → z_I → z_L → Prop) : Prop := ∀ (I : z_I) (L : z_L) (J : z_I) (K : z_L), Rel I L J K → ∃ (qX : Int32 × z_I) (qM : Int32 × z_I), f_X10_barren I = some qX ∧ f_X11_barren J  = some qM ∧ qX.1 = qM.1 ∧ Rel qX.2 L qM.2 K
/-- most: both answer alike -/
def s_most (Rel : z_I → z_L → z_I → z_L → Prop) : Prop := ∀ (I : z_I) (L : z_L) (J : z_I) (K : z_L) (p0 : Int32), Rel I L J K → ∃ (qX : Int32 × z_I) (qM : Int32 × z_I), f_X10_most I p0 = some qX ∧ f_X11_most J p0 = some qM ∧ qX.1 = qM.1 ∧ Rel qX.2 L qM.2 K
/-- first: both answer alike -/
def s_first (Rel : z_I → z_L → z_I → z_L → Prop) : Prop := ∀ (I : z_I) (L : z_L) (J : z_I) (K : z_L) (p0 : Int32) (p1 : Int32), Rel I L J K → ∃ (qX : Int32 × z_I) (qM : Int32 × z_I), f_X10_first I p0 p1 = some qX ∧ f_X11_first J p0 p1 = some qM ∧ qX.1 = qM.1 ∧ Rel qX.2 L qM.2 K
/-- fewest: both answer alike -/
def s_fewest (Rel : z_I → z_L → z_I → z_L → Prop) : Prop := ∀ (I : z_I) (L : z_L) (J : z_I) (K : z_L) (p0 : Int32), Rel I L J K → ∃ (qX : Int32 × z_I) (qM : Int32 × z_I), f_X10_fewest I p0 = some qX ∧ f_X11_fewest J p0 = some qM ∧ qX.1 = qM.1 ∧ Rel qX.2 L qM.2 K
/-- fewestSet: both answer alike -/
def s_fewestSet (Rel : z_I → z_L → z_I → z_L → Prop) : Prop := ∀ (I : z_I) (L : z_L) (J : z_I) (K : z_L) (p0 : Int32), Rel I L J K → ∃ (qX : Int32 × z_I) (qM : Int32 × z_I), f_X10_fewestSet I p0 = some qX ∧ f_X11_fewestSet J p0 = some qM ∧ qX.1 = qM.1 ∧ Rel qX.2 L qM.2 K
/-- deep: both answer alike -/
def s_deep (Rel : z_I → z_L → z_I → z_L → Prop) : Prop := ∀ (I : z_I) (L : z_L) (J : z_I) (K : z_L) (p0 : Int32), Rel I L J K → ∃ (qX : Int32 × z_I) (qM : Int32 × z_I), f_X10_deep I p0 = some qX ∧ f_X11_deep J p0 = some qM ∧ qX.1 = qM.1 ∧ Rel qX.2 L qM.2 K
/-- askDeep: both answer alike -/
def s_askDeep (Rel : z_I → z_L → z_I → z_L → Prop) : Prop := ∀ (I : z_I) (L : z_L) (J : z_I) (K : z_L) (p0 : Int32), Rel I L J K → ∃ (qX : Int32 × z_I) (qM : Int32 × z_I), f_X10_askDeep I p0 = some qX ∧ f_X11_askDeep J p0 = some qM ∧ qX.1 = qM.1 ∧ Rel qX.2 L qM.2 K
/-- dear: both answer alike -/
def s_dear (Rel : z_I → z_L → z_I → z_L → Prop) : Prop := ∀ (I : z_I) (L : z_L) (J : z_I) (K : z_L) (p0 : Int32), Rel I L J K → ∃ (qX : Int32 × z_I) (qM : Int32 × z_I), f_X10_dear I p0 = some qX ∧ f_X11_dear J p0 = some qM ∧ qX.1 = qM.1 ∧ Rel qX.2 L qM.2 K
/-- askDear: both answer alike -/
def s_askDear (Rel : z_I → z_L → z_I → z_L → Prop) : Prop := ∀ (I : z_I) (L : z_L) (J : z_I) (K : z_L) (p0 : Int32), Rel I L J K → ∃ (qX : Int32 × z_I) (qM : Int32 × z_I), f_X10_askDear I p0 = some qX ∧ f_X11_askDear J p0 = some qM ∧ qX.1 = qM.1 ∧ Rel qX.2 L qM.2 K
/-- fits: both answer alike -/
def s_fits (Rel : z_I → z_L → z_I → z_L → Prop) : Prop := ∀ (I : z_I) (L : z_L) (J : z_I) (K : z_L) (p0 : Int32) (p1 : Int32), Rel I L J K → ∃ (qX : Int32 × z_I) (qM : Int32 × z_I), f_X10_fits I L p0 p1 = some qX ∧ f_X11_fits J K p0 p1 = some qM ∧ qX.1 = qM.1 ∧ Rel qX.2 L qM.2 K
/-- likely: both answer alike -/
def s_likely (Rel : z_I → z_L → z_I → z_L → Prop) : Prop := ∀ (I : z_I) (L : z_L) (J : z_I) (K : z_L) (p0 : Int32) (p1 : Int32), Rel I L J K → ∃ (qX : Int32 × z_I) (qM : Int32 × z_I), f_X10_likely I L p0 p1 = some qX ∧ f_X11_likely J K p0 p1 = some qM ∧ qX.1 = qM.1 ∧ Rel qX.2 L qM.2 K
/-- oddsThat: both answer alike -/
def s_oddsThat (Rel : z_I → z_L → z_I → z_L → Prop) : Prop := ∀ (I : z_I) (L : z_L) (J : z_I) (K : z_L) (p0 : Int32) (p1 : Int32) (p2 : Int32), Rel I L J K → ∃ (qX : Bool × z_I × z_L) (qM : Bool × z_I × z_L), f_X10_oddsThat I L p0 p1 p2 = some qX ∧ f_X11_oddsThat J K p0 p1 p2 = some qM ∧ qX.1 = qM.1 ∧ Rel qX.2.1 qX.2.2 qM.2.1 qM.2.2
/-- next: both answer alike -/
def s_next (Rel : z_I → z_L → z_I → z_L → Prop) : Prop := ∀ (I : z_I) (L : z_L) (J : z_I) (K : z_L) (p0 : Int32) (p1 : Int32), Rel I L J K → ∃ (qX : Int32 × z_I) (qM : Int32 × z_I), f_X10_next I L p0 p1 = some qX ∧ f_X11_next J K p0 p1 = some qM ∧ qX.1 = qM.1 ∧ Rel qX.2 L qM.2 K
/-- gather: both answer alike -/
def s_gather (Rel : z_I → z_L → z_I → z_L → Prop) : Prop := ∀ (I : z_I) (L : z_L) (J : z_I) (K : z_L) (p0 : Int32) (p1 : Int32), Rel I L J K → ∃ (qX : Int32 × z_I) (qM : Int32 × z_I), f_X10_gather I p0 p1 = some qX ∧ f_X11_gather J p0 p1 = some qM ∧ qX.1 = qM.1 ∧ Rel qX.2 L qM.2 K
/-- brisk: both answer alike -/
def s_brisk (Rel : z_I → z_L → z_I → z_L → Prop) : Prop := ∀ (I : z_I) (L : z_L) (J : z_I) (K : z_L) (p0 : Int32) (p1 : Int32), Rel I L J K → ∃ (qX : Int32 × z_I) (qM : Int32 × z_I), f_X10_brisk I p0 p1 = some qX ∧ f_X11_brisk J p0 p1 = some qM ∧ qX.1 = qM.1 ∧ Rel qX.2 L qM.2 K
/-- game: both answer alike -/
def s_game (Rel : z_I → z_L → z_I → z_L → Prop) : Prop := ∀ (I : z_I) (L : z_L) (J : z_I) (K : z_L) (p0 : Int32), Rel I L J K → ∃ (qX : Int32 × z_I) (qM : Int32 × z_I), f_X10_game I p0 = some qX ∧ f_X11_game J p0 = some qM ∧ qX.1 = qM.1 ∧ Rel qX.2 L qM.2 K
/-- moveOf: both answer alike -/
def s_moveOf (Rel : z_I → z_L → z_I → z_L → Prop) : Prop := ∀ (I : z_I) (L : z_L) (J : z_I) (K : z_L) (p0 : Int32), Rel I L J K → ∃ (qX : Int32 × z_I) (qM : Int32 × z_I), f_X10_moveOf I p0 = some qX ∧ f_X11_moveOf J p0 = some qM ∧ qX.1 = qM.1 ∧ Rel qX.2 L qM.2 K
/-- blind: both answer alike -/
def s_blind (Rel : z_I → z_L → z_I → z_L → Prop) : Prop := ∀ (I : z_I) (L : z_L) (J : z_I) (K : z_L) (p0 : Int32) (p1 : Int32) (p2 : Int32), Rel I L J K → ∃ (qX : Bool × z_I × z_L) (qM : Bool × z_I × z_L), f_X10_blind I L p0 p1 p2 = some qX ∧ f_X11_blind J K p0 p1 p2 = some qM ∧ qX.1 = qM.1 ∧ Rel qX.2.1 qX.2.2 qM.2.1 qM.2.2
/-- share: both answer alike -/
def s_share (Rel : z_I → z_L → z_I → z_L → Prop) : Prop := ∀ (I : z_I) (L : z_L) (J : z_I) (K : z_L) (p0 : Int32), Rel I L J K → ∃ (qX : Bool × z_I × z_L) (qM : Bool × z_I × z_L), f_X10_share I L p0 = some qX ∧ f_X11_share J K p0 = some qM ∧ qX.1 = qM.1 ∧ Rel qX.2.1 qX.2.2 qM.2.1 qM.2.2
/-- copyBeds: both answer alike -/
def s_copyBeds (Rel : z_I → z_L → z_I → z_L → Prop) : Prop := ∀ (I : z_I) (L : z_L) (J : z_I) (K : z_L) (p0 : Int32), Rel I L J K → ∃ (qX : Int32 × z_I × z_L) (qM : Int32 × z_I × z_L), f_X10_copyBeds I L p0 = some qX ∧ f_X11_copyBeds J K p0 = some qM ∧ qX.1 = qM.1 ∧ Rel qX.2.1 qX.2.2 qM.2.1 qM.2.2
/-- live: both answer alike -/
def s_live (Rel : z_I → z_L → z_I → z_L → Prop) : Prop := ∀ (I : z_I) (L : z_L) (J : z_I) (K : z_L) (p0 : Int32), Rel I L J K → ∃ (qX : Int32 × z_I) (qM : Int32 × z_I), f_X10_live I p0 = some qX ∧ f_X11_live J p0 = some qM ∧ qX.1 = qM.1 ∧ Rel qX.2 L qM.2 K
/-- lived: both answer alike -/
def s_lived (Rel : z_I → z_L → z_I → z_L → Prop) : Prop := ∀ (I : z_I) (L : z_L) (J : z_I) (K : z_L) (p0 : Int32), Rel I L J K → ∃ (qX : Int32 × z_I) (qM : Int32 × z_I), f_X10_lived I p0 = some qX ∧ f_X11_lived J p0 = some qM ∧ qX.1 = qM.1 ∧ Rel qX.2 L qM.2 K
/-- mean: both answer alike -/
def s_mean (Rel : z_I → z_L → z_I → z_L → Prop) : Prop := ∀ (I : z_I) (L : z_L) (J : z_I) (K : z_L) (p0 : Int32) (p1 : Int32), Rel I L J K → ∃ (qX : Bool × z_I × z_L) (qM : Bool × z_I × z_L), f_X10_mean I L p0 p1 = some qX ∧ f_X11_mean J K p0 p1 = some qM ∧ qX.1 = qM.1 ∧ Rel qX.2.1 qX.2.2 qM.2.1 qM.2.2
/-- mark: both answer alike -/
def s_mark (Rel : z_I → z_L → z_I → z_L → Prop) : Prop := ∀ (I : z_I) (L : z_L) (J : z_I) (K : z_L), Rel I L J K → ∃ (qX : Int32 × z_I × z_L) (qM : Int32 × z_I × z_L), f_X10_mark I L = some qX ∧ f_X11_mark J K  = some qM ∧ qX.1 = qM.1 ∧ Rel qX.2.1 qX.2.2 qM.2.1 qM.2.2
/-- undo: both answer alike -/
def s_undo (Rel : z_I → z_L → z_I → z_L → Prop) : Prop := ∀ (I : z_I) (L : z_L) (J : z_I) (K : z_L), Rel I L J K → ∃ (qX : Int32 × z_I × z_L) (qM : Int32 × z_I × z_L), f_X10_undo I L = some qX ∧ f_X11_undo J K  = some qM ∧ qX.1 = qM.1 ∧ Rel qX.2.1 qX.2.2 qM.2.1 qM.2.2
