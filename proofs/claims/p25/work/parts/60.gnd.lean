/-- the first ground -/
def gnd : Int → Int := itr (riseB 2) (fun _ => 0) 80
def gT0 : gS := setA gS0 2 gnd
def gS1 : gS := setA gS0 1 gnd
